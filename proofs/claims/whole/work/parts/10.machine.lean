abbrev xV : Type := Int32 ⊕ (Int64 ⊕ Option (Nat × Nat))
abbrev xM : Type := (Nat → Nat → Nat → Int32) × (Nat → Nat → Nat → Int64) × (Nat → Nat → Nat → Option Nat)
abbrev xLs : Type := List (Option xV)
abbrev xC : Type := Nat × xLs × List xV × xM
abbrev xS : Type := xC ⊕ ((Option xV × xM) ⊕ (Nat × List xV × Nat × xLs × List xV × xM))
abbrev vI (x : Int32) : xV := .inl x
abbrev vL (x : Int64) : xV := .inr (.inl x)
abbrev vR (t e : Nat) : xV := .inr (.inr (some (t, e)))
abbrev vN : xV := .inr (.inr none)
abbrev vO (t : Nat) (o : Option Nat) : xV := .inr (.inr (o.map fun e => (t, e)))
abbrev sN (pc : Nat) (L : xLs) (st : List xV) (M : xM) : Option xS := some (.inl (pc, L, st, M))
def xu {α : Type} (f : Nat → Nat → Nat → α) (t e k : Nat) (v : α) : Nat → Nat → Nat → α := fun t' e' k' => if t' = t ∧ e' = e ∧ k' = k then v else f t' e' k'
def mI (M : xM) (t e k : Nat) (v : Int32) : xM := (xu M.1 t e k v, M.2)
def mJ (M : xM) (t e k : Nat) (v : Int64) : xM := (M.1, xu M.2.1 t e k v, M.2.2)
def mR (M : xM) (t e k : Nat) (v : Option Nat) : xM := (M.1, M.2.1, xu M.2.2 t e k v)
def mC (M : xM) (t e t' e' sp dp n : Nat) : xM := (fun a b k => if a = t' ∧ b = e' then va_cpy (M.1 t e) (M.1 t' e') sp dp n k else M.1 a b k, M.2)
def xsy (t : Nat) : Nat := if t < 20 then 0 else 1
def xsj (j : Nat) : Nat := if xmo j = 3 then 1 else 0
def xcm (j t : Nat) : Nat := if xsy t = xsj j then xcn t else 0
def xtg (pc : Nat) (off : Int) : Option Nat := if 0 ≤ (pc : Int) + off then some ((pc : Int) + off).toNat else none
def xns (L : xLs) (i : Nat) : Bool := match i with
  | 0 => true
  | k + 1 => match L[k]? with
    | some (some (.inr (.inl _))) => false
    | _ => true
def xst (L : xLs) (i : Nat) (v : xV) : Option xLs := if xns L i = true ∧ i < L.length then some (L.set i (some v)) else none
def xld (pc : Nat) (L : xLs) (st : List xV) (M : xM) (i : Nat) : Option xS := match L[i]? with
  | some (some v) => sN pc L (v :: st) M
  | _ => none
def xcmp (c : ClassFile.Cond) (x y : Int32) : Prop := match c with
  | .eq => x = y
  | .ne => ¬ x = y
  | .lt => x < y
  | .ge => y ≤ x
  | .gt => y < x
  | .le => x ≤ y
def xcmpD (c : ClassFile.Cond) (x y : Int32) : Decidable (xcmp c x y) := match c with
  | .eq => inferInstanceAs (Decidable (x = y))
  | .ne => inferInstanceAs (Decidable (¬ x = y))
  | .lt => inferInstanceAs (Decidable (x < y))
  | .ge => inferInstanceAs (Decidable (y ≤ x))
  | .gt => inferInstanceAs (Decidable (y < x))
  | .le => inferInstanceAs (Decidable (x ≤ y))
def xbr (pc : Nat) (off : Int) (c : Prop) (dc : Decidable c) (L : xLs) (st : List xV) (M : xM) : Option xS := match xtg pc off with
  | some t => if c then sN t L st M else sN (pc + 3) L st M
  | none => none
def xb2 (f : Int32 → Int32 → Int32) (pc : Nat) (L : xLs) (st : List xV) (M : xM) : Option xS := match st with
  | .inl y :: .inl x :: r => sN (pc + 1) L (vI (f x y) :: r) M
  | _ => none
def xj2 (f : Int64 → Int64 → Int64) (pc : Nat) (L : xLs) (st : List xV) (M : xM) : Option xS := match st with
  | .inr (.inl y) :: .inr (.inl x) :: r => sN (pc + 1) L (vL (f x y) :: r) M
  | _ => none
def xldI (pc i : Nat) (L : xLs) (st : List xV) (M : xM) : Option xS := match L[i]? with
  | some (some (.inl x)) => sN pc L (vI x :: st) M
  | _ => none
def xldJ (pc i : Nat) (L : xLs) (st : List xV) (M : xM) : Option xS := match L[i]? with
  | some (some (.inr (.inl x))) => sN pc L (vL x :: st) M
  | _ => none
def xldA (pc i : Nat) (L : xLs) (st : List xV) (M : xM) : Option xS := match L[i]? with
  | some (some (.inr (.inr o))) => sN pc L (.inr (.inr o) :: st) M
  | _ => none
def xstI (pc i : Nat) (L : xLs) (st : List xV) (M : xM) : Option xS := match st with
  | .inl x :: r => match xst L i (vI x) with
    | some L' => sN pc L' r M
    | none => none
  | _ => none
def xstA (pc i : Nat) (L : xLs) (st : List xV) (M : xM) : Option xS := match st with
  | .inr (.inr o) :: r => match xst L i (.inr (.inr o)) with
    | some L' => sN pc L' r M
    | none => none
  | _ => none
def xgv (M : xM) (t e k : Nat) : Option xV := match (xfk t)[k]? with
  | some r => if r ≤ 1 then some (vI (M.1 t e k)) else if r = 2 then some (vL (M.2.1 t e k)) else if r < 100 then some (vO (r - 10) (M.2.2 t e k)) else some (vR (r - 100) e)
  | none => none
def xget (j idx pc : Nat) (L : xLs) (st : List xV) (M : xM) : Option xS := match st with
  | .inr (.inr (some (t, e))) :: r => match xfl (xmo j) idx with
    | some (t', k, _) => if t = t' ∧ e < xcm j t then (match xgv M t e k with
      | some v => sN (pc + 3) L (v :: r) M
      | none => none) else none
    | none => none
  | _ => none
def xpv (M : xM) (t e k : Nat) (v : xV) : Option xM := match (xfk t)[k]?, v with
  | some 0, .inl x => some (mI M t e k x)
  | some 1, .inl x => if x = 0 ∨ x = 1 then some (mI M t e k x) else none
  | some 2, .inr (.inl x) => some (mJ M t e k x)
  | some r, .inr (.inr none) => if 10 ≤ r ∧ r < 100 then some (mR M t e k none) else none
  | some r, .inr (.inr (some (t', e'))) => if 10 ≤ r ∧ r < 100 ∧ t' = r - 10 then some (mR M t e k (some e')) else none
  | _, _ => none
def xput (j idx pc : Nat) (L : xLs) (st : List xV) (M : xM) : Option xS := match st with
  | v :: .inr (.inr (some (t, e))) :: r => match xfl (xmo j) idx with
    | some (t', k, _) => if t = t' ∧ e < xcm j t then (match xpv M t e k v with
      | some M' => sN (pc + 3) L r M'
      | none => none) else none
    | none => none
  | _ => none
def xinb (i : Int32) (n : Nat) : Bool := decide (¬ i < 0) && decide (i.toNatClampNeg < n)
def xalI (j ek pc : Nat) (L : xLs) (st : List xV) (M : xM) : Option xS := match st with
  | .inl i :: .inr (.inr (some (t, e))) :: r => if xob t = none ∧ xek t = ek ∧ e < xcm j t ∧ xinb i (xal t) = true then sN (pc + 1) L (vI (M.1 t e i.toNatClampNeg) :: r) M else none
  | _ => none
def xalJ (j pc : Nat) (L : xLs) (st : List xV) (M : xM) : Option xS := match st with
  | .inl i :: .inr (.inr (some (t, e))) :: r => if xob t = none ∧ xek t = 2 ∧ e < xcm j t ∧ xinb i (xal t) = true then sN (pc + 1) L (vL (M.2.1 t e i.toNatClampNeg) :: r) M else none
  | _ => none
def xalA (j pc : Nat) (L : xLs) (st : List xV) (M : xM) : Option xS := match st with
  | .inl i :: .inr (.inr (some (t, e))) :: r => if xob t = none ∧ 10 ≤ xek t ∧ e < xcm j t ∧ xinb i (xal t) = true then sN (pc + 1) L ((if xek t < 100 then vO (xek t - 10) (M.2.2 t e i.toNatClampNeg) else vR (xek t - 100) i.toNatClampNeg) :: r) M else none
  | _ => none
def xasI (j ek pc : Nat) (L : xLs) (st : List xV) (M : xM) : Option xS := match st with
  | .inl x :: .inl i :: .inr (.inr (some (t, e))) :: r => if xob t = none ∧ xek t = ek ∧ e < xcm j t ∧ xinb i (xal t) = true ∧ (ek = 1 → x = 0 ∨ x = 1) then sN (pc + 1) L r (mI M t e i.toNatClampNeg x) else none
  | _ => none
def xasJ (j pc : Nat) (L : xLs) (st : List xV) (M : xM) : Option xS := match st with
  | .inr (.inl x) :: .inl i :: .inr (.inr (some (t, e))) :: r => if xob t = none ∧ xek t = 2 ∧ e < xcm j t ∧ xinb i (xal t) = true then sN (pc + 1) L r (mJ M t e i.toNatClampNeg x) else none
  | _ => none
def xasA (j pc : Nat) (L : xLs) (st : List xV) (M : xM) : Option xS := match st with
  | .inr (.inr o) :: .inl i :: .inr (.inr (some (t, e))) :: r => if xob t = none ∧ 10 ≤ xek t ∧ xek t < 100 ∧ e < xcm j t ∧ xinb i (xal t) = true then (match o with
    | none => sN (pc + 1) L r (mR M t e i.toNatClampNeg none)
    | some (t', e') => if t' = xek t - 10 ∧ e' < xcm j t' then sN (pc + 1) L r (mR M t e i.toNatClampNeg (some e')) else none) else none
  | _ => none
def xlen (j pc : Nat) (L : xLs) (st : List xV) (M : xM) : Option xS := match st with
  | .inr (.inr (some (t, e))) :: r => if xob t = none ∧ e < xcm j t then sN (pc + 1) L (vI (Int32.ofNat (xal t)) :: r) M else none
  | _ => none
def xcopy (j pc : Nat) (L : xLs) (st : List xV) (M : xM) : Option xS := match st with
  | .inl n :: .inl dp :: .inr (.inr (some (t', e'))) :: .inl sp :: .inr (.inr (some (t, e))) :: r =>
    if (xob t = none ∧ xek t = 0 ∧ e < xcm j t) ∧ (xob t' = none ∧ xek t' = 0 ∧ e' < xcm j t') ∧ (¬ sp < 0 ∧ ¬ dp < 0 ∧ ¬ n < 0) ∧ sp.toNatClampNeg + n.toNatClampNeg ≤ xal t ∧ dp.toNatClampNeg + n.toNatClampNeg ≤ xal t' ∧ r.length ≤ 4 then sN (pc + 3) L r (mC M t e t' e' sp.toNatClampNeg dp.toNatClampNeg n.toNatClampNeg) else none
  | _ => none
def xmin (pc : Nat) (L : xLs) (st : List xV) (M : xM) : Option xS := match st with
  | .inl y :: .inl x :: r => if r.length ≤ 4 then sN (pc + 3) L (vI (if y < x then y else x) :: r) M else none
  | _ => none
def xsl : List xV → xLs
  | [] => []
  | .inr (.inl x) :: r => some (vL x) :: none :: xsl r
  | .inl x :: r => some (vI x) :: xsl r
  | .inr (.inr o) :: r => some (.inr (.inr o)) :: xsl r
def xen (k : Nat) (as : List xV) : xLs := xsl as ++ List.replicate (xmL k - (xsl as).length) none
def xct (v : xV) : Nat := match v with
  | .inr (.inl _) => 2
  | _ => 1
def xcall (k pc : Nat) (as : List xV) (L : xLs) (r : List xV) (M : xM) : Option xS :=
  if (xsl as).length ≤ xmL k ∧ (r.map xct).sum ≤ 8 then some (.inr (.inr (k, as, pc + 3, L, r, M))) else none
def xinv (j idx pc : Nat) (L : xLs) (st : List xV) (M : xM) : Option xS := match xml (xmo j) idx with
  | some (k, kd) => if kd < 2 ∧ xmn k ≤ st.length then (match st.drop (xmn k) with
    | .inr (.inr (some (t, e))) :: r => if xmt k = t + 1 ∧ e < xcm j t then xcall k pc (vR t e :: (st.take (xmn k)).reverse) L r M else none
    | _ => none) else none
  | none => none
def xins (d j idx pc : Nat) (L : xLs) (st : List xV) (M : xM) : Option xS := match xml (xmo j) idx with
  | some (k, kd) => if kd = 2 ∧ xmt k = 0 ∧ xmn k ≤ st.length then xcall k pc (st.take (xmn k)).reverse L (st.drop (xmn k)) M else none
  | none => if 0 < d ∧ (xmo j, idx) ∈ xacL then xcopy j pc L st M else if 0 < d ∧ (xmo j, idx) ∈ xmmL then xmin pc L st M else none
def xret (j : Nat) (st : List xV) (M : xM) : Option xS := match st with
  | [.inl x] => if xmr j = some .int ∨ (xmr j = some .boolean ∧ (x = 0 ∨ x = 1)) then some (.inr (.inl (some (vI x), M))) else none
  | _ => none
def xisO (r : Option FieldType) : Bool := match r with
  | some (.object _) => true
  | _ => false
def xreA (j : Nat) (st : List xV) (M : xM) : Option xS := match st with
  | [.inr (.inr o)] => if xisO (xmr j) = true then some (.inr (.inl (some (.inr (.inr o)), M))) else none
  | _ => none
def xsw (pc : Nat) (dflt lo hi : Int) (offs : Array Int) (L : xLs) (st : List xV) (M : xM) : Option xS := match st with
  | .inl x :: r => if x.toInt < lo ∨ hi < x.toInt then (match xtg pc dflt with
      | some t => sN t L r M
      | none => none) else (match offs[(x.toInt - lo).toNat]? with
      | some off => (match xtg pc off with
        | some t => sN t L r M
        | none => none)
      | none => none)
  | _ => none
def xvo (j : Nat) (o : Option (Nat × Nat)) : Bool := match o with
  | none => true
  | some q => decide (q.2 < xcm j q.1)
def xi (d j : Nat) (i : Instr) (pc : Nat) (L : xLs) (st : List xV) (M : xM) : Option xS := match i with
  | .iconst k => sN (pc + 1) L (vI (Int32.ofInt k) :: st) M
  | .bipush k => sN (pc + 2) L (vI (Int8.ofInt k).toInt32 :: st) M
  | .sipush k => sN (pc + 3) L (vI (Int16.ofInt k).toInt32 :: st) M
  | .lconst k => sN (pc + 1) L (vL (Int64.ofNat k) :: st) M
  | .ldc x => match xkc (xmo j) x with
    | some v => sN (pc + 2) L (vI v :: st) M
    | none => none
  | .ldc_w x => match xkc (xmo j) x with
    | some v => sN (pc + 3) L (vI v :: st) M
    | none => none
  | .ldc2_w x => match xkl (xmo j) x with
    | some v => sN (pc + 3) L (vL v :: st) M
    | none => none
  | .aconst_null => sN (pc + 1) L (vN :: st) M
  | .iload k => xldI (pc + 2) k L st M
  | .iload_n k => xldI (pc + 1) k L st M
  | .lload k => xldJ (pc + 2) k L st M
  | .lload_n k => xldJ (pc + 1) k L st M
  | .aload k => xldA (pc + 2) k L st M
  | .aload_n k => xldA (pc + 1) k L st M
  | .istore k => xstI (pc + 2) k L st M
  | .istore_n k => xstI (pc + 1) k L st M
  | .astore k => xstA (pc + 2) k L st M
  | .astore_n k => xstA (pc + 1) k L st M
  | .iinc k v => match L[k]? with
    | some (some (.inl x)) => match xst L k (vI (x + Int32.ofInt v)) with
      | some L' => sN (pc + 3) L' st M
      | none => none
    | _ => none
  | .iadd => xb2 (fun x y => x + y) pc L st M
  | .isub => xb2 (fun x y => x - y) pc L st M
  | .imul => xb2 (fun x y => x * y) pc L st M
  | .iand => xb2 (fun x y => x &&& y) pc L st M
  | .ior => xb2 (fun x y => x ||| y) pc L st M
  | .ixor => xb2 (fun x y => x ^^^ y) pc L st M
  | .ishl => xb2 (fun x y => x <<< (y &&& 31)) pc L st M
  | .ishr => xb2 (fun x y => x >>> (y &&& 31)) pc L st M
  | .irem => match st with
    | .inl y :: .inl x :: r => if y = 0 then none else sN (pc + 1) L (vI (x - x / y * y) :: r) M
    | _ => none
  | .ineg => match st with
    | .inl x :: r => sN (pc + 1) L (vI (-x) :: r) M
    | _ => none
  | .ladd => xj2 (fun x y => x + y) pc L st M
  | .lsub => xj2 (fun x y => x - y) pc L st M
  | .lcmp => match st with
    | .inr (.inl y) :: .inr (.inl x) :: r => sN (pc + 1) L (vI (lg_cmp x y) :: r) M
    | _ => none
  | .i2l => match st with
    | .inl x :: r => sN (pc + 1) L (vL x.toInt64 :: r) M
    | _ => none
  | .l2i => match st with
    | .inr (.inl x) :: r => sN (pc + 1) L (vI x.toInt32 :: r) M
    | _ => none
  | .dup => match st with
    | .inl x :: r => sN (pc + 1) L (vI x :: vI x :: r) M
    | .inr (.inr o) :: r => sN (pc + 1) L (.inr (.inr o) :: .inr (.inr o) :: r) M
    | _ => none
  | .dup2 => match st with
    | .inl x :: .inr (.inr o) :: r => sN (pc + 1) L (vI x :: .inr (.inr o) :: vI x :: .inr (.inr o) :: r) M
    | _ => none
  | .ifCond c off => match st with
    | .inl x :: r => xbr pc off (xcmp c x 0) (xcmpD c x 0) L r M
    | _ => none
  | .if_icmp c off => match st with
    | .inl y :: .inl x :: r => xbr pc off (xcmp c x y) (xcmpD c x y) L r M
    | _ => none
  | .ifnull off => match st with
    | .inr (.inr o) :: r => xbr pc off (o = none) (inferInstance) L r M
    | _ => none
  | .ifnonnull off => match st with
    | .inr (.inr o) :: r => xbr pc off (¬ o = none) (inferInstance) L r M
    | _ => none
  | .if_acmp c off => match st with
    | .inr (.inr o') :: .inr (.inr o) :: r => if xvo j o = true ∧ xvo j o' = true then (match c with
      | .eq => xbr pc off (o = o') (inferInstance) L r M
      | .ne => xbr pc off (¬ o = o') (inferInstance) L r M) else none
    | _ => none
  | .goto off => match xtg pc off with
    | some t => sN t L st M
    | none => none
  | .tableswitch dflt lo hi offs => xsw pc dflt lo hi offs L st M
  | .getfield x => xget j x pc L st M
  | .putfield x => xput j x pc L st M
  | .iaload => xalI j 0 pc L st M
  | .baload => xalI j 1 pc L st M
  | .laload => xalJ j pc L st M
  | .aaload => xalA j pc L st M
  | .iastore => xasI j 0 pc L st M
  | .bastore => xasI j 1 pc L st M
  | .lastore => xasJ j pc L st M
  | .aastore => xasA j pc L st M
  | .arraylength => xlen j pc L st M
  | .invokevirtual x => xinv j x pc L st M
  | .invokestatic x => xins d j x pc L st M
  | .ireturn => xret j st M
  | .areturn => xreA j st M
  | .return_ => match st with
    | [] => if xmr j = none then some (.inr (.inl (none, M))) else none
    | _ => none
  | _ => none
def xln (i : Instr) : Nat := match i with
  | .bipush _ | .ldc _ | .iload _ | .lload _ | .aload _ | .istore _ | .astore _ => 2
  | .sipush _ | .ldc_w _ | .ldc2_w _ | .iinc _ _ | .ifCond _ _ | .if_icmp _ _ | .ifnull _ | .ifnonnull _ | .if_acmp _ _ | .goto _ | .getfield _ | .putfield _ | .invokevirtual _ | .invokestatic _ => 3
  | .tableswitch .. => 0
  | _ => 1
set_option maxRecDepth 100000 in
theorem xln_ok : ∀ t ∈ xtbs, ∀ q ∈ t, xln q.2.1 = q.2.2 ∨ xln q.2.1 = 0 := by decide +kernel
def x1 (d j : Nat) (c : xC) : Option xS := match xfet j c.1 with
  | some (i, _) => xi d j i c.1 c.2.1 c.2.2.1 c.2.2.2
  | none => none
def xr : Nat → Nat → Nat → xC → Option (Option xV × xM)
  | 0, _, _, _ => none
  | n + 1, d, j, c => match x1 d j c with
    | some (.inl c') => xr n d j c'
    | some (.inr (.inl r)) => some r
    | some (.inr (.inr (k, as, pc, L, st, M))) => match d with
      | 0 => none
      | d' + 1 => match xr n d' k (0, xen k as, [], M) with
        | some (r, M') => xr n (d' + 1) j (pc, L, r.toList ++ st, M')
        | none => none
    | none => none
theorem xfet_spec {j pc n : Nat} {i : Instr} (h : xfet j pc = some (i, n)) : decode (xmc j) pc = .ok (i, n) ∧ (xln i = n ∨ xln i = 0) := by
  unfold xfet at h
  have hm := x_lookup h
  have hj : j < xtbs.length := by
    rcases Nat.lt_or_ge j xtbs.length with q | q
    · exact q
    · rw [List.getD_eq_getElem?_getD, List.getElem?_eq_none q] at hm
      cases hm
  have hj2 : j < xms.length := hj
  rw [List.getD_eq_getElem?_getD, List.getElem?_eq_getElem hj] at hm
  have hz : (xtbs[j], xms[j].2.2.1) ∈ xtbs.zip (xms.map fun q => q.2.2.1) := by
    refine List.mem_of_getElem? (i := j) ?_
    rw [List.getElem?_zip_eq_some]
    exact ⟨List.getElem?_eq_getElem hj, by rw [List.getElem?_map, List.getElem?_eq_getElem hj2]; rfl⟩
  have hc := xck_all _ hz
  unfold xchk at hc
  have h1 := List.all_eq_true.mp hc _ hm
  refine ⟨?_, xln_ok _ (List.getElem_mem hj) _ hm⟩
  have e : xmc j = xms[j].2.2.1 := by
    unfold xmc xmd
    rw [List.getD_eq_getElem?_getD, List.getElem?_eq_getElem hj2]
    rfl
  rw [e]
  exact of_decide_eq_true h1
theorem xr_more {n : Nat} : ∀ {d j : Nat} {c : xC} {r : Option xV × xM}, xr n d j c = some r → xr (n + 1) d j c = some r := by
  induction n with
  | zero => intro d j c r h; simp [xr] at h
  | succ n ih =>
    intro d j c r h
    rw [xr] at h ⊢
    split at h
    · exact ih h
    · exact h
    · cases d with
      | zero => simp at h
      | succ d' =>
        simp only at h ⊢
        split at h
        · rename_i hq
          rw [ih hq]
          exact ih h
        · cases h
    · cases h
theorem xr_le {n n' d j : Nat} {c : xC} {r : Option xV × xM} (hn : n ≤ n') (h : xr n d j c = some r) : xr n' d j c = some r := by
  induction hn with
  | refl => exact h
  | step _ ih => exact xr_more ih
def Rn (d j : Nat) (c : xC) (Z : Option xV → xM → Prop) : Prop := ∃ n r M, xr n d j c = some (r, M) ∧ Z r M
theorem Rn.next {d j : Nat} {c c' : xC} {Z : Option xV → xM → Prop} (h : x1 d j c = some (.inl c')) (k : Rn d j c' Z) : Rn d j c Z := by
  obtain ⟨n, r, M, h1, h2⟩ := k
  exact ⟨n + 1, r, M, by rw [xr, h]; exact h1, h2⟩
theorem Rn.ret {d j : Nat} {c : xC} {r : Option xV} {M : xM} {Z : Option xV → xM → Prop} (h : x1 d j c = some (.inr (.inl (r, M)))) (k : Z r M) : Rn d j c Z := ⟨1, r, M, by rw [xr, h], k⟩
theorem Rn.call {d j k pc : Nat} {c : xC} {as : List xV} {L : xLs} {st : List xV} {M : xM} {Z Z1 : Option xV → xM → Prop} (h : x1 (d + 1) j c = some (.inr (.inr (k, as, pc, L, st, M)))) (k1 : Rn d k (0, xen k as, [], M) Z1) (k2 : ∀ r M', Z1 r M' → Rn (d + 1) j (pc, L, r.toList ++ st, M') Z) : Rn (d + 1) j c Z := by
  obtain ⟨n1, r1, M1, h1, z1⟩ := k1
  obtain ⟨n2, r2, M2, h2, z2⟩ := k2 r1 M1 z1
  refine ⟨max n1 n2 + 1, r2, M2, ?_, z2⟩
  rw [xr, h]
  simp only
  rw [xr_le (Nat.le_max_left n1 n2) h1]
  exact xr_le (Nat.le_max_right n1 n2) h2
