section RUL
variable {d j pc : Nat} {L : xLs} {st : List xV} {M : xM} {Z : Option xV → xM → Prop}
theorem rn_of {i : Instr} {n : Nat} {c' : xC} (hd : xfet j pc = some (i, n)) (h : xi d j i pc L st M = some (.inl c')) (k : Rn d j c' Z) : Rn d j (pc, L, st, M) Z := Rn.next (by unfold x1; rw [show xfet j (pc, L, st, M).1 = _ from hd]; exact h) k
theorem rn_iconst {k : Int} {n pc' : Nat} {v : Int32} (hd : xfet j pc = some (.iconst k, n)) (hp : pc + 1 = pc') (hv : Int32.ofInt k = v) (h : Rn d j (pc', L, vI v :: st, M) Z) : Rn d j (pc, L, st, M) Z := by subst hp; subst hv; exact rn_of hd rfl h
theorem rn_bipush {k : Int} {n pc' : Nat} {v : Int32} (hd : xfet j pc = some (.bipush k, n)) (hp : pc + 2 = pc') (hv : (Int8.ofInt k).toInt32 = v) (h : Rn d j (pc', L, vI v :: st, M) Z) : Rn d j (pc, L, st, M) Z := by subst hp; subst hv; exact rn_of hd rfl h
theorem rn_sipush {k : Int} {n pc' : Nat} {v : Int32} (hd : xfet j pc = some (.sipush k, n)) (hp : pc + 3 = pc') (hv : (Int16.ofInt k).toInt32 = v) (h : Rn d j (pc', L, vI v :: st, M) Z) : Rn d j (pc, L, st, M) Z := by subst hp; subst hv; exact rn_of hd rfl h
theorem rn_lconst {k : Fin 2} {n pc' : Nat} {v : Int64} (hd : xfet j pc = some (.lconst k, n)) (hp : pc + 1 = pc') (hv : Int64.ofNat k = v) (h : Rn d j (pc', L, vL v :: st, M) Z) : Rn d j (pc, L, st, M) Z := by subst hp; subst hv; exact rn_of hd rfl h
theorem rn_ldc {x n pc' : Nat} {v : Int32} (hd : xfet j pc = some (.ldc x, n)) (hp : pc + 2 = pc') (hv : xkc (xmo j) x = some v) (h : Rn d j (pc', L, vI v :: st, M) Z) : Rn d j (pc, L, st, M) Z := by subst hp; exact rn_of hd (by simp only [xi, hv]) h
theorem rn_ldc_w {x n pc' : Nat} {v : Int32} (hd : xfet j pc = some (.ldc_w x, n)) (hp : pc + 3 = pc') (hv : xkc (xmo j) x = some v) (h : Rn d j (pc', L, vI v :: st, M) Z) : Rn d j (pc, L, st, M) Z := by subst hp; exact rn_of hd (by simp only [xi, hv]) h
theorem rn_ldc2_w {x n pc' : Nat} {v : Int64} (hd : xfet j pc = some (.ldc2_w x, n)) (hp : pc + 3 = pc') (hv : xkl (xmo j) x = some v) (h : Rn d j (pc', L, vL v :: st, M) Z) : Rn d j (pc, L, st, M) Z := by subst hp; exact rn_of hd (by simp only [xi, hv]) h
theorem rn_aconst_null {n pc' : Nat} (hd : xfet j pc = some (.aconst_null, n)) (hp : pc + 1 = pc') (h : Rn d j (pc', L, vN :: st, M) Z) : Rn d j (pc, L, st, M) Z := by subst hp; exact rn_of hd rfl h
theorem rn_iload {k n pc' : Nat} {x : Int32} (hd : xfet j pc = some (.iload k, n)) (hp : pc + 2 = pc') (hl : L[k]? = some (some (vI x))) (h : Rn d j (pc', L, vI x :: st, M) Z) : Rn d j (pc, L, st, M) Z := by subst hp; exact rn_of hd (by simp only [xi, xldI, hl]) h
theorem rn_iload_n {k : Fin 4} {n pc' : Nat} {x : Int32} (hd : xfet j pc = some (.iload_n k, n)) (hp : pc + 1 = pc') (hl : L[(k : Nat)]? = some (some (vI x))) (h : Rn d j (pc', L, vI x :: st, M) Z) : Rn d j (pc, L, st, M) Z := by subst hp; exact rn_of hd (by simp only [xi, xldI, hl]) h
theorem rn_lload {k n pc' : Nat} {x : Int64} (hd : xfet j pc = some (.lload k, n)) (hp : pc + 2 = pc') (hl : L[k]? = some (some (vL x))) (h : Rn d j (pc', L, vL x :: st, M) Z) : Rn d j (pc, L, st, M) Z := by subst hp; exact rn_of hd (by simp only [xi, xldJ, hl]) h
theorem rn_lload_n {k : Fin 4} {n pc' : Nat} {x : Int64} (hd : xfet j pc = some (.lload_n k, n)) (hp : pc + 1 = pc') (hl : L[(k : Nat)]? = some (some (vL x))) (h : Rn d j (pc', L, vL x :: st, M) Z) : Rn d j (pc, L, st, M) Z := by subst hp; exact rn_of hd (by simp only [xi, xldJ, hl]) h
theorem rn_aload {k n pc' : Nat} {o : Option (Nat × Nat)} (hd : xfet j pc = some (.aload k, n)) (hp : pc + 2 = pc') (hl : L[k]? = some (some (.inr (.inr o)))) (h : Rn d j (pc', L, .inr (.inr o) :: st, M) Z) : Rn d j (pc, L, st, M) Z := by subst hp; exact rn_of hd (by simp only [xi, xldA, hl]) h
theorem rn_aload_n {k : Fin 4} {n pc' : Nat} {o : Option (Nat × Nat)} (hd : xfet j pc = some (.aload_n k, n)) (hp : pc + 1 = pc') (hl : L[(k : Nat)]? = some (some (.inr (.inr o)))) (h : Rn d j (pc', L, .inr (.inr o) :: st, M) Z) : Rn d j (pc, L, st, M) Z := by subst hp; exact rn_of hd (by simp only [xi, xldA, hl]) h
theorem rn_istore {k n pc' : Nat} {L' : xLs} {x : Int32} (hd : xfet j pc = some (.istore k, n)) (hp : pc + 2 = pc') (hs : xns L k = true) (hk : k < L.length) (hl : L.set k (some (vI x)) = L') (h : Rn d j (pc', L', st, M) Z) : Rn d j (pc, L, vI x :: st, M) Z := by subst hp; subst hl; exact rn_of hd (by simp only [xi, xstI, xst, hs, hk, and_self, if_true]) h
theorem rn_istore_n {k : Fin 4} {n pc' : Nat} {L' : xLs} {x : Int32} (hd : xfet j pc = some (.istore_n k, n)) (hp : pc + 1 = pc') (hs : xns L k = true) (hk : (k : Nat) < L.length) (hl : L.set k (some (vI x)) = L') (h : Rn d j (pc', L', st, M) Z) : Rn d j (pc, L, vI x :: st, M) Z := by subst hp; subst hl; exact rn_of hd (by simp only [xi, xstI, xst, hs, hk, and_self, if_true]) h
theorem rn_astore {k n pc' : Nat} {L' : xLs} {o : Option (Nat × Nat)} (hd : xfet j pc = some (.astore k, n)) (hp : pc + 2 = pc') (hs : xns L k = true) (hk : k < L.length) (hl : L.set k (some (.inr (.inr o))) = L') (h : Rn d j (pc', L', st, M) Z) : Rn d j (pc, L, .inr (.inr o) :: st, M) Z := by subst hp; subst hl; exact rn_of hd (by simp only [xi, xstA, xst, hs, hk, and_self, if_true]) h
theorem rn_astore_n {k : Fin 4} {n pc' : Nat} {L' : xLs} {o : Option (Nat × Nat)} (hd : xfet j pc = some (.astore_n k, n)) (hp : pc + 1 = pc') (hs : xns L k = true) (hk : (k : Nat) < L.length) (hl : L.set k (some (.inr (.inr o))) = L') (h : Rn d j (pc', L', st, M) Z) : Rn d j (pc, L, .inr (.inr o) :: st, M) Z := by subst hp; subst hl; exact rn_of hd (by simp only [xi, xstA, xst, hs, hk, and_self, if_true]) h
theorem rn_iinc {k n pc' : Nat} {v : Int} {L' : xLs} {x w : Int32} (hd : xfet j pc = some (.iinc k v, n)) (hp : pc + 3 = pc') (hg : L[k]? = some (some (vI x))) (hw : x + Int32.ofInt v = w) (hs : xns L k = true) (hk : k < L.length) (hl : L.set k (some (vI w)) = L') (h : Rn d j (pc', L', st, M) Z) : Rn d j (pc, L, st, M) Z := by subst hp; subst hl; subst hw; exact rn_of hd (by simp only [xi, hg, xst, hs, hk, and_self, if_true]) h
theorem rn_iadd {n pc' : Nat} {x y : Int32} (hd : xfet j pc = some (.iadd, n)) (hp : pc + 1 = pc') (h : Rn d j (pc', L, vI (x + y) :: st, M) Z) : Rn d j (pc, L, vI y :: vI x :: st, M) Z := by subst hp; exact rn_of hd rfl h
theorem rn_isub {n pc' : Nat} {x y : Int32} (hd : xfet j pc = some (.isub, n)) (hp : pc + 1 = pc') (h : Rn d j (pc', L, vI (x - y) :: st, M) Z) : Rn d j (pc, L, vI y :: vI x :: st, M) Z := by subst hp; exact rn_of hd rfl h
theorem rn_imul {n pc' : Nat} {x y : Int32} (hd : xfet j pc = some (.imul, n)) (hp : pc + 1 = pc') (h : Rn d j (pc', L, vI (x * y) :: st, M) Z) : Rn d j (pc, L, vI y :: vI x :: st, M) Z := by subst hp; exact rn_of hd rfl h
theorem rn_iand {n pc' : Nat} {x y : Int32} (hd : xfet j pc = some (.iand, n)) (hp : pc + 1 = pc') (h : Rn d j (pc', L, vI (x &&& y) :: st, M) Z) : Rn d j (pc, L, vI y :: vI x :: st, M) Z := by subst hp; exact rn_of hd rfl h
theorem rn_ior {n pc' : Nat} {x y : Int32} (hd : xfet j pc = some (.ior, n)) (hp : pc + 1 = pc') (h : Rn d j (pc', L, vI (x ||| y) :: st, M) Z) : Rn d j (pc, L, vI y :: vI x :: st, M) Z := by subst hp; exact rn_of hd rfl h
theorem rn_ixor {n pc' : Nat} {x y : Int32} (hd : xfet j pc = some (.ixor, n)) (hp : pc + 1 = pc') (h : Rn d j (pc', L, vI (x ^^^ y) :: st, M) Z) : Rn d j (pc, L, vI y :: vI x :: st, M) Z := by subst hp; exact rn_of hd rfl h
theorem rn_ishl {n pc' : Nat} {x y : Int32} (hd : xfet j pc = some (.ishl, n)) (hp : pc + 1 = pc') (h : Rn d j (pc', L, vI (x <<< (y &&& 31)) :: st, M) Z) : Rn d j (pc, L, vI y :: vI x :: st, M) Z := by subst hp; exact rn_of hd rfl h
theorem rn_ishr {n pc' : Nat} {x y : Int32} (hd : xfet j pc = some (.ishr, n)) (hp : pc + 1 = pc') (h : Rn d j (pc', L, vI (x >>> (y &&& 31)) :: st, M) Z) : Rn d j (pc, L, vI y :: vI x :: st, M) Z := by subst hp; exact rn_of hd rfl h
theorem rn_irem {n pc' : Nat} {x y : Int32} (hd : xfet j pc = some (.irem, n)) (hp : pc + 1 = pc') (hy : ¬ y = 0) (h : Rn d j (pc', L, vI (x - x / y * y) :: st, M) Z) : Rn d j (pc, L, vI y :: vI x :: st, M) Z := by subst hp; exact rn_of hd (by simp only [xi, if_neg hy]) h
theorem rn_ineg {n pc' : Nat} {x : Int32} (hd : xfet j pc = some (.ineg, n)) (hp : pc + 1 = pc') (h : Rn d j (pc', L, vI (-x) :: st, M) Z) : Rn d j (pc, L, vI x :: st, M) Z := by subst hp; exact rn_of hd rfl h
theorem rn_ladd {n pc' : Nat} {x y : Int64} (hd : xfet j pc = some (.ladd, n)) (hp : pc + 1 = pc') (h : Rn d j (pc', L, vL (x + y) :: st, M) Z) : Rn d j (pc, L, vL y :: vL x :: st, M) Z := by subst hp; exact rn_of hd rfl h
theorem rn_lsub {n pc' : Nat} {x y : Int64} (hd : xfet j pc = some (.lsub, n)) (hp : pc + 1 = pc') (h : Rn d j (pc', L, vL (x - y) :: st, M) Z) : Rn d j (pc, L, vL y :: vL x :: st, M) Z := by subst hp; exact rn_of hd rfl h
theorem rn_lcmp {n pc' : Nat} {x y : Int64} (hd : xfet j pc = some (.lcmp, n)) (hp : pc + 1 = pc') (h : Rn d j (pc', L, vI (lg_cmp x y) :: st, M) Z) : Rn d j (pc, L, vL y :: vL x :: st, M) Z := by subst hp; exact rn_of hd rfl h
theorem rn_i2l {n pc' : Nat} {x : Int32} (hd : xfet j pc = some (.i2l, n)) (hp : pc + 1 = pc') (h : Rn d j (pc', L, vL x.toInt64 :: st, M) Z) : Rn d j (pc, L, vI x :: st, M) Z := by subst hp; exact rn_of hd rfl h
theorem rn_l2i {n pc' : Nat} {x : Int64} (hd : xfet j pc = some (.l2i, n)) (hp : pc + 1 = pc') (h : Rn d j (pc', L, vI x.toInt32 :: st, M) Z) : Rn d j (pc, L, vL x :: st, M) Z := by subst hp; exact rn_of hd rfl h
theorem rn_dupI {n pc' : Nat} {x : Int32} (hd : xfet j pc = some (.dup, n)) (hp : pc + 1 = pc') (h : Rn d j (pc', L, vI x :: vI x :: st, M) Z) : Rn d j (pc, L, vI x :: st, M) Z := by subst hp; exact rn_of hd rfl h
theorem rn_dupA {n pc' : Nat} {o : Option (Nat × Nat)} (hd : xfet j pc = some (.dup, n)) (hp : pc + 1 = pc') (h : Rn d j (pc', L, .inr (.inr o) :: .inr (.inr o) :: st, M) Z) : Rn d j (pc, L, .inr (.inr o) :: st, M) Z := by subst hp; exact rn_of hd rfl h
theorem rn_dup2 {n pc' : Nat} {x : Int32} {o : Option (Nat × Nat)} (hd : xfet j pc = some (.dup2, n)) (hp : pc + 1 = pc') (h : Rn d j (pc', L, vI x :: .inr (.inr o) :: vI x :: .inr (.inr o) :: st, M) Z) : Rn d j (pc, L, vI x :: .inr (.inr o) :: st, M) Z := by subst hp; exact rn_of hd rfl h
theorem rn_goto {n pc' : Nat} {off : Int} (hd : xfet j pc = some (.goto off, n)) (hp : xtg pc off = some pc') (h : Rn d j (pc', L, st, M) Z) : Rn d j (pc, L, st, M) Z := rn_of hd (by simp only [xi, hp]) h
theorem rn_br {q : Prop} {dq : Decidable q} {i : Instr} {n t : Nat} {off : Int} {st0 : List xV} (hd : xfet j pc = some (i, n)) (hi : xi d j i pc L st0 M = xbr pc off q dq L st M) (hp : xtg pc off = some t) (kt : q → Rn d j (t, L, st, M) Z) (kf : ¬ q → Rn d j (pc + 3, L, st, M) Z) : Rn d j (pc, L, st0, M) Z := by
  by_cases hq : q
  · exact rn_of hd (by rw [hi]; unfold xbr; rw [hp]; simp only [if_pos hq]) (kt hq)
  · exact rn_of hd (by rw [hi]; unfold xbr; rw [hp]; simp only [if_neg hq]) (kf hq)
theorem rn_if_eq {n t pc' : Nat} {off : Int} {x : Int32} (hd : xfet j pc = some (.ifCond .eq off, n)) (hp : xtg pc off = some t) (hn : pc + 3 = pc') (kt : x = 0 → Rn d j (t, L, st, M) Z) (kf : ¬ x = 0 → Rn d j (pc', L, st, M) Z) : Rn d j (pc, L, vI x :: st, M) Z := by subst hn; exact rn_br hd rfl hp kt kf
theorem rn_if_ne {n t pc' : Nat} {off : Int} {x : Int32} (hd : xfet j pc = some (.ifCond .ne off, n)) (hp : xtg pc off = some t) (hn : pc + 3 = pc') (kt : ¬ x = 0 → Rn d j (t, L, st, M) Z) (kf : x = 0 → Rn d j (pc', L, st, M) Z) : Rn d j (pc, L, vI x :: st, M) Z := by subst hn; exact rn_br hd rfl hp kt (fun h => kf (Decidable.byContradiction h))
theorem rn_if_lt {n t pc' : Nat} {off : Int} {x : Int32} (hd : xfet j pc = some (.ifCond .lt off, n)) (hp : xtg pc off = some t) (hn : pc + 3 = pc') (kt : x < 0 → Rn d j (t, L, st, M) Z) (kf : ¬ x < 0 → Rn d j (pc', L, st, M) Z) : Rn d j (pc, L, vI x :: st, M) Z := by subst hn; exact rn_br hd rfl hp kt kf
theorem rn_if_ge {n t pc' : Nat} {off : Int} {x : Int32} (hd : xfet j pc = some (.ifCond .ge off, n)) (hp : xtg pc off = some t) (hn : pc + 3 = pc') (kt : ¬ x < 0 → Rn d j (t, L, st, M) Z) (kf : x < 0 → Rn d j (pc', L, st, M) Z) : Rn d j (pc, L, vI x :: st, M) Z := by subst hn; exact rn_br hd rfl hp (fun h => kt (Int32.not_lt.mpr h)) (fun h => kf (Int32.not_le.mp h))
theorem rn_if_gt {n t pc' : Nat} {off : Int} {x : Int32} (hd : xfet j pc = some (.ifCond .gt off, n)) (hp : xtg pc off = some t) (hn : pc + 3 = pc') (kt : 0 < x → Rn d j (t, L, st, M) Z) (kf : ¬ 0 < x → Rn d j (pc', L, st, M) Z) : Rn d j (pc, L, vI x :: st, M) Z := by subst hn; exact rn_br hd rfl hp kt kf
theorem rn_if_le {n t pc' : Nat} {off : Int} {x : Int32} (hd : xfet j pc = some (.ifCond .le off, n)) (hp : xtg pc off = some t) (hn : pc + 3 = pc') (kt : ¬ 0 < x → Rn d j (t, L, st, M) Z) (kf : 0 < x → Rn d j (pc', L, st, M) Z) : Rn d j (pc, L, vI x :: st, M) Z := by subst hn; exact rn_br hd rfl hp (fun h => kt (Int32.not_lt.mpr h)) (fun h => kf (Int32.not_le.mp h))
theorem rn_ic_eq {n t pc' : Nat} {off : Int} {x y : Int32} (hd : xfet j pc = some (.if_icmp .eq off, n)) (hp : xtg pc off = some t) (hn : pc + 3 = pc') (kt : x = y → Rn d j (t, L, st, M) Z) (kf : ¬ x = y → Rn d j (pc', L, st, M) Z) : Rn d j (pc, L, vI y :: vI x :: st, M) Z := by subst hn; exact rn_br hd rfl hp kt kf
theorem rn_ic_ne {n t pc' : Nat} {off : Int} {x y : Int32} (hd : xfet j pc = some (.if_icmp .ne off, n)) (hp : xtg pc off = some t) (hn : pc + 3 = pc') (kt : ¬ x = y → Rn d j (t, L, st, M) Z) (kf : x = y → Rn d j (pc', L, st, M) Z) : Rn d j (pc, L, vI y :: vI x :: st, M) Z := by subst hn; exact rn_br hd rfl hp kt (fun h => kf (Decidable.byContradiction h))
theorem rn_ic_lt {n t pc' : Nat} {off : Int} {x y : Int32} (hd : xfet j pc = some (.if_icmp .lt off, n)) (hp : xtg pc off = some t) (hn : pc + 3 = pc') (kt : x < y → Rn d j (t, L, st, M) Z) (kf : ¬ x < y → Rn d j (pc', L, st, M) Z) : Rn d j (pc, L, vI y :: vI x :: st, M) Z := by subst hn; exact rn_br hd rfl hp kt kf
theorem rn_ic_ge {n t pc' : Nat} {off : Int} {x y : Int32} (hd : xfet j pc = some (.if_icmp .ge off, n)) (hp : xtg pc off = some t) (hn : pc + 3 = pc') (kt : ¬ x < y → Rn d j (t, L, st, M) Z) (kf : x < y → Rn d j (pc', L, st, M) Z) : Rn d j (pc, L, vI y :: vI x :: st, M) Z := by subst hn; exact rn_br hd rfl hp (fun h => kt (Int32.not_lt.mpr h)) (fun h => kf (Int32.not_le.mp h))
theorem rn_ic_gt {n t pc' : Nat} {off : Int} {x y : Int32} (hd : xfet j pc = some (.if_icmp .gt off, n)) (hp : xtg pc off = some t) (hn : pc + 3 = pc') (kt : y < x → Rn d j (t, L, st, M) Z) (kf : ¬ y < x → Rn d j (pc', L, st, M) Z) : Rn d j (pc, L, vI y :: vI x :: st, M) Z := by subst hn; exact rn_br hd rfl hp kt kf
theorem rn_ic_le {n t pc' : Nat} {off : Int} {x y : Int32} (hd : xfet j pc = some (.if_icmp .le off, n)) (hp : xtg pc off = some t) (hn : pc + 3 = pc') (kt : ¬ y < x → Rn d j (t, L, st, M) Z) (kf : y < x → Rn d j (pc', L, st, M) Z) : Rn d j (pc, L, vI y :: vI x :: st, M) Z := by subst hn; exact rn_br hd rfl hp (fun h => kt (Int32.not_lt.mpr h)) (fun h => kf (Int32.not_le.mp h))
theorem rn_ifnull {n t pc' : Nat} {off : Int} {o : Option (Nat × Nat)} (hd : xfet j pc = some (.ifnull off, n)) (hp : xtg pc off = some t) (hn : pc + 3 = pc') (kt : o = none → Rn d j (t, L, st, M) Z) (kf : ¬ o = none → Rn d j (pc', L, st, M) Z) : Rn d j (pc, L, .inr (.inr o) :: st, M) Z := by subst hn; exact rn_br hd rfl hp kt kf
theorem rn_ifnonnull {n t pc' : Nat} {off : Int} {o : Option (Nat × Nat)} (hd : xfet j pc = some (.ifnonnull off, n)) (hp : xtg pc off = some t) (hn : pc + 3 = pc') (kt : ¬ o = none → Rn d j (t, L, st, M) Z) (kf : o = none → Rn d j (pc', L, st, M) Z) : Rn d j (pc, L, .inr (.inr o) :: st, M) Z := by subst hn; exact rn_br hd rfl hp kt (fun h => kf (Decidable.byContradiction h))
theorem rn_ac_eq {n t pc' : Nat} {off : Int} {o o' : Option (Nat × Nat)} (hd : xfet j pc = some (.if_acmp .eq off, n)) (hp : xtg pc off = some t) (hn : pc + 3 = pc') (h1 : xvo j o = true) (h2 : xvo j o' = true) (kt : o = o' → Rn d j (t, L, st, M) Z) (kf : ¬ o = o' → Rn d j (pc', L, st, M) Z) : Rn d j (pc, L, .inr (.inr o') :: .inr (.inr o) :: st, M) Z := by subst hn; exact rn_br (dq := inferInstance) hd (by simp only [xi, h1, h2, and_self, if_true]) hp kt kf
theorem rn_ac_ne {n t pc' : Nat} {off : Int} {o o' : Option (Nat × Nat)} (hd : xfet j pc = some (.if_acmp .ne off, n)) (hp : xtg pc off = some t) (hn : pc + 3 = pc') (h1 : xvo j o = true) (h2 : xvo j o' = true) (kt : ¬ o = o' → Rn d j (t, L, st, M) Z) (kf : o = o' → Rn d j (pc', L, st, M) Z) : Rn d j (pc, L, .inr (.inr o') :: .inr (.inr o) :: st, M) Z := by subst hn; exact rn_br (dq := inferInstance) hd (by simp only [xi, h1, h2, and_self, if_true]) hp kt (fun h => kf (Decidable.byContradiction h))
theorem rn_getI {x n t k e N pc' kd : Nat} {nb : Bool} (hd : xfet j pc = some (.getfield x, n)) (hp : pc + 3 = pc') (hf : xfl (xmo j) x = some (t, k, nb)) (hk : (xfk t)[k]? = some kd) (hkd : kd ≤ 1) (hc : xcm j t = N) (he : e < N) (h : Rn d j (pc', L, vI (M.1 t e k) :: st, M) Z) : Rn d j (pc, L, vR t e :: st, M) Z := by
  subst hp; subst hc
  exact rn_of hd (by simp only [xi, xget, hf, he, and_self, if_true, xgv, hk, if_pos hkd]) h
theorem rn_getJ {x n t k e N pc' : Nat} {nb : Bool} (hd : xfet j pc = some (.getfield x, n)) (hp : pc + 3 = pc') (hf : xfl (xmo j) x = some (t, k, nb)) (hk : (xfk t)[k]? = some 2) (hc : xcm j t = N) (he : e < N) (h : Rn d j (pc', L, vL (M.2.1 t e k) :: st, M) Z) : Rn d j (pc, L, vR t e :: st, M) Z := by
  subst hp; subst hc
  exact rn_of hd (by simp only [xi, xget, hf, he, and_self, if_true, xgv, hk]; rfl) h
theorem rn_getV {x n t t' k e N pc' : Nat} {nb : Bool} (hd : xfet j pc = some (.getfield x, n)) (hp : pc + 3 = pc') (hf : xfl (xmo j) x = some (t, k, nb)) (hk : (xfk t)[k]? = some (t' + 10)) (ht : t' + 10 < 100) (hc : xcm j t = N) (he : e < N) (h : Rn d j (pc', L, vO t' (M.2.2 t e k) :: st, M) Z) : Rn d j (pc, L, vR t e :: st, M) Z := by
  subst hp; subst hc
  exact rn_of hd (by simp only [xi, xget, hf, he, and_self, if_true, xgv, hk, if_neg (show ¬ t' + 10 ≤ 1 by omega), if_neg (show ¬ t' + 10 = 2 by omega), if_pos ht, Nat.add_sub_cancel]) h
theorem rn_getF {x n t t' k e N pc' : Nat} {nb : Bool} (hd : xfet j pc = some (.getfield x, n)) (hp : pc + 3 = pc') (hf : xfl (xmo j) x = some (t, k, nb)) (hk : (xfk t)[k]? = some (t' + 100)) (hc : xcm j t = N) (he : e < N) (h : Rn d j (pc', L, vR t' e :: st, M) Z) : Rn d j (pc, L, vR t e :: st, M) Z := by
  subst hp; subst hc
  exact rn_of hd (by simp only [xi, xget, hf, he, and_self, if_true, xgv, hk, if_neg (show ¬ t' + 100 ≤ 1 by omega), if_neg (show ¬ t' + 100 = 2 by omega), if_neg (show ¬ t' + 100 < 100 by omega), Nat.add_sub_cancel]) h
theorem rn_putI {x n t k e N pc' : Nat} {nb : Bool} {v : Int32} (hd : xfet j pc = some (.putfield x, n)) (hp : pc + 3 = pc') (hf : xfl (xmo j) x = some (t, k, nb)) (hk : (xfk t)[k]? = some 0) (hc : xcm j t = N) (he : e < N) (h : Rn d j (pc', L, st, mI M t e k v) Z) : Rn d j (pc, L, vI v :: vR t e :: st, M) Z := by
  subst hp; subst hc
  exact rn_of hd (by simp only [xi, xput, hf, he, and_self, if_true, xpv, hk]) h
theorem rn_putZ {x n t k e N pc' : Nat} {nb : Bool} {v : Int32} (hd : xfet j pc = some (.putfield x, n)) (hp : pc + 3 = pc') (hf : xfl (xmo j) x = some (t, k, nb)) (hk : (xfk t)[k]? = some 1) (hc : xcm j t = N) (he : e < N) (hv : v = 0 ∨ v = 1) (h : Rn d j (pc', L, st, mI M t e k v) Z) : Rn d j (pc, L, vI v :: vR t e :: st, M) Z := by
  subst hp; subst hc
  exact rn_of hd (by simp only [xi, xput, hf, he, and_self, if_true, xpv, hk, if_pos hv]) h
theorem rn_putJ {x n t k e N pc' : Nat} {nb : Bool} {v : Int64} (hd : xfet j pc = some (.putfield x, n)) (hp : pc + 3 = pc') (hf : xfl (xmo j) x = some (t, k, nb)) (hk : (xfk t)[k]? = some 2) (hc : xcm j t = N) (he : e < N) (h : Rn d j (pc', L, st, mJ M t e k v) Z) : Rn d j (pc, L, vL v :: vR t e :: st, M) Z := by
  subst hp; subst hc
  exact rn_of hd (by simp only [xi, xput, hf, he, and_self, if_true, xpv, hk]) h
theorem xpv_mk {t e k r : Nat} (o : Option (Nat × Nat)) (hk : (xfk t)[k]? = some r) (h1 : 10 ≤ r) (h2 : r < 100) (ho : ∀ q, o = some q → q.1 = r - 10) : xpv M t e k (.inr (.inr o)) = some (mR M t e k (o.map fun q => q.2)) := by
  unfold xpv
  rw [hk]
  match r, h1, h2, ho with
  | r + 3, h1, h2, ho =>
    cases o with
    | none => simp only; rw [if_pos ⟨h1, h2⟩]; rfl
    | some q => simp only; rw [if_pos ⟨h1, h2, ho q rfl⟩]; rfl
theorem rn_putV {x n t t' k e N pc' : Nat} {nb : Bool} {o : Option Nat} (hd : xfet j pc = some (.putfield x, n)) (hp : pc + 3 = pc') (hf : xfl (xmo j) x = some (t, k, nb)) (hk : (xfk t)[k]? = some (t' + 10)) (ht : t' + 10 < 100) (hc : xcm j t = N) (he : e < N) (h : Rn d j (pc', L, st, mR M t e k o) Z) : Rn d j (pc, L, vO t' o :: vR t e :: st, M) Z := by
  subst hp; subst hc
  have hv : xpv M t e k (vO t' o) = some (mR M t e k o) := by
    have := xpv_mk (M := M) (e := e) (o.map fun e => (t', e)) hk (by omega) ht (fun q hq => by
      cases o with
      | none => cases hq
      | some z => cases hq; exact (Nat.add_sub_cancel _ _).symm)
    rw [this]
    cases o <;> rfl
  refine rn_of hd (c' := (pc + 3, L, st, mR M t e k o)) ?_ h
  simp only [xi, xput, hf, he, and_self, if_true, hv]
theorem xinb_of {i : Int32} {k n : Nat} (hi : i = nI k) (hk : k < n) (hn : n < 2 ^ 31) : xinb i n = true ∧ i.toNatClampNeg = k := by
  subst hi
  have h1 : (nI k).toNatClampNeg = k := nI_clamp (by omega)
  refine ⟨?_, h1⟩
  unfold xinb
  simp only [Bool.and_eq_true, decide_eq_true_eq]
  exact ⟨nI_pos (by omega), by rw [h1]; exact hk⟩
theorem rn_iald {n t e k N K pc' : Nat} {i : Int32} (hd : xfet j pc = some (.iaload, n)) (hp : pc + 1 = pc') (ho : xob t = none ∧ xek t = 0) (hc : xcm j t = N) (he : e < N) (ha : xal t = K) (hK : K < 2 ^ 31) (hi : i = nI k) (hk : k < K) (h : Rn d j (pc', L, vI (M.1 t e k) :: st, M) Z) : Rn d j (pc, L, vI i :: vR t e :: st, M) Z := by
  subst hp; subst hc; subst ha
  obtain ⟨h1, h2⟩ := xinb_of hi hk hK
  exact rn_of hd (by simp only [xi, xalI, ho.1, ho.2, he, h1, and_self, if_true, h2]) h
theorem rn_bald {n t e k N K pc' : Nat} {i : Int32} (hd : xfet j pc = some (.baload, n)) (hp : pc + 1 = pc') (ho : xob t = none ∧ xek t = 1) (hc : xcm j t = N) (he : e < N) (ha : xal t = K) (hK : K < 2 ^ 31) (hi : i = nI k) (hk : k < K) (h : Rn d j (pc', L, vI (M.1 t e k) :: st, M) Z) : Rn d j (pc, L, vI i :: vR t e :: st, M) Z := by
  subst hp; subst hc; subst ha
  obtain ⟨h1, h2⟩ := xinb_of hi hk hK
  exact rn_of hd (by simp only [xi, xalI, ho.1, ho.2, he, h1, and_self, if_true, h2]) h
theorem rn_lald {n t e k N K pc' : Nat} {i : Int32} (hd : xfet j pc = some (.laload, n)) (hp : pc + 1 = pc') (ho : xob t = none ∧ xek t = 2) (hc : xcm j t = N) (he : e < N) (ha : xal t = K) (hK : K < 2 ^ 31) (hi : i = nI k) (hk : k < K) (h : Rn d j (pc', L, vL (M.2.1 t e k) :: st, M) Z) : Rn d j (pc, L, vI i :: vR t e :: st, M) Z := by
  subst hp; subst hc; subst ha
  obtain ⟨h1, h2⟩ := xinb_of hi hk hK
  exact rn_of hd (by simp only [xi, xalJ, ho.1, ho.2, he, h1, and_self, if_true, h2]) h
theorem rn_aaldV {n t t' e k N K pc' : Nat} {i : Int32} (hd : xfet j pc = some (.aaload, n)) (hp : pc + 1 = pc') (ho : xob t = none) (hek : xek t = t' + 10) (ht : t' + 10 < 100) (hc : xcm j t = N) (he : e < N) (ha : xal t = K) (hK : K < 2 ^ 31) (hi : i = nI k) (hk : k < K) (h : Rn d j (pc', L, vO t' (M.2.2 t e k) :: st, M) Z) : Rn d j (pc, L, vI i :: vR t e :: st, M) Z := by
  subst hp; subst hc; subst ha
  obtain ⟨h1, h2⟩ := xinb_of hi hk hK
  exact rn_of hd (by simp only [xi, xalA, ho, hek, he, h1, show 10 ≤ t' + 10 by omega, and_self, if_true, h2, if_pos ht, Nat.add_sub_cancel]) h
theorem rn_aaldF {n t t' e k N K pc' : Nat} {i : Int32} (hd : xfet j pc = some (.aaload, n)) (hp : pc + 1 = pc') (ho : xob t = none) (hek : xek t = t' + 100) (hc : xcm j t = N) (he : e < N) (ha : xal t = K) (hK : K < 2 ^ 31) (hi : i = nI k) (hk : k < K) (h : Rn d j (pc', L, vR t' k :: st, M) Z) : Rn d j (pc, L, vI i :: vR t e :: st, M) Z := by
  subst hp; subst hc; subst ha
  obtain ⟨h1, h2⟩ := xinb_of hi hk hK
  exact rn_of hd (by simp only [xi, xalA, ho, hek, he, h1, show 10 ≤ t' + 100 by omega, and_self, if_true, h2, if_neg (show ¬ t' + 100 < 100 by omega), Nat.add_sub_cancel]) h
theorem rn_iast {n t e k N K pc' : Nat} {i v : Int32} (hd : xfet j pc = some (.iastore, n)) (hp : pc + 1 = pc') (ho : xob t = none ∧ xek t = 0) (hc : xcm j t = N) (he : e < N) (ha : xal t = K) (hK : K < 2 ^ 31) (hi : i = nI k) (hk : k < K) (h : Rn d j (pc', L, st, mI M t e k v) Z) : Rn d j (pc, L, vI v :: vI i :: vR t e :: st, M) Z := by
  subst hp; subst hc; subst ha
  obtain ⟨h1, h2⟩ := xinb_of hi hk hK
  refine rn_of hd (c' := (pc + 1, L, st, mI M t e k v)) ?_ h
  simp only [xi, xasI, ho.1, ho.2, he, h1, h2]
  simp
theorem rn_bast {n t e k N K pc' : Nat} {i v : Int32} (hd : xfet j pc = some (.bastore, n)) (hp : pc + 1 = pc') (ho : xob t = none ∧ xek t = 1) (hc : xcm j t = N) (he : e < N) (ha : xal t = K) (hK : K < 2 ^ 31) (hi : i = nI k) (hk : k < K) (hv : v = 0 ∨ v = 1) (h : Rn d j (pc', L, st, mI M t e k v) Z) : Rn d j (pc, L, vI v :: vI i :: vR t e :: st, M) Z := by
  subst hp; subst hc; subst ha
  obtain ⟨h1, h2⟩ := xinb_of hi hk hK
  refine rn_of hd (c' := (pc + 1, L, st, mI M t e k v)) ?_ h
  simp only [xi, xasI, ho.1, ho.2, he, h1, h2, hv]
  simp
theorem rn_last {n t e k N K pc' : Nat} {i : Int32} {v : Int64} (hd : xfet j pc = some (.lastore, n)) (hp : pc + 1 = pc') (ho : xob t = none ∧ xek t = 2) (hc : xcm j t = N) (he : e < N) (ha : xal t = K) (hK : K < 2 ^ 31) (hi : i = nI k) (hk : k < K) (h : Rn d j (pc', L, st, mJ M t e k v) Z) : Rn d j (pc, L, vL v :: vI i :: vR t e :: st, M) Z := by
  subst hp; subst hc; subst ha
  obtain ⟨h1, h2⟩ := xinb_of hi hk hK
  exact rn_of hd (by simp only [xi, xasJ, ho.1, ho.2, he, h1, and_self, if_true, h2]) h
theorem rn_aast {n t t' e e' k N N' K pc' : Nat} {i : Int32} (hd : xfet j pc = some (.aastore, n)) (hp : pc + 1 = pc') (ho : xob t = none) (hek : xek t = t' + 10) (ht : t' + 10 < 100) (hc : xcm j t = N) (he : e < N) (hc' : xcm j t' = N') (he' : e' < N') (ha : xal t = K) (hK : K < 2 ^ 31) (hi : i = nI k) (hk : k < K) (h : Rn d j (pc', L, st, mR M t e k (some e')) Z) : Rn d j (pc, L, vR t' e' :: vI i :: vR t e :: st, M) Z := by
  subst hp; subst hc; subst ha; subst hc'
  obtain ⟨h1, h2⟩ := xinb_of hi hk hK
  exact rn_of hd (by simp only [xi, xasA, ho, hek, he, h1, show 10 ≤ t' + 10 by omega, ht, and_self, if_true, h2, Nat.add_sub_cancel, he']) h
theorem rn_alen {n t e N K pc' : Nat} {v : Int32} (hd : xfet j pc = some (.arraylength, n)) (hp : pc + 1 = pc') (ho : xob t = none) (hc : xcm j t = N) (he : e < N) (ha : xal t = K) (hv : Int32.ofNat K = v) (h : Rn d j (pc', L, vI v :: st, M) Z) : Rn d j (pc, L, vR t e :: st, M) Z := by
  subst hp; subst hc; subst ha; subst hv
  exact rn_of hd (by simp only [xi, xlen, ho, he, and_self, if_true]) h
theorem rn_ireturn {n : Nat} {x : Int32} (hd : xfet j pc = some (.ireturn, n)) (hr : xmr j = some .int) (h : Z (some (vI x)) M) : Rn d j (pc, L, [vI x], M) Z := Rn.ret (by unfold x1; rw [show xfet j (pc, L, [vI x], M).1 = _ from hd]; simp only [xi, xret, hr, true_or, if_true]) h
theorem rn_zreturn {n : Nat} {x : Int32} (hd : xfet j pc = some (.ireturn, n)) (hr : xmr j = some .boolean) (hx : x = 0 ∨ x = 1) (h : Z (some (vI x)) M) : Rn d j (pc, L, [vI x], M) Z := Rn.ret (by unfold x1; rw [show xfet j (pc, L, [vI x], M).1 = _ from hd]; simp only [xi, xret, hr, hx, and_self, or_true, if_true]) h
theorem rn_areturn {n : Nat} {o : Option (Nat × Nat)} (hd : xfet j pc = some (.areturn, n)) (hr : xisO (xmr j) = true) (h : Z (some (.inr (.inr o))) M) : Rn d j (pc, L, [.inr (.inr o)], M) Z := Rn.ret (by unfold x1; rw [show xfet j (pc, L, ([(.inr (.inr o) : xV)] : List xV), M).1 = _ from hd]; simp only [xi, xreA, hr, if_true]) h
theorem rn_return {n : Nat} (hd : xfet j pc = some (.return_, n)) (hr : xmr j = none) (h : Z none M) : Rn d j (pc, L, [], M) Z := Rn.ret (by unfold x1; rw [show xfet j (pc, L, [], M).1 = _ from hd]; simp only [xi, hr, if_true]) h
theorem rn_topI {x y : Int32} (e : x = y) (h : Rn d j (pc, L, vI y :: st, M) Z) : Rn d j (pc, L, vI x :: st, M) Z := by rw [e]; exact h
theorem rn_topJ {x y : Int64} (e : x = y) (h : Rn d j (pc, L, vL y :: st, M) Z) : Rn d j (pc, L, vL x :: st, M) Z := by rw [e]; exact h
theorem rn_mem {M' : xM} (e : M = M') (h : Rn d j (pc, L, st, M') Z) : Rn d j (pc, L, st, M) Z := by rw [e]; exact h
theorem Rn.imp {c : xC} {Z' : Option xV → xM → Prop} (h : Rn d j c Z) (k : ∀ r M', Z r M' → Z' r M') : Rn d j c Z' := by
  obtain ⟨n, r, M', h1, h2⟩ := h
  exact ⟨n, r, M', h1, k r M' h2⟩
theorem rn_swIn {n t k : Nat} {dflt lo hi off : Int} {offs : Array Int} {x : Int32} (hd : xfet j pc = some (.tableswitch dflt lo hi offs, n)) (hx : x.toInt = lo + k) (hk : lo + k ≤ hi) (ho : offs[k]? = some off) (hp : xtg pc off = some t) (h : Rn d j (t, L, st, M) Z) : Rn d j (pc, L, vI x :: st, M) Z := by
  refine rn_of hd (c' := (t, L, st, M)) ?_ h
  simp only [xi, xsw]
  rw [if_neg (by omega), show (x.toInt - lo).toNat = k by omega, ho]
  simp only [hp]
theorem rn_swOut {n t : Nat} {dflt lo hi : Int} {offs : Array Int} {x : Int32} (hd : xfet j pc = some (.tableswitch dflt lo hi offs, n)) (hx : x.toInt < lo ∨ hi < x.toInt) (hp : xtg pc dflt = some t) (h : Rn d j (t, L, st, M) Z) : Rn d j (pc, L, vI x :: st, M) Z := by
  refine rn_of hd (c' := (t, L, st, M)) ?_ h
  simp only [xi, xsw]
  rw [if_pos hx, hp]
theorem rn_copy {x n t e t' e' N N' K A A' pc' : Nat} {c : Int32} {r : List xV} (hd : xfet j pc = some (.invokestatic x, n)) (hp : pc + 3 = pc') (hm : xml (xmo j) x = none) (hac : (xmo j, x) ∈ xacL) (ho : (xob t = none ∧ xek t = 0) ∧ xob t' = none ∧ xek t' = 0) (hc : xcm j t = N) (he : e < N) (hc' : xcm j t' = N') (he' : e' < N') (ha : xal t = A) (ha' : xal t' = A') (hK : c = nI K) (hA : K ≤ A ∧ K ≤ A' ∧ K < 2 ^ 31) (hr : r.length ≤ 4)
    (h : Rn (d + 1) j (pc', L, r, mC M t e t' e' 0 0 K) Z) : Rn (d + 1) j (pc, L, vI c :: vI 0 :: vR t' e' :: vI 0 :: vR t e :: r, M) Z := by
  subst hp; subst hc; subst ha; subst hc'; subst ha'; subst hK
  have h1 : (nI K).toNatClampNeg = K := nI_clamp hA.2.2
  have h0 : (0 : Int32).toNatClampNeg = 0 := rfl
  refine rn_of hd (c' := (pc + 3, L, r, mC M t e t' e' 0 0 K)) ?_ h
  simp only [xi, xins, hm]
  rw [if_pos ⟨Nat.succ_pos d, hac⟩]
  unfold xcopy
  simp only [h1, h0]
  rw [if_pos ⟨⟨ho.1.1, ho.1.2, he⟩, ⟨ho.2.1, ho.2.2, he'⟩, ⟨by decide, by decide, nI_pos hA.2.2⟩, by omega, by omega, hr⟩]
theorem rn_min {x n pc' : Nat} {a b : Int32} {r : List xV} (hd : xfet j pc = some (.invokestatic x, n)) (hp : pc + 3 = pc') (hm : xml (xmo j) x = none) (hna : ¬ (xmo j, x) ∈ xacL) (hmm : (xmo j, x) ∈ xmmL) (hr : r.length ≤ 4) (h : Rn (d + 1) j (pc', L, vI (if b < a then b else a) :: r, M) Z) : Rn (d + 1) j (pc, L, vI b :: vI a :: r, M) Z := by
  subst hp
  refine rn_of hd (c' := (pc + 3, L, vI (if b < a then b else a) :: r, M)) ?_ h
  simp only [xi, xins, hm]
  rw [if_neg (fun h => hna h.2), if_pos ⟨Nat.succ_pos d, hmm⟩]
  simp only [xmin, hr, if_true]
theorem rn_callV {x n k kd t e N pc' : Nat} {as r : List xV} {Z1 : Option xV → xM → Prop} (hd : xfet j pc = some (.invokevirtual x, n)) (hp : pc + 3 = pc') (hm : xml (xmo j) x = some (k, kd)) (hkd : kd < 2 ∧ xmt k = t + 1 ∧ xmn k = as.length) (hc : xcm j t = N) (he : e < N) (hx : (xsl (vR t e :: as)).length ≤ xmL k) (hr : (r.map xct).sum ≤ 8) (hst : st = as.reverse ++ vR t e :: r)
    (k1 : Rn d k (0, xen k (vR t e :: as), [], M) Z1) (k2 : ∀ v M', Z1 v M' → Rn (d + 1) j (pc', L, v.toList ++ r, M') Z) : Rn (d + 1) j (pc, L, st, M) Z := by
  subst hp; subst hc; subst hst
  have hl : xmn k = as.reverse.length := by rw [List.length_reverse]; exact hkd.2.2
  refine Rn.call (k := k) (pc := pc + 3) (as := vR t e :: as) (L := L) (st := r) (M := M) ?_ k1 k2
  unfold x1
  rw [show xfet j (pc, L, as.reverse ++ vR t e :: r, M).1 = _ from hd]
  simp only [xi, xinv, hm]
  rw [if_pos ⟨hkd.1, by rw [hl, List.length_append]; omega⟩]
  rw [hl, List.drop_left, List.take_left, List.reverse_reverse]
  simp only
  rw [if_pos ⟨hkd.2.1, he⟩]
  unfold xcall
  rw [if_pos ⟨hx, hr⟩]
theorem rn_callS {x n k kd pc' : Nat} {as r : List xV} {Z1 : Option xV → xM → Prop} (hd : xfet j pc = some (.invokestatic x, n)) (hp : pc + 3 = pc') (hm : xml (xmo j) x = some (k, kd)) (hkd : kd = 2 ∧ xmt k = 0 ∧ xmn k = as.length) (hx : (xsl as).length ≤ xmL k) (hr : (r.map xct).sum ≤ 8) (hst : st = as.reverse ++ r)
    (k1 : Rn d k (0, xen k as, [], M) Z1) (k2 : ∀ v M', Z1 v M' → Rn (d + 1) j (pc', L, v.toList ++ r, M') Z) : Rn (d + 1) j (pc, L, st, M) Z := by
  subst hp; subst hst
  have hl : xmn k = as.reverse.length := by rw [List.length_reverse]; exact hkd.2.2
  refine Rn.call (k := k) (pc := pc + 3) (as := as) (L := L) (st := r) (M := M) ?_ k1 k2
  unfold x1
  rw [show xfet j (pc, L, as.reverse ++ r, M).1 = _ from hd]
  simp only [xi, xins, hm]
  rw [if_pos ⟨hkd.1, hkd.2.1, by rw [hl, List.length_append]; omega⟩]
  rw [hl, List.drop_left, List.take_left, List.reverse_reverse]
  unfold xcall
  rw [if_pos ⟨hx, hr⟩]
end RUL
theorem nI_inc (a : Nat) : nI a + Int32.ofInt 1 = nI (a + 1) := nI_1 a
