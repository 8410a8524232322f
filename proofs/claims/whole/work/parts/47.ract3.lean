def lsF (p : Nat → Bool) : Nat → Nat → Option Nat
  | 0, _ => none
  | m + 1, i => if p i = true then some i else lsF p m (i + 1)
theorem lsF_some {p : Nat → Bool} {j : Nat} : ∀ {m i : Nat}, lsF p m i = some j → i ≤ j ∧ j < i + m ∧ p j = true := by
  intro m
  induction m with
  | zero => intro i h; cases h
  | succ m ih =>
    intro i h
    unfold lsF at h
    split at h
    · cases h; exact ⟨Nat.le_refl _, by omega, ‹_›⟩
    · have := ih h
      exact ⟨by omega, by omega, this.2.2⟩
def chB (M : xM) (e : Nat) (v : Int32) (k : Nat) : Bool := decide (0 < rpid M k) && (decide (rpar M k = rpid M e) && mns M e v k)
def zoB (M : xM) (e : Nat) (v : Int32) (k : Nat) : Bool := chB M e v k && decide (rste M k = 4)
def spB (M : xM) (e : Nat) (v : Int32) (k : Nat) : Bool := chB M e v k && (decide (rste M k = 3) && decide (M.1 41 0 k = 0))
def f_sleep (M : xM) (e a : Nat) (st : Int32) : xM :=
  let A := mI M 28 0 e st
  let B := mI A 43 0 e (nI a)
  let C := mI B 44 0 e (B.1 30 0 e)
  mI C 30 0 e (C.1 30 0 e - 1)
def f_reap (M : xM) (e a b z : Nat) : xM :=
  let A := mI M 31 0 (8 * e + a) (M.1 25 0 z)
  let B := mI A 31 0 (8 * e + b) (A.1 39 0 z)
  mI B 25 0 z 0
def f_stold (M : xM) (e a b z : Nat) : xM :=
  let A := mI M 31 0 (8 * e + a) (M.1 25 0 z)
  let B := mI A 31 0 (8 * e + b) (256 * A.1 40 0 z + 127)
  mI B 41 0 z 1
def f_await (M : xM) (e a b : Nat) (op : Int32) : xM :=
  match lsF (chB M e (M.1 31 0 (8 * e + a))) 24 0 with
  | none => mI M 31 0 (8 * e + a) (-10)
  | some _ => match lsF (zoB M e (M.1 31 0 (8 * e + a))) 24 0 with
    | some z => f_reap M e a b z
    | none => match (if op = 13 then lsF (spB M e (M.1 31 0 (8 * e + a))) 24 0 else none) with
      | some z => f_stold M e a b z
      | none => if op = 12 then mI M 31 0 (8 * e + a) 0 else f_sleep M e a 1
theorem lsF_lt {p : Nat → Bool} {i : Nat} (hi : i ≤ 24) : ∀ e, lsF p (24 - i) i = some e → e < 24 := fun e h => by
  have := lsF_some h
  omega
theorem dn_1 (i : Nat) : nI i + Int32.ofInt (-1) = nI i - 1 := by
  show nI i + (-1) = nI i - 1
  rw [Int32.sub_eq_add_neg]
theorem r_await {d e a b : Nat} (M : xM) (op : Int32) (he : e < 24) (ha : a < 8) (hb : b < 8) : Rn (d + 1) 96 (0, xen 96 [vR 20 0, vI (nI e), vI op, vI (nI (8 * e + a)), vI (nI (8 * e + b))], [], M) (fun r M' => r = none ∧ M' = f_await M e a b op) := by
  generalize hv : M.1 31 0 (8 * e + a) = v
  have ef : f_await M e a b op = match lsF (chB M e v) 24 0 with
      | none => mI M 31 0 (8 * e + a) (-10)
      | some _ => match lsF (zoB M e v) 24 0 with
        | some z => f_reap M e a b z
        | none => match (if op = 13 then lsF (spB M e v) 24 0 else none) with
          | some z => f_stold M e a b z
          | none => if op = 12 then mI M 31 0 (8 * e + a) 0 else f_sleep M e a 1 := by unfold f_await; rw [hv]
  have fin : Rn (d + 1) 96 (124, [some (vR 20 0), some (vI (nI e)), some (vI op), some (vI (nI (8 * e + a))), some (vI (nI (8 * e + b))), some (vI v), some (vI (oI (lsF (chB M e v) 24 0))), some (vI (oI (lsF (zoB M e v) 24 0))), some (vI (oI (lsF (spB M e v) 24 0))), some (vI (nI 0 - 1))], [], M) (fun r M' => r = none ∧ M' = f_await M e a b op) := by
    rw [ef]
    have o1 := oI_neg (lsF_lt (p := chB M e v) (i := 0) (by omega))
    have o2 := oI_neg (lsF_lt (p := zoB M e v) (i := 0) (by omega))
    have o3 := oI_neg (lsF_lt (p := spB M e v) (i := 0) (by omega))
    have es : nI (8 * e + a) - 8 * nI e = nI a := by
      rw [show (8 : Int32) * nI e = nI (8 * e) from pk_mul 8 e, pk_sub (by omega)]
      congr 1
      omega
    simp only [Nat.sub_zero] at o1 o2 o3
    cases c1 : lsF (chB M e v) 24 0 with
    | none =>
      rw [c1] at o1
      refine rn_iload (pc' := 126) rfl rfl rfl ?_
      refine rn_if_ge (t := 140) (pc' := 129) rfl rfl rfl (fun h1 => ?_) (fun h1 => ?_)
      · exact absurd (o1.mpr rfl) h1
      · refine rn_aload_n (pc' := 130) rfl rfl rfl ?_
        refine rn_getF (N := 1) (t' := 31) (pc' := 133) rfl rfl rfl rfl rfl (by first | assumption | decide | omega) ?_
        refine rn_iload_n (pc' := 134) rfl rfl rfl ?_
        refine rn_bipush (pc' := 136) (v := (-10)) rfl rfl (by decide) ?_
        refine rn_iast (N := 1) (K := 192) (pc' := 137) rfl rfl ⟨rfl, rfl⟩ rfl (by first | assumption | decide | omega) rfl (by decide) rfl (by first | assumption | decide | omega) ?_
        refine rn_goto (pc' := 296) rfl rfl ?_
        refine rn_return rfl rfl ?_
        exact ⟨rfl, rfl⟩
    | some q =>
      rw [c1] at o1
      have hq : ¬ oI (some q) < 0 := fun h => by cases o1.mp h
      cases c2 : lsF (zoB M e v) 24 0 with
      | some z =>
        have hz : z < 24 := lsF_lt (i := 0) (by omega) z c2
        have hz0 : ¬ oI (some z) < 0 := nI_pos (by omega)
        refine rn_iload (pc' := 126) rfl rfl rfl ?_
        refine rn_if_ge (t := 140) (pc' := 129) rfl rfl rfl (fun h1 => ?_) (fun h1 => ?_)
        · refine rn_iload (pc' := 142) rfl rfl rfl ?_
          refine rn_if_lt (t := 183) (pc' := 145) rfl rfl rfl (fun h2 => ?_) (fun h2 => ?_)
          · exact absurd h2 hz0
          · refine rn_aload_n (pc' := 146) rfl rfl rfl ?_
            refine rn_getF (N := 1) (t' := 31) (pc' := 149) rfl rfl rfl rfl rfl (by first | assumption | decide | omega) ?_
            refine rn_iload_n (pc' := 150) rfl rfl rfl ?_
            refine rn_aload_n (pc' := 151) rfl rfl rfl ?_
            refine rn_getF (N := 1) (t' := 25) (pc' := 154) rfl rfl rfl rfl rfl (by first | assumption | decide | omega) ?_
            refine rn_iload (pc' := 156) rfl rfl rfl ?_
            refine rn_iald (k := z) (N := 1) (K := 24) (pc' := 157) rfl rfl ⟨rfl, rfl⟩ rfl (by first | assumption | decide | omega) rfl (by decide) (rfl) (by first | assumption | decide | omega) ?_
            refine rn_iast (N := 1) (K := 192) (pc' := 158) rfl rfl ⟨rfl, rfl⟩ rfl (by first | assumption | decide | omega) rfl (by decide) rfl (by first | assumption | decide | omega) ?_
            refine rn_aload_n (pc' := 159) rfl rfl rfl ?_
            refine rn_getF (N := 1) (t' := 31) (pc' := 162) rfl rfl rfl rfl rfl (by first | assumption | decide | omega) ?_
            refine rn_iload (pc' := 164) rfl rfl rfl ?_
            refine rn_aload_n (pc' := 165) rfl rfl rfl ?_
            refine rn_getF (N := 1) (t' := 39) (pc' := 168) rfl rfl rfl rfl rfl (by first | assumption | decide | omega) ?_
            refine rn_iload (pc' := 170) rfl rfl rfl ?_
            refine rn_iald (k := z) (N := 1) (K := 24) (pc' := 171) rfl rfl ⟨rfl, rfl⟩ rfl (by first | assumption | decide | omega) rfl (by decide) (rfl) (by first | assumption | decide | omega) ?_
            refine rn_iast (N := 1) (K := 192) (pc' := 172) rfl rfl ⟨rfl, rfl⟩ rfl (by first | assumption | decide | omega) rfl (by decide) rfl (by first | assumption | decide | omega) ?_
            refine rn_aload_n (pc' := 173) rfl rfl rfl ?_
            refine rn_getF (N := 1) (t' := 25) (pc' := 176) rfl rfl rfl rfl rfl (by first | assumption | decide | omega) ?_
            refine rn_iload (pc' := 178) rfl rfl rfl ?_
            refine rn_iconst (pc' := 179) (v := 0) rfl rfl (by decide) ?_
            refine rn_iast (k := z) (N := 1) (K := 24) (pc' := 180) rfl rfl ⟨rfl, rfl⟩ rfl (by first | assumption | decide | omega) rfl (by decide) (rfl) (by first | assumption | decide | omega) ?_
            refine rn_goto (pc' := 296) rfl rfl ?_
            refine rn_return rfl rfl ?_
            exact ⟨rfl, rfl⟩
        · exact absurd h1 hq
      | none =>
        rw [c2] at o2
        have sl : ¬ op = 12 → Rn (d + 1) 96 (255, [some (vR 20 0), some (vI (nI e)), some (vI op), some (vI (nI (8 * e + a))), some (vI (nI (8 * e + b))), some (vI v), some (vI (oI (some q))), some (vI (oI none)), some (vI (oI (lsF (spB M e v) 24 0))), some (vI (nI 0 - 1))], [], M) (fun r M' => r = none ∧ M' = f_sleep M e a 1) := by
          intro _
          refine rn_aload_n (pc' := 256) rfl rfl rfl ?_
          refine rn_getF (N := 1) (t' := 28) (pc' := 259) rfl rfl rfl rfl rfl (by first | assumption | decide | omega) ?_
          refine rn_iload_n (pc' := 260) rfl rfl rfl ?_
          refine rn_iconst (pc' := 261) (v := 1) rfl rfl (by decide) ?_
          refine rn_iast (N := 1) (K := 24) (pc' := 262) rfl rfl ⟨rfl, rfl⟩ rfl (by first | assumption | decide | omega) rfl (by decide) rfl (by first | assumption | decide | omega) ?_
          refine rn_aload_n (pc' := 263) rfl rfl rfl ?_
          refine rn_getF (N := 1) (t' := 43) (pc' := 266) rfl rfl rfl rfl rfl (by first | assumption | decide | omega) ?_
          refine rn_iload_n (pc' := 267) rfl rfl rfl ?_
          refine rn_iload_n (pc' := 268) rfl rfl rfl ?_
          refine rn_bipush (pc' := 270) (v := 8) rfl rfl (by decide) ?_
          refine rn_iload_n (pc' := 271) rfl rfl rfl ?_
          refine rn_imul (pc' := 272) rfl rfl ?_
          refine rn_isub (pc' := 273) rfl rfl ?_
          refine rn_topI es ?_
          refine rn_iast (N := 1) (K := 24) (pc' := 274) rfl rfl ⟨rfl, rfl⟩ rfl (by first | assumption | decide | omega) rfl (by decide) rfl (by first | assumption | decide | omega) ?_
          refine rn_aload_n (pc' := 275) rfl rfl rfl ?_
          refine rn_getF (N := 1) (t' := 44) (pc' := 278) rfl rfl rfl rfl rfl (by first | assumption | decide | omega) ?_
          refine rn_iload_n (pc' := 279) rfl rfl rfl ?_
          refine rn_aload_n (pc' := 280) rfl rfl rfl ?_
          refine rn_getF (N := 1) (t' := 30) (pc' := 283) rfl rfl rfl rfl rfl (by first | assumption | decide | omega) ?_
          refine rn_iload_n (pc' := 284) rfl rfl rfl ?_
          refine rn_iald (N := 1) (K := 24) (pc' := 285) rfl rfl ⟨rfl, rfl⟩ rfl (by first | assumption | decide | omega) rfl (by decide) rfl (by first | assumption | decide | omega) ?_
          refine rn_iast (N := 1) (K := 24) (pc' := 286) rfl rfl ⟨rfl, rfl⟩ rfl (by first | assumption | decide | omega) rfl (by decide) rfl (by first | assumption | decide | omega) ?_
          refine rn_aload_n (pc' := 287) rfl rfl rfl ?_
          refine rn_getF (N := 1) (t' := 30) (pc' := 290) rfl rfl rfl rfl rfl (by first | assumption | decide | omega) ?_
          refine rn_iload_n (pc' := 291) rfl rfl rfl ?_
          refine rn_dup2 (pc' := 292) rfl rfl ?_
          refine rn_iald (N := 1) (K := 24) (pc' := 293) rfl rfl ⟨rfl, rfl⟩ rfl (by first | assumption | decide | omega) rfl (by decide) rfl (by first | assumption | decide | omega) ?_
          refine rn_iconst (pc' := 294) (v := 1) rfl rfl (by decide) ?_
          refine rn_isub (pc' := 295) rfl rfl ?_
          refine rn_iast (N := 1) (K := 24) (pc' := 296) rfl rfl ⟨rfl, rfl⟩ rfl (by first | assumption | decide | omega) rfl (by decide) rfl (by first | assumption | decide | omega) ?_
          refine rn_return rfl rfl ?_
          exact ⟨rfl, rfl⟩
        have lo : Rn (d + 1) 96 (239, [some (vR 20 0), some (vI (nI e)), some (vI op), some (vI (nI (8 * e + a))), some (vI (nI (8 * e + b))), some (vI v), some (vI (oI (some q))), some (vI (oI none)), some (vI (oI (lsF (spB M e v) 24 0))), some (vI (nI 0 - 1))], [], M) (fun r M' => r = none ∧ M' = if op = 12 then mI M 31 0 (8 * e + a) 0 else f_sleep M e a 1) := by
          by_cases h12 : op = 12
          · rw [if_pos h12]
            refine rn_iload_n (pc' := 240) rfl rfl rfl ?_
            refine rn_bipush (pc' := 242) (v := 12) rfl rfl (by decide) ?_
            refine rn_ic_ne (t := 255) (pc' := 245) rfl rfl rfl (fun h1 => ?_) (fun h1 => ?_)
            · exact absurd h12 h1
            · refine rn_aload_n (pc' := 246) rfl rfl rfl ?_
              refine rn_getF (N := 1) (t' := 31) (pc' := 249) rfl rfl rfl rfl rfl (by first | assumption | decide | omega) ?_
              refine rn_iload_n (pc' := 250) rfl rfl rfl ?_
              refine rn_iconst (pc' := 251) (v := 0) rfl rfl (by decide) ?_
              refine rn_iast (N := 1) (K := 192) (pc' := 252) rfl rfl ⟨rfl, rfl⟩ rfl (by first | assumption | decide | omega) rfl (by decide) rfl (by first | assumption | decide | omega) ?_
              refine rn_goto (pc' := 296) rfl rfl ?_
              refine rn_return rfl rfl ?_
              exact ⟨rfl, rfl⟩
          · rw [if_neg h12]
            refine rn_iload_n (pc' := 240) rfl rfl rfl ?_
            refine rn_bipush (pc' := 242) (v := 12) rfl rfl (by decide) ?_
            refine rn_ic_ne (t := 255) (pc' := 245) rfl rfl rfl (fun h1 => ?_) (fun h1 => ?_)
            · exact sl h12
            · exact absurd h1 h12
        by_cases h13 : op = 13
        · rw [if_pos h13]
          cases c3 : lsF (spB M e v) 24 0 with
          | some z =>
            have hz : z < 24 := lsF_lt (i := 0) (by omega) z c3
            have hz0 : ¬ oI (some z) < 0 := nI_pos (by omega)
            refine rn_iload (pc' := 126) rfl rfl rfl ?_
            refine rn_if_ge (t := 140) (pc' := 129) rfl rfl rfl (fun h1 => ?_) (fun h1 => ?_)
            · refine rn_iload (pc' := 142) rfl rfl rfl ?_
              refine rn_if_lt (t := 183) (pc' := 145) rfl rfl rfl (fun h2 => ?_) (fun h2 => ?_)
              · refine rn_iload_n (pc' := 184) rfl rfl rfl ?_
                refine rn_bipush (pc' := 186) (v := 13) rfl rfl (by decide) ?_
                refine rn_ic_ne (t := 239) (pc' := 189) rfl rfl rfl (fun h3 => ?_) (fun h3 => ?_)
                · first | exact absurd h13 h3 | exact absurd h4 hz0
                · refine rn_iload (pc' := 191) rfl rfl rfl ?_
                  refine rn_if_lt (t := 239) (pc' := 194) rfl rfl rfl (fun h4 => ?_) (fun h4 => ?_)
                  · first | exact absurd h13 h3 | exact absurd h4 hz0
                  · refine rn_aload_n (pc' := 195) rfl rfl rfl ?_
                    refine rn_getF (N := 1) (t' := 31) (pc' := 198) rfl rfl rfl rfl rfl (by first | assumption | decide | omega) ?_
                    refine rn_iload_n (pc' := 199) rfl rfl rfl ?_
                    refine rn_aload_n (pc' := 200) rfl rfl rfl ?_
                    refine rn_getF (N := 1) (t' := 25) (pc' := 203) rfl rfl rfl rfl rfl (by first | assumption | decide | omega) ?_
                    refine rn_iload (pc' := 205) rfl rfl rfl ?_
                    refine rn_iald (k := z) (N := 1) (K := 24) (pc' := 206) rfl rfl ⟨rfl, rfl⟩ rfl (by first | assumption | decide | omega) rfl (by decide) (rfl) (by first | assumption | decide | omega) ?_
                    refine rn_iast (N := 1) (K := 192) (pc' := 207) rfl rfl ⟨rfl, rfl⟩ rfl (by first | assumption | decide | omega) rfl (by decide) rfl (by first | assumption | decide | omega) ?_
                    refine rn_aload_n (pc' := 208) rfl rfl rfl ?_
                    refine rn_getF (N := 1) (t' := 31) (pc' := 211) rfl rfl rfl rfl rfl (by first | assumption | decide | omega) ?_
                    refine rn_iload (pc' := 213) rfl rfl rfl ?_
                    refine rn_sipush (pc' := 216) (v := 256) rfl rfl (by decide) ?_
                    refine rn_aload_n (pc' := 217) rfl rfl rfl ?_
                    refine rn_getF (N := 1) (t' := 40) (pc' := 220) rfl rfl rfl rfl rfl (by first | assumption | decide | omega) ?_
                    refine rn_iload (pc' := 222) rfl rfl rfl ?_
                    refine rn_iald (k := z) (N := 1) (K := 24) (pc' := 223) rfl rfl ⟨rfl, rfl⟩ rfl (by first | assumption | decide | omega) rfl (by decide) (rfl) (by first | assumption | decide | omega) ?_
                    refine rn_imul (pc' := 224) rfl rfl ?_
                    refine rn_bipush (pc' := 226) (v := 127) rfl rfl (by decide) ?_
                    refine rn_iadd (pc' := 227) rfl rfl ?_
                    refine rn_iast (N := 1) (K := 192) (pc' := 228) rfl rfl ⟨rfl, rfl⟩ rfl (by first | assumption | decide | omega) rfl (by decide) rfl (by first | assumption | decide | omega) ?_
                    refine rn_aload_n (pc' := 229) rfl rfl rfl ?_
                    refine rn_getF (N := 1) (t' := 41) (pc' := 232) rfl rfl rfl rfl rfl (by first | assumption | decide | omega) ?_
                    refine rn_iload (pc' := 234) rfl rfl rfl ?_
                    refine rn_iconst (pc' := 235) (v := 1) rfl rfl (by decide) ?_
                    refine rn_bast (k := z) (N := 1) (K := 24) (pc' := 236) rfl rfl ⟨rfl, rfl⟩ rfl (by first | assumption | decide | omega) rfl (by decide) (rfl) (by first | assumption | decide | omega) (by decide) ?_
                    refine rn_goto (pc' := 296) rfl rfl ?_
                    refine rn_return rfl rfl ?_
                    exact ⟨rfl, rfl⟩
              · exact absurd (o2.mpr rfl) h2
            · exact absurd h1 hq
          | none =>
            rw [c3] at o3 lo
            refine rn_iload (pc' := 126) rfl rfl rfl ?_
            refine rn_if_ge (t := 140) (pc' := 129) rfl rfl rfl (fun h1 => ?_) (fun h1 => ?_)
            · refine rn_iload (pc' := 142) rfl rfl rfl ?_
              refine rn_if_lt (t := 183) (pc' := 145) rfl rfl rfl (fun h2 => ?_) (fun h2 => ?_)
              · refine rn_iload_n (pc' := 184) rfl rfl rfl ?_
                refine rn_bipush (pc' := 186) (v := 13) rfl rfl (by decide) ?_
                refine rn_ic_ne (t := 239) (pc' := 189) rfl rfl rfl (fun h3 => ?_) (fun h3 => ?_)
                · exact lo
                · refine rn_iload (pc' := 191) rfl rfl rfl ?_
                  refine rn_if_lt (t := 239) (pc' := 194) rfl rfl rfl (fun h4 => ?_) (fun h4 => ?_)
                  · exact lo
                  · exact absurd (o3.mpr rfl) h4
              · exact absurd (o2.mpr rfl) h2
            · exact absurd h1 hq
        · rw [if_neg h13]
          refine rn_iload (pc' := 126) rfl rfl rfl ?_
          refine rn_if_ge (t := 140) (pc' := 129) rfl rfl rfl (fun h1 => ?_) (fun h1 => ?_)
          · refine rn_iload (pc' := 142) rfl rfl rfl ?_
            refine rn_if_lt (t := 183) (pc' := 145) rfl rfl rfl (fun h2 => ?_) (fun h2 => ?_)
            · refine rn_iload_n (pc' := 184) rfl rfl rfl ?_
              refine rn_bipush (pc' := 186) (v := 13) rfl rfl (by decide) ?_
              refine rn_ic_ne (t := 239) (pc' := 189) rfl rfl rfl (fun h3 => ?_) (fun h3 => ?_)
              · exact lo
              · exact absurd h3 h13
            · exact absurd (o2.mpr rfl) h2
          · exact absurd h1 hq
  have loop : ∀ i : Nat, i ≤ 24 → Rn (d + 1) 96 (21, [some (vR 20 0), some (vI (nI e)), some (vI op), some (vI (nI (8 * e + a))), some (vI (nI (8 * e + b))), some (vI v), some (vI (oI (lsF (chB M e v) (24 - i) i))), some (vI (oI (lsF (zoB M e v) (24 - i) i))), some (vI (oI (lsF (spB M e v) (24 - i) i))), some (vI (nI i - 1))], [], M) (fun r M' => r = none ∧ M' = f_await M e a b op) := by
    intro i
    induction i with
    | zero =>
      intro _
      refine rn_iload (pc' := 23) rfl rfl rfl ?_
      refine rn_if_lt (t := 124) (pc' := 26) rfl rfl rfl (fun h1 => ?_) (fun h1 => ?_)
      · exact fin
      · exact absurd (by decide) h1
    | succ i ih =>
      intro hi
      have hi24 : i < 24 := by omega
      have ih := ih (by omega)
      rw [show nI (i + 1) - 1 = nI i from nI_pred i]
      have un : ∀ p : Nat → Bool, lsF p (24 - i) i = if p i = true then some i else lsF p (24 - (i + 1)) (i + 1) := fun p => by
        rw [show 24 - i = 24 - (i + 1) + 1 by omega]
        rfl
      rw [un, un, un] at ih
      have no : chB M e v i = false → Rn (d + 1) 96 (118, [some (vR 20 0), some (vI (nI e)), some (vI op), some (vI (nI (8 * e + a))), some (vI (nI (8 * e + b))), some (vI v), some (vI (oI (lsF (chB M e v) (24 - (i + 1)) (i + 1)))), some (vI (oI (lsF (zoB M e v) (24 - (i + 1)) (i + 1)))), some (vI (oI (lsF (spB M e v) (24 - (i + 1)) (i + 1)))), some (vI (nI i))], [], M) (fun r M' => r = none ∧ M' = f_await M e a b op) := by
        intro hc
        have h1 : zoB M e v i = false := by unfold zoB; rw [hc]; rfl
        have h2 : spB M e v i = false := by unfold spB; rw [hc]; rfl
        rw [if_neg (by rw [hc]; simp), if_neg (by rw [h1]; simp), if_neg (by rw [h2]; simp)] at ih
        refine rn_iinc (pc' := 121) rfl rfl rfl (dn_1 i) rfl (Nat.le_of_ble_eq_true rfl) rfl ?_
        refine rn_goto (pc' := 21) rfl rfl ?_
        exact ih
      have yes : chB M e v i = true → Rn (d + 1) 96 (64, [some (vR 20 0), some (vI (nI e)), some (vI op), some (vI (nI (8 * e + a))), some (vI (nI (8 * e + b))), some (vI v), some (vI (oI (lsF (chB M e v) (24 - (i + 1)) (i + 1)))), some (vI (oI (lsF (zoB M e v) (24 - (i + 1)) (i + 1)))), some (vI (oI (lsF (spB M e v) (24 - (i + 1)) (i + 1)))), some (vI (nI i))], [], M) (fun r M' => r = none ∧ M' = f_await M e a b op) := by
        intro hc
        rw [if_pos hc] at ih
        have k2 : ∀ x, x = oI (if spB M e v i = true then some i else lsF (spB M e v) (24 - (i + 1)) (i + 1)) → Rn (d + 1) 96 (116, [some (vR 20 0), some (vI (nI e)), some (vI op), some (vI (nI (8 * e + a))), some (vI (nI (8 * e + b))), some (vI v), some (vI (nI i)), some (vI (oI (if zoB M e v i = true then some i else lsF (zoB M e v) (24 - (i + 1)) (i + 1)))), some (vI (oI (lsF (spB M e v) (24 - (i + 1)) (i + 1)))), some (vI (nI i))], [vI x], M) (fun r M' => r = none ∧ M' = f_await M e a b op) := by
          intro x hx
          subst hx
          refine rn_istore (pc' := 118) rfl rfl rfl (Nat.le_of_ble_eq_true rfl) rfl ?_
          refine rn_iinc (pc' := 121) rfl rfl rfl (dn_1 i) rfl (Nat.le_of_ble_eq_true rfl) rfl ?_
          refine rn_goto (pc' := 21) rfl rfl ?_
          exact ih
        have k1 : ∀ x, x = oI (if zoB M e v i = true then some i else lsF (zoB M e v) (24 - (i + 1)) (i + 1)) → Rn (d + 1) 96 (86, [some (vR 20 0), some (vI (nI e)), some (vI op), some (vI (nI (8 * e + a))), some (vI (nI (8 * e + b))), some (vI v), some (vI (nI i)), some (vI (oI (lsF (zoB M e v) (24 - (i + 1)) (i + 1)))), some (vI (oI (lsF (spB M e v) (24 - (i + 1)) (i + 1)))), some (vI (nI i))], [vI x], M) (fun r M' => r = none ∧ M' = f_await M e a b op) := by
          intro x hx
          subst hx
          refine rn_istore (pc' := 88) rfl rfl rfl (Nat.le_of_ble_eq_true rfl) rfl ?_
          refine rn_aload_n (pc' := 89) rfl rfl rfl ?_
          refine rn_getF (N := 1) (t' := 28) (pc' := 92) rfl rfl rfl rfl rfl (by first | assumption | decide | omega) ?_
          refine rn_iload (pc' := 94) rfl rfl rfl ?_
          refine rn_iald (N := 1) (K := 24) (pc' := 95) rfl rfl ⟨rfl, rfl⟩ rfl (by first | assumption | decide | omega) rfl (by decide) rfl (by first | assumption | decide | omega) ?_
          refine rn_iconst (pc' := 96) (v := 3) rfl rfl (by decide) ?_
          refine rn_ic_ne (t := 114) (pc' := 99) rfl rfl rfl (fun h1 => ?_) (fun h1 => ?_)
          · refine rn_iload (pc' := 116) rfl rfl rfl ?_
            refine k2 _ ?_
            simp [spB, hc, rste, oI, *]
          · refine rn_aload_n (pc' := 100) rfl rfl rfl ?_
            refine rn_getF (N := 1) (t' := 41) (pc' := 103) rfl rfl rfl rfl rfl (by first | assumption | decide | omega) ?_
            refine rn_iload (pc' := 105) rfl rfl rfl ?_
            refine rn_bald (N := 1) (K := 24) (pc' := 106) rfl rfl ⟨rfl, rfl⟩ rfl (by first | assumption | decide | omega) rfl (by decide) rfl (by first | assumption | decide | omega) ?_
            refine rn_if_ne (t := 114) (pc' := 109) rfl rfl rfl (fun h2 => ?_) (fun h2 => ?_)
            · refine rn_iload (pc' := 116) rfl rfl rfl ?_
              refine k2 _ ?_
              simp [spB, hc, rste, oI, *]
            · refine rn_iload (pc' := 111) rfl rfl rfl ?_
              refine rn_goto (pc' := 116) rfl rfl ?_
              refine k2 _ ?_
              simp [spB, hc, rste, oI, *]
        refine rn_iload (pc' := 66) rfl rfl rfl ?_
        refine rn_istore (pc' := 68) rfl rfl rfl (Nat.le_of_ble_eq_true rfl) rfl ?_
        refine rn_aload_n (pc' := 69) rfl rfl rfl ?_
        refine rn_getF (N := 1) (t' := 28) (pc' := 72) rfl rfl rfl rfl rfl (by first | assumption | decide | omega) ?_
        refine rn_iload (pc' := 74) rfl rfl rfl ?_
        refine rn_iald (N := 1) (K := 24) (pc' := 75) rfl rfl ⟨rfl, rfl⟩ rfl (by first | assumption | decide | omega) rfl (by decide) rfl (by first | assumption | decide | omega) ?_
        refine rn_iconst (pc' := 76) (v := 4) rfl rfl (by decide) ?_
        refine rn_ic_ne (t := 84) (pc' := 79) rfl rfl rfl (fun h1 => ?_) (fun h1 => ?_)
        · refine rn_iload (pc' := 86) rfl rfl rfl ?_
          refine k1 _ ?_
          simp [zoB, hc, rste, oI, *]
        · refine rn_iload (pc' := 81) rfl rfl rfl ?_
          refine rn_goto (pc' := 86) rfl rfl ?_
          refine k1 _ ?_
          simp [zoB, hc, rste, oI, *]
      refine rn_iload (pc' := 23) rfl rfl rfl ?_
      refine rn_if_lt (t := 124) (pc' := 26) rfl rfl rfl (fun h1 => ?_) (fun h1 => ?_)
      · exact absurd h1 (nI_pos (by omega))
      · refine rn_aload_n (pc' := 27) rfl rfl rfl ?_
        refine rn_getF (N := 1) (t' := 25) (pc' := 30) rfl rfl rfl rfl rfl (by first | assumption | decide | omega) ?_
        refine rn_iload (pc' := 32) rfl rfl rfl ?_
        refine rn_iald (N := 1) (K := 24) (pc' := 33) rfl rfl ⟨rfl, rfl⟩ rfl (by first | assumption | decide | omega) rfl (by decide) rfl (by first | assumption | decide | omega) ?_
        refine rn_if_le (t := 118) (pc' := 36) rfl rfl rfl (fun h2 => ?_) (fun h2 => ?_)
        · refine no ?_
          first | (simp [chB, rpid, rpar, *]; done) | (have := (bI_0 _).mp h5; simp [chB, this])
        · refine rn_aload_n (pc' := 37) rfl rfl rfl ?_
          refine rn_getF (N := 1) (t' := 26) (pc' := 40) rfl rfl rfl rfl rfl (by first | assumption | decide | omega) ?_
          refine rn_iload (pc' := 42) rfl rfl rfl ?_
          refine rn_iald (N := 1) (K := 24) (pc' := 43) rfl rfl ⟨rfl, rfl⟩ rfl (by first | assumption | decide | omega) rfl (by decide) rfl (by first | assumption | decide | omega) ?_
          refine rn_aload_n (pc' := 44) rfl rfl rfl ?_
          refine rn_getF (N := 1) (t' := 25) (pc' := 47) rfl rfl rfl rfl rfl (by first | assumption | decide | omega) ?_
          refine rn_iload_n (pc' := 48) rfl rfl rfl ?_
          refine rn_iald (N := 1) (K := 24) (pc' := 49) rfl rfl ⟨rfl, rfl⟩ rfl (by first | assumption | decide | omega) rfl (by decide) rfl (by first | assumption | decide | omega) ?_
          refine rn_ic_ne (t := 118) (pc' := 52) rfl rfl rfl (fun h3 => ?_) (fun h3 => ?_)
          · refine no ?_
            first | (simp [chB, rpid, rpar, *]; done) | (have := (bI_0 _).mp h5; simp [chB, this])
          · refine rn_aload_n (pc' := 53) rfl rfl rfl ?_
            refine rn_iload_n (pc' := 54) rfl rfl rfl ?_
            refine rn_iload (pc' := 56) rfl rfl rfl ?_
            refine rn_iload (pc' := 58) rfl rfl rfl ?_
            refine rn_callV (pc' := 61) (as := [_, _, _]) rfl rfl rfl ⟨Nat.le_of_ble_eq_true rfl, rfl, rfl⟩ rfl (by first | assumption | decide | omega) (Nat.le_of_ble_eq_true rfl) (Nat.le_of_ble_eq_true rfl) rfl (r_means M v he hi24) (fun r4 M4 hz => ?_)
            obtain ⟨rfl, hm_⟩ := hz
            refine rn_mem hm_ ?_
            clear hm_
            refine rn_if_eq (t := 118) (pc' := 64) rfl rfl rfl (fun h5 => ?_) (fun h5 => ?_)
            · refine no ?_
              first | (simp [chB, rpid, rpar, *]; done) | (have := (bI_0 _).mp h5; simp [chB, this])
            · refine yes ?_
              have hm5 : mns M e v i = true := by have := h5; simp only [bI_0, Bool.not_eq_false] at this; exact this
              simp [chB, rpid, rpar, hm5, *]
  have l0 := loop 24 (Nat.le_refl _)
  show Rn _ 96 (0, [some (vR 20 0), some (vI (nI e)), some (vI op), some (vI (nI (8 * e + a))), some (vI (nI (8 * e + b))), none, none, none, none, none], [], _) _
  refine rn_aload_n (pc' := 1) rfl rfl rfl ?_
  refine rn_getF (N := 1) (t' := 31) (pc' := 4) rfl rfl rfl rfl rfl (by first | assumption | decide | omega) ?_
  refine rn_iload_n (pc' := 5) rfl rfl rfl ?_
  refine rn_iald (N := 1) (K := 192) (pc' := 6) rfl rfl ⟨rfl, rfl⟩ rfl (by first | assumption | decide | omega) rfl (by decide) rfl (by first | assumption | decide | omega) ?_
  refine rn_topI hv ?_
  refine rn_istore (pc' := 8) rfl rfl rfl (Nat.le_of_ble_eq_true rfl) rfl ?_
  refine rn_iconst (pc' := 9) (v := (-1)) rfl rfl (by decide) ?_
  refine rn_istore (pc' := 11) rfl rfl rfl (Nat.le_of_ble_eq_true rfl) rfl ?_
  refine rn_iconst (pc' := 12) (v := (-1)) rfl rfl (by decide) ?_
  refine rn_istore (pc' := 14) rfl rfl rfl (Nat.le_of_ble_eq_true rfl) rfl ?_
  refine rn_iconst (pc' := 15) (v := (-1)) rfl rfl (by decide) ?_
  refine rn_istore (pc' := 17) rfl rfl rfl (Nat.le_of_ble_eq_true rfl) rfl ?_
  refine rn_bipush (pc' := 19) (v := 23) rfl rfl (by decide) ?_
  refine rn_istore (pc' := 21) rfl rfl rfl (Nat.le_of_ble_eq_true rfl) rfl ?_
  exact l0
