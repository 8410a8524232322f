theorem ite01 {c : Prop} [Decidable c] : (if c then (1 : Int32) else 0) = 0 ↔ ¬ c := by by_cases h : c <;> simp [h]
theorem mRow_put_ne (M : xM) {t t' : Nat} (e e' k : Nat) (f : Nat → Int32) (v : Int32) (h : t' ≠ t) : mI (mRow M t e f) t' e' k v = mRow (mI M t' e' k v) t e f := by
  refine xM_ext (fun a b c => ?_) rfl
  simp only [mI, xu, mRow]
  by_cases h1 : a = t ∧ b = e
  · rw [if_neg (fun q => h (q.1.symm.trans h1.1)), if_pos h1, if_pos h1]
  · rw [if_neg h1]
    by_cases h2 : a = t' ∧ b = e' ∧ c = k
    · rw [if_pos h2, if_neg h1]
    · rw [if_neg h2, if_neg h1]
def mns (M : xM) (e : Nat) (v : Int32) (k : Nat) : Bool := if 0 < v then decide (rpid M k = v) else if v = 0 then decide (rgrp M k = rgrp M e) else decide (v = -1 ∨ rgrp M k = -v)
theorem r_means {d e k : Nat} (M : xM) (v : Int32) (he : e < 24) (hk : k < 24) : Rn d 95 (0, xen 95 [vR 20 0, vI (nI e), vI v, vI (nI k)], [], M) (fun r M' => r = some (vI (bI (mns M e v k))) ∧ M' = M) := by
  show Rn _ 95 (0, [some (vR 20 0), some (vI (nI e)), some (vI v), some (vI (nI k))], [], _) _
  refine rn_iload_n (pc' := 1) rfl rfl rfl ?_
  refine rn_if_le (t := 22) (pc' := 4) rfl rfl rfl (fun h1 => ?_) (fun h1 => ?_)
  · refine rn_iload_n (pc' := 23) rfl rfl rfl ?_
    refine rn_if_ne (t := 49) (pc' := 26) rfl rfl rfl (fun h2 => ?_) (fun h2 => ?_)
    · refine rn_iload_n (pc' := 50) rfl rfl rfl ?_
      refine rn_iconst (pc' := 51) (v := (-1)) rfl rfl (by decide) ?_
      refine rn_ic_eq (t := 65) (pc' := 54) rfl rfl rfl (fun h3 => ?_) (fun h3 => ?_)
      · refine rn_iconst (pc' := 66) (v := 1) rfl rfl (by decide) ?_
        refine rn_goto (pc' := 70) rfl rfl ?_
        refine rn_zreturn rfl rfl (by decide) ?_
        refine ⟨?_, rfl⟩
        first | (simp [mns, rpid, rgrp, bI, *]; done) | simp_all [mns, rpid, rgrp, bI]
      · refine rn_aload_n (pc' := 55) rfl rfl rfl ?_
        refine rn_getF (N := 1) (t' := 27) (pc' := 58) rfl rfl rfl rfl rfl (by first | assumption | decide | omega) ?_
        refine rn_iload_n (pc' := 59) rfl rfl rfl ?_
        refine rn_iald (N := 1) (K := 24) (pc' := 60) rfl rfl ⟨rfl, rfl⟩ rfl (by first | assumption | decide | omega) rfl (by decide) rfl (by first | assumption | decide | omega) ?_
        refine rn_iload_n (pc' := 61) rfl rfl rfl ?_
        refine rn_ineg (pc' := 62) rfl rfl ?_
        refine rn_ic_ne (t := 69) (pc' := 65) rfl rfl rfl (fun h4 => ?_) (fun h4 => ?_)
        · refine rn_iconst (pc' := 70) (v := 0) rfl rfl (by decide) ?_
          refine rn_zreturn rfl rfl (by decide) ?_
          refine ⟨?_, rfl⟩
          first | (simp [mns, rpid, rgrp, bI, *]; done) | simp_all [mns, rpid, rgrp, bI]
        · refine rn_iconst (pc' := 66) (v := 1) rfl rfl (by decide) ?_
          refine rn_goto (pc' := 70) rfl rfl ?_
          refine rn_zreturn rfl rfl (by decide) ?_
          refine ⟨?_, rfl⟩
          first | (simp [mns, rpid, rgrp, bI, *]; done) | simp_all [mns, rpid, rgrp, bI]
    · refine rn_aload_n (pc' := 27) rfl rfl rfl ?_
      refine rn_getF (N := 1) (t' := 27) (pc' := 30) rfl rfl rfl rfl rfl (by first | assumption | decide | omega) ?_
      refine rn_iload_n (pc' := 31) rfl rfl rfl ?_
      refine rn_iald (N := 1) (K := 24) (pc' := 32) rfl rfl ⟨rfl, rfl⟩ rfl (by first | assumption | decide | omega) rfl (by decide) rfl (by first | assumption | decide | omega) ?_
      refine rn_aload_n (pc' := 33) rfl rfl rfl ?_
      refine rn_getF (N := 1) (t' := 27) (pc' := 36) rfl rfl rfl rfl rfl (by first | assumption | decide | omega) ?_
      refine rn_iload_n (pc' := 37) rfl rfl rfl ?_
      refine rn_iald (N := 1) (K := 24) (pc' := 38) rfl rfl ⟨rfl, rfl⟩ rfl (by first | assumption | decide | omega) rfl (by decide) rfl (by first | assumption | decide | omega) ?_
      refine rn_ic_ne (t := 45) (pc' := 41) rfl rfl rfl (fun h3 => ?_) (fun h3 => ?_)
      · refine rn_iconst (pc' := 46) (v := 0) rfl rfl (by decide) ?_
        refine rn_goto (pc' := 70) rfl rfl ?_
        refine rn_zreturn rfl rfl (by decide) ?_
        refine ⟨?_, rfl⟩
        first | (simp [mns, rpid, rgrp, bI, *]; done) | simp_all [mns, rpid, rgrp, bI]
      · refine rn_iconst (pc' := 42) (v := 1) rfl rfl (by decide) ?_
        refine rn_goto (pc' := 70) rfl rfl ?_
        refine rn_zreturn rfl rfl (by decide) ?_
        refine ⟨?_, rfl⟩
        first | (simp [mns, rpid, rgrp, bI, *]; done) | simp_all [mns, rpid, rgrp, bI]
  · refine rn_aload_n (pc' := 5) rfl rfl rfl ?_
    refine rn_getF (N := 1) (t' := 25) (pc' := 8) rfl rfl rfl rfl rfl (by first | assumption | decide | omega) ?_
    refine rn_iload_n (pc' := 9) rfl rfl rfl ?_
    refine rn_iald (N := 1) (K := 24) (pc' := 10) rfl rfl ⟨rfl, rfl⟩ rfl (by first | assumption | decide | omega) rfl (by decide) rfl (by first | assumption | decide | omega) ?_
    refine rn_iload_n (pc' := 11) rfl rfl rfl ?_
    refine rn_ic_ne (t := 18) (pc' := 14) rfl rfl rfl (fun h2 => ?_) (fun h2 => ?_)
    · refine rn_iconst (pc' := 19) (v := 0) rfl rfl (by decide) ?_
      refine rn_goto (pc' := 70) rfl rfl ?_
      refine rn_zreturn rfl rfl (by decide) ?_
      refine ⟨?_, rfl⟩
      first | (simp [mns, rpid, rgrp, bI, *]; done) | simp_all [mns, rpid, rgrp, bI]
    · refine rn_iconst (pc' := 15) (v := 1) rfl rfl (by decide) ?_
      refine rn_goto (pc' := 70) rfl rfl ?_
      refine rn_zreturn rfl rfl (by decide) ?_
      refine ⟨?_, rfl⟩
      first | (simp [mns, rpid, rgrp, bI, *]; done) | simp_all [mns, rpid, rgrp, bI]
abbrev rprg (M : xM) (e : Nat) : Int32 := M.1 29 0 e
abbrev rnxt (M : xM) (e : Nat) : Int32 := M.1 30 0 e
abbrev rhnd (M : xM) (e : Nat) : Int32 := M.1 35 0 e
abbrev isPr (b : Int32) : Prop := 0 ≤ b.toInt64 ∧ b.toInt64 ≤ 15
def dxF (M : xM) (e i : Nat) : Nat → Int32 := fun k => if 21 * e ≤ k ∧ k < 21 * e + i ∧ 1 < M.1 32 0 k then 0 else M.1 32 0 k
def f_exec1 (M : xM) (e : Nat) (b : Int32) : xM := mI (mI (mI (mI M 29 0 e b) 30 0 e 0) 35 0 e 0) 42 0 e 1
def f_execY (M : xM) (e : Nat) (b : Int32) : xM := mRow (f_exec1 M e b) 32 0 (dxF M e 21)
theorem lt21 {i : Nat} (h : i < 2 ^ 31) : (nI i < 21) ↔ i < 21 := nI_ltI h (by decide)
theorem r_execY {d e a : Nat} (M : xM) (b : Int32) (he : e < 24) (hb : isPr b) : Rn (d + 1) 94 (0, xen 94 [vR 20 0, vI (nI e), vI b, vI (nI (8 * e + a))], [], M) (fun r M' => r = none ∧ M' = f_execY M e b) := by
  have loop : ∀ m i : Nat, i + m = 21 → Rn (d + 1) 94 (52, [some (vR 20 0), some (vI (nI e)), some (vI b), some (vI (nI (8 * e + a))), some (vI (nI i))], [], mRow (f_exec1 M e b) 32 0 (dxF M e i)) (fun r M' => r = none ∧ M' = f_execY M e b) := by
    intro m
    induction m with
    | zero =>
      intro i hi
      obtain rfl : i = 21 := by omega
      refine rn_iload (pc' := 54) rfl rfl rfl ?_
      refine rn_bipush (pc' := 56) (v := 21) rfl rfl (by decide) ?_
      refine rn_ic_ge (t := 109) (pc' := 59) rfl rfl rfl (fun h1 => ?_) (fun h1 => ?_)
      · refine rn_return rfl rfl ?_
        exact ⟨rfl, rfl⟩
      · exact absurd ((lt21 (by omega)).mp h1) (by omega)
    | succ m ih =>
      intro i hi
      have hi21 : i < 21 := by omega
      have ih := ih (i + 1) (by omega)
      have hv : dxF M e i (21 * e + i) = M.1 32 0 (21 * e + i) := by unfold dxF; rw [if_neg (by omega)]
      have hu : upd (dxF M e i) (21 * e + i) (if 1 < M.1 32 0 (21 * e + i) then 0 else M.1 32 0 (21 * e + i)) = dxF M e (i + 1) := by
        funext k
        unfold upd dxF
        by_cases hk : k = 21 * e + i
        · subst hk
          by_cases h9 : 1 < M.1 32 0 (21 * e + i)
          · rw [if_pos rfl, if_pos h9, if_pos ⟨by omega, by omega, h9⟩]
          · rw [if_pos rfl, if_neg h9, if_neg (fun q => h9 q.2.2)]
        · by_cases h9 : 21 * e ≤ k ∧ k < 21 * e + i ∧ 1 < M.1 32 0 k
          · rw [if_neg hk, if_pos h9, if_pos ⟨h9.1, by omega, h9.2.2⟩]
          · rw [if_neg hk, if_neg h9, if_neg (fun q => h9 ⟨q.1, by omega, q.2.2⟩)]
      have k1 : ∀ x, x = (if 1 < M.1 32 0 (21 * e + i) then 0 else M.1 32 0 (21 * e + i)) → Rn (d + 1) 94 (102, [some (vR 20 0), some (vI (nI e)), some (vI b), some (vI (nI (8 * e + a))), some (vI (nI i))], [vI x, vI (nI (21 * e + i)), vR 32 0], mRow (f_exec1 M e b) 32 0 (dxF M e i)) (fun r M' => r = none ∧ M' = f_execY M e b) := by
        intro x hx
        subst hx
        refine rn_iast (k := 21 * e + i) (N := 1) (K := 504) (pc' := 103) rfl rfl ⟨rfl, rfl⟩ rfl (by first | assumption | decide | omega) rfl (by decide) (rfl) (by first | assumption | decide | omega) ?_
        rw [mRow_put, hu]
        refine rn_iinc (pc' := 106) rfl rfl rfl (nI_inc _) rfl (Nat.le_of_ble_eq_true rfl) rfl ?_
        refine rn_goto (pc' := 52) rfl rfl ?_
        exact ih
      refine rn_iload (pc' := 54) rfl rfl rfl ?_
      refine rn_bipush (pc' := 56) (v := 21) rfl rfl (by decide) ?_
      refine rn_ic_ge (t := 109) (pc' := 59) rfl rfl rfl (fun h1 => ?_) (fun h1 => ?_)
      · exact absurd ((lt21 (by omega)).mpr hi21) h1
      · refine rn_aload_n (pc' := 60) rfl rfl rfl ?_
        refine rn_getF (N := 1) (t' := 32) (pc' := 63) rfl rfl rfl rfl rfl (by first | assumption | decide | omega) ?_
        refine rn_bipush (pc' := 65) (v := 21) rfl rfl (by decide) ?_
        refine rn_iload_n (pc' := 66) rfl rfl rfl ?_
        refine rn_imul (pc' := 67) rfl rfl ?_
        refine rn_iload (pc' := 69) rfl rfl rfl ?_
        refine rn_iadd (pc' := 70) rfl rfl ?_
        refine rn_topI (ix21 e i) ?_
        refine rn_aload_n (pc' := 71) rfl rfl rfl ?_
        refine rn_getF (N := 1) (t' := 32) (pc' := 74) rfl rfl rfl rfl rfl (by first | assumption | decide | omega) ?_
        refine rn_bipush (pc' := 76) (v := 21) rfl rfl (by decide) ?_
        refine rn_iload_n (pc' := 77) rfl rfl rfl ?_
        refine rn_imul (pc' := 78) rfl rfl ?_
        refine rn_iload (pc' := 80) rfl rfl rfl ?_
        refine rn_iadd (pc' := 81) rfl rfl ?_
        refine rn_iald (k := 21 * e + i) (N := 1) (K := 504) (pc' := 82) rfl rfl ⟨rfl, rfl⟩ rfl (by first | assumption | decide | omega) rfl (by decide) (ix21 e i) (by first | assumption | decide | omega) ?_
        refine rn_topI hv ?_
        refine rn_iconst (pc' := 83) (v := 1) rfl rfl (by decide) ?_
        refine rn_ic_le (t := 90) (pc' := 86) rfl rfl rfl (fun h2 => ?_) (fun h2 => ?_)
        · refine rn_aload_n (pc' := 91) rfl rfl rfl ?_
          refine rn_getF (N := 1) (t' := 32) (pc' := 94) rfl rfl rfl rfl rfl (by first | assumption | decide | omega) ?_
          refine rn_bipush (pc' := 96) (v := 21) rfl rfl (by decide) ?_
          refine rn_iload_n (pc' := 97) rfl rfl rfl ?_
          refine rn_imul (pc' := 98) rfl rfl ?_
          refine rn_iload (pc' := 100) rfl rfl rfl ?_
          refine rn_iadd (pc' := 101) rfl rfl ?_
          refine rn_iald (k := 21 * e + i) (N := 1) (K := 504) (pc' := 102) rfl rfl ⟨rfl, rfl⟩ rfl (by first | assumption | decide | omega) rfl (by decide) (ix21 e i) (by first | assumption | decide | omega) ?_
          first | exact k1 _ (by rw [if_pos h2]) | (refine rn_topI hv ?_; exact k1 _ (by rw [if_neg h2]))
        · refine rn_iconst (pc' := 87) (v := 0) rfl rfl (by decide) ?_
          refine rn_goto (pc' := 102) rfl rfl ?_
          first | exact k1 _ (by rw [if_pos h2]) | (refine rn_topI hv ?_; exact k1 _ (by rw [if_neg h2]))
  have e0 : mRow (f_exec1 M e b) 32 0 (dxF M e 0) = f_exec1 M e b := by
    have e2 : dxF M e 0 = (f_exec1 M e b).1 32 0 := by
      funext k; unfold dxF; rw [if_neg (by omega)]; rfl
    rw [e2, mRow_id]
  have l0 := loop 21 0 rfl
  rw [e0] at l0
  show Rn _ 94 (0, [some (vR 20 0), some (vI (nI e)), some (vI b), some (vI (nI (8 * e + a))), none], [], _) _
  refine rn_iload_n (pc' := 1) rfl rfl rfl ?_
  refine rn_i2l (pc' := 2) rfl rfl ?_
  refine rn_lconst (pc' := 3) (v := 0) rfl rfl rfl ?_
  refine rn_ldc2_w (pc' := 6) (v := 15) rfl rfl rfl ?_
  refine rn_callS (pc' := 9) (as := [_, _, _]) rfl rfl rfl ⟨rfl, rfl, rfl⟩ (Nat.le_of_ble_eq_true rfl) (Nat.le_of_ble_eq_true rfl) rfl (r_in M _ 0 15) (fun r1 M1 hz => ?_)
  obtain ⟨rfl, hm_⟩ := hz
  refine rn_mem hm_ ?_
  clear hm_
  refine rn_if_ne (t := 21) (pc' := 12) rfl rfl rfl (fun h2 => ?_) (fun h2 => ?_)
  · refine rn_aload_n (pc' := 22) rfl rfl rfl ?_
    refine rn_getF (N := 1) (t' := 29) (pc' := 25) rfl rfl rfl rfl rfl (by first | assumption | decide | omega) ?_
    refine rn_iload_n (pc' := 26) rfl rfl rfl ?_
    refine rn_iload_n (pc' := 27) rfl rfl rfl ?_
    refine rn_iast (N := 1) (K := 24) (pc' := 28) rfl rfl ⟨rfl, rfl⟩ rfl (by first | assumption | decide | omega) rfl (by decide) rfl (by first | assumption | decide | omega) ?_
    refine rn_aload_n (pc' := 29) rfl rfl rfl ?_
    refine rn_getF (N := 1) (t' := 30) (pc' := 32) rfl rfl rfl rfl rfl (by first | assumption | decide | omega) ?_
    refine rn_iload_n (pc' := 33) rfl rfl rfl ?_
    refine rn_iconst (pc' := 34) (v := 0) rfl rfl (by decide) ?_
    refine rn_iast (N := 1) (K := 24) (pc' := 35) rfl rfl ⟨rfl, rfl⟩ rfl (by first | assumption | decide | omega) rfl (by decide) rfl (by first | assumption | decide | omega) ?_
    refine rn_aload_n (pc' := 36) rfl rfl rfl ?_
    refine rn_getF (N := 1) (t' := 35) (pc' := 39) rfl rfl rfl rfl rfl (by first | assumption | decide | omega) ?_
    refine rn_iload_n (pc' := 40) rfl rfl rfl ?_
    refine rn_iconst (pc' := 41) (v := 0) rfl rfl (by decide) ?_
    refine rn_iast (N := 1) (K := 24) (pc' := 42) rfl rfl ⟨rfl, rfl⟩ rfl (by first | assumption | decide | omega) rfl (by decide) rfl (by first | assumption | decide | omega) ?_
    refine rn_aload_n (pc' := 43) rfl rfl rfl ?_
    refine rn_getF (N := 1) (t' := 42) (pc' := 46) rfl rfl rfl rfl rfl (by first | assumption | decide | omega) ?_
    refine rn_iload_n (pc' := 47) rfl rfl rfl ?_
    refine rn_iconst (pc' := 48) (v := 1) rfl rfl (by decide) ?_
    refine rn_bast (N := 1) (K := 24) (pc' := 49) rfl rfl ⟨rfl, rfl⟩ rfl (by first | assumption | decide | omega) rfl (by decide) rfl (by first | assumption | decide | omega) (by decide) ?_
    refine rn_iconst (pc' := 50) (v := 0) rfl rfl (by decide) ?_
    refine rn_istore (pc' := 52) rfl rfl rfl (Nat.le_of_ble_eq_true rfl) rfl ?_
    exact l0
  · exact absurd hb (ite01.mp h2)
theorem r_execN {d e a : Nat} (M : xM) (b : Int32) (he : e < 24) (ha : a < 8) (hb : ¬ isPr b) : Rn (d + 1) 94 (0, xen 94 [vR 20 0, vI (nI e), vI b, vI (nI (8 * e + a))], [], M) (fun r M' => r = none ∧ M' = mI M 31 0 (8 * e + a) (-2)) := by
  show Rn _ 94 (0, [some (vR 20 0), some (vI (nI e)), some (vI b), some (vI (nI (8 * e + a))), none], [], _) _
  refine rn_iload_n (pc' := 1) rfl rfl rfl ?_
  refine rn_i2l (pc' := 2) rfl rfl ?_
  refine rn_lconst (pc' := 3) (v := 0) rfl rfl rfl ?_
  refine rn_ldc2_w (pc' := 6) (v := 15) rfl rfl rfl ?_
  refine rn_callS (pc' := 9) (as := [_, _, _]) rfl rfl rfl ⟨rfl, rfl, rfl⟩ (Nat.le_of_ble_eq_true rfl) (Nat.le_of_ble_eq_true rfl) rfl (r_in M _ 0 15) (fun r1 M1 hz => ?_)
  obtain ⟨rfl, hm_⟩ := hz
  refine rn_mem hm_ ?_
  clear hm_
  refine rn_if_ne (t := 21) (pc' := 12) rfl rfl rfl (fun h2 => ?_) (fun h2 => ?_)
  · exact absurd (ite01.mpr hb) h2
  · refine rn_aload_n (pc' := 13) rfl rfl rfl ?_
    refine rn_getF (N := 1) (t' := 31) (pc' := 16) rfl rfl rfl rfl rfl (by first | assumption | decide | omega) ?_
    refine rn_iload_n (pc' := 17) rfl rfl rfl ?_
    refine rn_bipush (pc' := 19) (v := (-2)) rfl rfl (by decide) ?_
    refine rn_iast (N := 1) (K := 192) (pc' := 20) rfl rfl ⟨rfl, rfl⟩ rfl (by first | assumption | decide | omega) rfl (by decide) rfl (by first | assumption | decide | omega) ?_
    refine rn_return rfl rfl ?_
    exact ⟨rfl, rfl⟩
def f_beg (M : xM) (e s h : Nat) : xM :=
  let A := mI M 36 0 (4 * e + h) (rnxt M e)
  let B := mI A 37 0 (4 * e + h) (A.1 34 0 e)
  let C := mI B 35 0 e (B.1 35 0 e + 1)
  let D := mI C 33 0 e (C.1 33 0 e &&& (((1 : Int32) <<< (nI s &&& 31)) ^^^ (-1)))
  let E := mI D 34 0 e (D.1 34 0 e ||| ((1 : Int32) <<< (nI s &&& 31)))
  let F := mI E 30 0 e (E.1 32 0 (21 * e + s) - 2)
  mI F 20 0 38 (F.1 20 0 38 + 1)
def bitR (x : Int32) (i : Nat) : Int32 := (x >>> (nI i &&& 31)) &&& 1
theorem ix4 (u s : Nat) : (4 : Int32) * nI u + nI s = nI (4 * u + s) := by
  show nI 4 * nI u + nI s = _
  rw [pk_mul, nI_add]
theorem r_begin {d e s h n : Nat} (M : xM) (rd : Int32) (he : e < 24) (hs1 : 1 ≤ s) (hs : s < 21) (hz : ∀ i, 1 ≤ i → i < s → bitR rd i = 0) (hb : ¬ bitR rd s = 0) (hh : rhnd M e = nI h) (hh4 : h ≤ 4) (hG : gOk M) (hn : rok M n) (hn4 : n < 4000) (hf : h = 4 → ¬ rpid M e = 1 → ∃ n', rok (f_end M e 11) n' ∧ n' ≤ 4000) : Rn (d + 3) 89 (0, xen 89 [vR 20 0, vI (nI e), vI rd], [], M) (fun r M' => r = none ∧ M' = if h = 4 then f_end M e 11 else f_beg M e s h) := by
  have fin : Rn (d + 3) 89 (16, [some (vR 20 0), some (vI (nI e)), some (vI rd), some (vI (nI s))], [], M) (fun r M' => r = none ∧ M' = if h = 4 then f_end M e 11 else f_beg M e s h) := by
    have h4i : rhnd M e = 4 ↔ h = 4 := by rw [hh]; exact nI_eq (a := h) (b := 4) (by omega) (by decide)
    by_cases h4 : h = 4
    · rw [if_pos h4]
      refine rn_aload_n (pc' := 17) rfl rfl rfl ?_
      refine rn_getF (N := 1) (t' := 35) (pc' := 20) rfl rfl rfl rfl rfl (by first | assumption | decide | omega) ?_
      refine rn_iload_n (pc' := 21) rfl rfl rfl ?_
      refine rn_iald (N := 1) (K := 24) (pc' := 22) rfl rfl ⟨rfl, rfl⟩ rfl (by first | assumption | decide | omega) rfl (by decide) rfl (by first | assumption | decide | omega) ?_
      refine rn_iconst (pc' := 23) (v := 4) rfl rfl (by decide) ?_
      refine rn_ic_ne (t := 34) (pc' := 26) rfl rfl rfl (fun h1 => ?_) (fun h1 => ?_)
      · exact absurd (h4i.mpr h4) h1
      · refine rn_aload_n (pc' := 27) rfl rfl rfl ?_
        refine rn_iload_n (pc' := 28) rfl rfl rfl ?_
        refine rn_bipush (pc' := 30) (v := 11) rfl rfl (by decide) ?_
        refine rn_callV (pc' := 33) (as := [_, _]) rfl rfl rfl ⟨Nat.le_of_ble_eq_true rfl, rfl, rfl⟩ rfl (by first | assumption | decide | omega) (Nat.le_of_ble_eq_true rfl) (Nat.le_of_ble_eq_true rfl) rfl (r_end M 11 he hG hn hn4 (hf h4)) (fun r2 M2 hz => ?_)
        obtain ⟨rfl, hm_⟩ := hz
        refine rn_mem hm_ ?_
        clear hm_
        refine rn_return rfl rfl ?_
        exact ⟨rfl, rfl⟩
    · rw [if_neg h4]
      refine rn_aload_n (pc' := 17) rfl rfl rfl ?_
      refine rn_getF (N := 1) (t' := 35) (pc' := 20) rfl rfl rfl rfl rfl (by first | assumption | decide | omega) ?_
      refine rn_iload_n (pc' := 21) rfl rfl rfl ?_
      refine rn_iald (N := 1) (K := 24) (pc' := 22) rfl rfl ⟨rfl, rfl⟩ rfl (by first | assumption | decide | omega) rfl (by decide) rfl (by first | assumption | decide | omega) ?_
      refine rn_iconst (pc' := 23) (v := 4) rfl rfl (by decide) ?_
      refine rn_ic_ne (t := 34) (pc' := 26) rfl rfl rfl (fun h1 => ?_) (fun h1 => ?_)
      · refine rn_aload_n (pc' := 35) rfl rfl rfl ?_
        refine rn_getF (N := 1) (t' := 36) (pc' := 38) rfl rfl rfl rfl rfl (by first | assumption | decide | omega) ?_
        refine rn_iconst (pc' := 39) (v := 4) rfl rfl (by decide) ?_
        refine rn_iload_n (pc' := 40) rfl rfl rfl ?_
        refine rn_imul (pc' := 41) rfl rfl ?_
        refine rn_aload_n (pc' := 42) rfl rfl rfl ?_
        refine rn_getF (N := 1) (t' := 35) (pc' := 45) rfl rfl rfl rfl rfl (by first | assumption | decide | omega) ?_
        refine rn_iload_n (pc' := 46) rfl rfl rfl ?_
        refine rn_iald (N := 1) (K := 24) (pc' := 47) rfl rfl ⟨rfl, rfl⟩ rfl (by first | assumption | decide | omega) rfl (by decide) rfl (by first | assumption | decide | omega) ?_
        refine rn_topI (y := nI h) hh ?_
        refine rn_iadd (pc' := 48) rfl rfl ?_
        refine rn_aload_n (pc' := 49) rfl rfl rfl ?_
        refine rn_getF (N := 1) (t' := 30) (pc' := 52) rfl rfl rfl rfl rfl (by first | assumption | decide | omega) ?_
        refine rn_iload_n (pc' := 53) rfl rfl rfl ?_
        refine rn_iald (N := 1) (K := 24) (pc' := 54) rfl rfl ⟨rfl, rfl⟩ rfl (by first | assumption | decide | omega) rfl (by decide) rfl (by first | assumption | decide | omega) ?_
        refine rn_iast (k := 4 * e + h) (N := 1) (K := 96) (pc' := 55) rfl rfl ⟨rfl, rfl⟩ rfl (by first | assumption | decide | omega) rfl (by decide) (ix4 e h) (by first | assumption | decide | omega) ?_
        refine rn_aload_n (pc' := 56) rfl rfl rfl ?_
        refine rn_getF (N := 1) (t' := 37) (pc' := 59) rfl rfl rfl rfl rfl (by first | assumption | decide | omega) ?_
        refine rn_iconst (pc' := 60) (v := 4) rfl rfl (by decide) ?_
        refine rn_iload_n (pc' := 61) rfl rfl rfl ?_
        refine rn_imul (pc' := 62) rfl rfl ?_
        refine rn_aload_n (pc' := 63) rfl rfl rfl ?_
        refine rn_getF (N := 1) (t' := 35) (pc' := 66) rfl rfl rfl rfl rfl (by first | assumption | decide | omega) ?_
        refine rn_iload_n (pc' := 67) rfl rfl rfl ?_
        refine rn_iald (N := 1) (K := 24) (pc' := 68) rfl rfl ⟨rfl, rfl⟩ rfl (by first | assumption | decide | omega) rfl (by decide) rfl (by first | assumption | decide | omega) ?_
        refine rn_topI (y := nI h) hh ?_
        refine rn_iadd (pc' := 69) rfl rfl ?_
        refine rn_aload_n (pc' := 70) rfl rfl rfl ?_
        refine rn_getF (N := 1) (t' := 34) (pc' := 73) rfl rfl rfl rfl rfl (by first | assumption | decide | omega) ?_
        refine rn_iload_n (pc' := 74) rfl rfl rfl ?_
        refine rn_iald (N := 1) (K := 24) (pc' := 75) rfl rfl ⟨rfl, rfl⟩ rfl (by first | assumption | decide | omega) rfl (by decide) rfl (by first | assumption | decide | omega) ?_
        refine rn_iast (k := 4 * e + h) (N := 1) (K := 96) (pc' := 76) rfl rfl ⟨rfl, rfl⟩ rfl (by first | assumption | decide | omega) rfl (by decide) (ix4 e h) (by first | assumption | decide | omega) ?_
        refine rn_aload_n (pc' := 77) rfl rfl rfl ?_
        refine rn_getF (N := 1) (t' := 35) (pc' := 80) rfl rfl rfl rfl rfl (by first | assumption | decide | omega) ?_
        refine rn_iload_n (pc' := 81) rfl rfl rfl ?_
        refine rn_dup2 (pc' := 82) rfl rfl ?_
        refine rn_iald (N := 1) (K := 24) (pc' := 83) rfl rfl ⟨rfl, rfl⟩ rfl (by first | assumption | decide | omega) rfl (by decide) rfl (by first | assumption | decide | omega) ?_
        refine rn_iconst (pc' := 84) (v := 1) rfl rfl (by decide) ?_
        refine rn_iadd (pc' := 85) rfl rfl ?_
        refine rn_iast (N := 1) (K := 24) (pc' := 86) rfl rfl ⟨rfl, rfl⟩ rfl (by first | assumption | decide | omega) rfl (by decide) rfl (by first | assumption | decide | omega) ?_
        refine rn_aload_n (pc' := 87) rfl rfl rfl ?_
        refine rn_getF (N := 1) (t' := 33) (pc' := 90) rfl rfl rfl rfl rfl (by first | assumption | decide | omega) ?_
        refine rn_iload_n (pc' := 91) rfl rfl rfl ?_
        refine rn_dup2 (pc' := 92) rfl rfl ?_
        refine rn_iald (N := 1) (K := 24) (pc' := 93) rfl rfl ⟨rfl, rfl⟩ rfl (by first | assumption | decide | omega) rfl (by decide) rfl (by first | assumption | decide | omega) ?_
        refine rn_iconst (pc' := 94) (v := 1) rfl rfl (by decide) ?_
        refine rn_iload_n (pc' := 95) rfl rfl rfl ?_
        refine rn_ishl (pc' := 96) rfl rfl ?_
        refine rn_iconst (pc' := 97) (v := (-1)) rfl rfl (by decide) ?_
        refine rn_ixor (pc' := 98) rfl rfl ?_
        refine rn_iand (pc' := 99) rfl rfl ?_
        refine rn_iast (N := 1) (K := 24) (pc' := 100) rfl rfl ⟨rfl, rfl⟩ rfl (by first | assumption | decide | omega) rfl (by decide) rfl (by first | assumption | decide | omega) ?_
        refine rn_aload_n (pc' := 101) rfl rfl rfl ?_
        refine rn_getF (N := 1) (t' := 34) (pc' := 104) rfl rfl rfl rfl rfl (by first | assumption | decide | omega) ?_
        refine rn_iload_n (pc' := 105) rfl rfl rfl ?_
        refine rn_dup2 (pc' := 106) rfl rfl ?_
        refine rn_iald (N := 1) (K := 24) (pc' := 107) rfl rfl ⟨rfl, rfl⟩ rfl (by first | assumption | decide | omega) rfl (by decide) rfl (by first | assumption | decide | omega) ?_
        refine rn_iconst (pc' := 108) (v := 1) rfl rfl (by decide) ?_
        refine rn_iload_n (pc' := 109) rfl rfl rfl ?_
        refine rn_ishl (pc' := 110) rfl rfl ?_
        refine rn_ior (pc' := 111) rfl rfl ?_
        refine rn_iast (N := 1) (K := 24) (pc' := 112) rfl rfl ⟨rfl, rfl⟩ rfl (by first | assumption | decide | omega) rfl (by decide) rfl (by first | assumption | decide | omega) ?_
        refine rn_aload_n (pc' := 113) rfl rfl rfl ?_
        refine rn_getF (N := 1) (t' := 30) (pc' := 116) rfl rfl rfl rfl rfl (by first | assumption | decide | omega) ?_
        refine rn_iload_n (pc' := 117) rfl rfl rfl ?_
        refine rn_aload_n (pc' := 118) rfl rfl rfl ?_
        refine rn_getF (N := 1) (t' := 32) (pc' := 121) rfl rfl rfl rfl rfl (by first | assumption | decide | omega) ?_
        refine rn_bipush (pc' := 123) (v := 21) rfl rfl (by decide) ?_
        refine rn_iload_n (pc' := 124) rfl rfl rfl ?_
        refine rn_imul (pc' := 125) rfl rfl ?_
        refine rn_iload_n (pc' := 126) rfl rfl rfl ?_
        refine rn_iadd (pc' := 127) rfl rfl ?_
        refine rn_iald (k := 21 * e + s) (N := 1) (K := 504) (pc' := 128) rfl rfl ⟨rfl, rfl⟩ rfl (by first | assumption | decide | omega) rfl (by decide) (ix21 e s) (by first | assumption | decide | omega) ?_
        refine rn_iconst (pc' := 129) (v := 2) rfl rfl (by decide) ?_
        refine rn_isub (pc' := 130) rfl rfl ?_
        refine rn_iast (N := 1) (K := 24) (pc' := 131) rfl rfl ⟨rfl, rfl⟩ rfl (by first | assumption | decide | omega) rfl (by decide) rfl (by first | assumption | decide | omega) ?_
        refine rn_aload_n (pc' := 132) rfl rfl rfl ?_
        refine rn_dupA (pc' := 133) rfl rfl ?_
        refine rn_getI (N := 1) (pc' := 136) rfl rfl rfl rfl (by decide) rfl (by first | assumption | decide | omega) ?_
        refine rn_iconst (pc' := 137) (v := 1) rfl rfl (by decide) ?_
        refine rn_iadd (pc' := 138) rfl rfl ?_
        refine rn_putI (N := 1) (pc' := 141) rfl rfl rfl rfl rfl (by first | assumption | decide | omega) ?_
        refine rn_return rfl rfl ?_
        exact ⟨rfl, rfl⟩
      · exact absurd (h4i.mp h1) h4
  have loop : ∀ m i : Nat, i + m = s → 1 ≤ i → Rn (d + 3) 89 (2, [some (vR 20 0), some (vI (nI e)), some (vI rd), some (vI (nI i))], [], M) (fun r M' => r = none ∧ M' = if h = 4 then f_end M e 11 else f_beg M e s h) := by
    intro m
    induction m with
    | zero =>
      intro i hi hi1
      obtain rfl : i = s := by omega
      refine rn_iload_n (pc' := 3) rfl rfl rfl ?_
      refine rn_iload_n (pc' := 4) rfl rfl rfl ?_
      refine rn_ishr (pc' := 5) rfl rfl ?_
      refine rn_iconst (pc' := 6) (v := 1) rfl rfl (by decide) ?_
      refine rn_iand (pc' := 7) rfl rfl ?_
      refine rn_if_ne (t := 16) (pc' := 10) rfl rfl rfl (fun h1 => ?_) (fun h1 => ?_)
      · exact fin
      · exact absurd h1 hb
    | succ m ih =>
      intro i hi hi1
      refine rn_iload_n (pc' := 3) rfl rfl rfl ?_
      refine rn_iload_n (pc' := 4) rfl rfl rfl ?_
      refine rn_ishr (pc' := 5) rfl rfl ?_
      refine rn_iconst (pc' := 6) (v := 1) rfl rfl (by decide) ?_
      refine rn_iand (pc' := 7) rfl rfl ?_
      refine rn_if_ne (t := 16) (pc' := 10) rfl rfl rfl (fun h1 => ?_) (fun h1 => ?_)
      · exact absurd (hz i hi1 (by omega)) h1
      · refine rn_iinc (pc' := 13) rfl rfl rfl (nI_inc _) rfl (Nat.le_of_ble_eq_true rfl) rfl ?_
        refine rn_goto (pc' := 2) rfl rfl ?_
        exact ih (i + 1) (by omega) (by omega)
  show Rn _ 89 (0, [some (vR 20 0), some (vI (nI e)), some (vI rd), none], [], _) _
  refine rn_iconst (pc' := 1) (v := 1) rfl rfl (by decide) ?_
  refine rn_istore_n (pc' := 2) rfl rfl rfl (Nat.le_of_ble_eq_true rfl) rfl ?_
  exact loop (s - 1) 1 (by omega) (by omega)
