def eig (v : Int32) : Int32 := (v - v / 8 * 8 + 8) - (v - v / 8 * 8 + 8) / 8 * 8
theorem r_eighth {d : Nat} (M : xM) (v : Int32) : Rn d 90 (0, xen 90 [vI v], [], M) (fun r M' => r = some (vI (eig v)) ∧ M' = M) := by
  show Rn _ 90 (0, [some (vI v)], [], _) _
  refine rn_iload_n (pc' := 1) rfl rfl rfl ?_
  refine rn_bipush (pc' := 3) (v := 8) rfl rfl (by decide) ?_
  refine rn_irem (pc' := 4) rfl rfl (by decide) ?_
  refine rn_bipush (pc' := 6) (v := 8) rfl rfl (by decide) ?_
  refine rn_iadd (pc' := 7) rfl rfl ?_
  refine rn_bipush (pc' := 9) (v := 8) rfl rfl (by decide) ?_
  refine rn_irem (pc' := 10) rfl rfl (by decide) ?_
  refine rn_ireturn rfl rfl ?_
  exact ⟨rfl, rfl⟩
theorem eig_and (v : Int32) : eig v = v &&& 7 := by
  rw [pk_and v (m := 7) 3 rfl]
  apply Int32.toInt_inj.mp
  have h8 : (8 : Int32).toInt = 8 := by decide
  have e1 : (v - v / 8 * 8).toInt = v.toInt.tmod 8 := by rw [rem_toInt, h8]
  have b1 := tmod_bounds (a := v.toInt) (M := 8) (by decide)
  have e2 : (v - v / 8 * 8 + 8).toInt = v.toInt.tmod 8 + 8 := by
    rw [Int32.toInt_add, e1, h8]
    exact Int.bmod_eq_of_le (by omega) (by omega)
  unfold eig
  rw [rem_toInt, e2, h8, Int.tmod_eq_emod_of_nonneg (by omega), nI_toInt (by omega)]
  have e3 := Int.tmod_def v.toInt 8
  have e4 : v.toInt = if 2 * v.toBitVec.toNat < 2 ^ 32 then (v.toBitVec.toNat : Int) else (v.toBitVec.toNat : Int) - 2 ^ 32 := by
    show v.toBitVec.toInt = _
    rw [BitVec.toInt_eq_toNat_cond]
    rfl
  have e5 : v.toInt % 8 = (v.toBitVec.toNat % 8 : Nat) := by
    split at e4 <;> omega
  omega
theorem eig_lt (v : Int32) : ∃ j, j < 8 ∧ eig v = nI j ∧ v &&& 7 = nI j := by
  obtain ⟨j, h1, h2⟩ := pk_andE v (m := 7) 3 rfl
  exact ⟨j, h1, by rw [eig_and]; exact h2, h2⟩
abbrev isS1 (s : Int32) : Prop := 1 ≤ s.toInt64 ∧ s.toInt64 ≤ 20
theorem r_more15Y {d e s : Nat} (M : xM) (a b op ra rb : Int32) (he : e < 24) (hop : op.toInt = 15) (hs : a = nI s) (hs1 : 1 ≤ s ∧ s ≤ 20) (hr : isS1 a) (h9 : ¬ a = 9) (h19 : ¬ a = 19) (hb : ¬ b < 0) : Rn (d + 1) 92 (0, xen 92 [vR 20 0, vI (nI e), vI op, vI a, vI b, vI ra, vI rb], [], M) (fun r M' => r = none ∧ M' = mI M 32 0 (21 * e + s) b) := by
  show Rn _ 92 (0, [some (vR 20 0), some (vI (nI e)), some (vI op), some (vI a), some (vI b), some (vI ra), some (vI rb), none], [], _) _
  refine rn_iload_n (pc' := 1) rfl rfl rfl ?_
  refine rn_swIn (k := 0) (t := 52) rfl hop (by decide) rfl rfl ?_
  have ei : (21 : Int32) * nI e + a = nI (21 * e + s) := by rw [hs]; exact ix21 e s
  refine rn_iload_n (pc' := 53) rfl rfl rfl ?_
  refine rn_i2l (pc' := 54) rfl rfl ?_
  refine rn_lconst (pc' := 55) (v := 1) rfl rfl rfl ?_
  refine rn_ldc2_w (pc' := 58) (v := 20) rfl rfl rfl ?_
  refine rn_callS (pc' := 61) (as := [_, _, _]) rfl rfl rfl ⟨rfl, rfl, rfl⟩ (Nat.le_of_ble_eq_true rfl) (Nat.le_of_ble_eq_true rfl) rfl (r_in M _ 1 20) (fun r1 M1 hz => ?_)
  obtain ⟨rfl, hm_⟩ := hz
  refine rn_mem hm_ ?_
  clear hm_
  refine rn_if_eq (t := 390) (pc' := 64) rfl rfl rfl (fun h2 => ?_) (fun h2 => ?_)
  · first | exact absurd hr (ite01.mp h2) | exact absurd h3 h9 | exact absurd h4 h19 | exact absurd h5 hb | (refine rn_return rfl rfl ?_; exact ⟨rfl, rfl⟩)
  · refine rn_iload_n (pc' := 65) rfl rfl rfl ?_
    refine rn_bipush (pc' := 67) (v := 9) rfl rfl (by decide) ?_
    refine rn_ic_eq (t := 390) (pc' := 70) rfl rfl rfl (fun h3 => ?_) (fun h3 => ?_)
    · first | exact absurd hr (ite01.mp h2) | exact absurd h3 h9 | exact absurd h4 h19 | exact absurd h5 hb | (refine rn_return rfl rfl ?_; exact ⟨rfl, rfl⟩)
    · refine rn_iload_n (pc' := 71) rfl rfl rfl ?_
      refine rn_bipush (pc' := 73) (v := 19) rfl rfl (by decide) ?_
      refine rn_ic_eq (t := 390) (pc' := 76) rfl rfl rfl (fun h4 => ?_) (fun h4 => ?_)
      · first | exact absurd hr (ite01.mp h2) | exact absurd h3 h9 | exact absurd h4 h19 | exact absurd h5 hb | (refine rn_return rfl rfl ?_; exact ⟨rfl, rfl⟩)
      · refine rn_iload (pc' := 78) rfl rfl rfl ?_
        refine rn_if_lt (t := 390) (pc' := 81) rfl rfl rfl (fun h5 => ?_) (fun h5 => ?_)
        · first | exact absurd hr (ite01.mp h2) | exact absurd h3 h9 | exact absurd h4 h19 | exact absurd h5 hb | (refine rn_return rfl rfl ?_; exact ⟨rfl, rfl⟩)
        · refine rn_aload_n (pc' := 82) rfl rfl rfl ?_
          refine rn_getF (N := 1) (t' := 32) (pc' := 85) rfl rfl rfl rfl rfl (by first | assumption | decide | omega) ?_
          refine rn_bipush (pc' := 87) (v := 21) rfl rfl (by decide) ?_
          refine rn_iload_n (pc' := 88) rfl rfl rfl ?_
          refine rn_imul (pc' := 89) rfl rfl ?_
          refine rn_iload_n (pc' := 90) rfl rfl rfl ?_
          refine rn_iadd (pc' := 91) rfl rfl ?_
          refine rn_iload (pc' := 93) rfl rfl rfl ?_
          refine rn_iast (k := 21 * e + s) (N := 1) (K := 504) (pc' := 94) rfl rfl ⟨rfl, rfl⟩ rfl (by first | assumption | decide | omega) rfl (by decide) (ei) (by first | assumption | decide | omega) ?_
          refine rn_goto (pc' := 390) rfl rfl ?_
          first | exact absurd hr (ite01.mp h2) | exact absurd h3 h9 | exact absurd h4 h19 | exact absurd h5 hb | (refine rn_return rfl rfl ?_; exact ⟨rfl, rfl⟩)
theorem r_more15N {d e : Nat} (M : xM) (a b op ra rb : Int32) (hop : op.toInt = 15) (hn : ¬ (isS1 a ∧ ¬ a = 9 ∧ ¬ a = 19 ∧ ¬ b < 0)) : Rn (d + 1) 92 (0, xen 92 [vR 20 0, vI (nI e), vI op, vI a, vI b, vI ra, vI rb], [], M) (fun r M' => r = none ∧ M' = M) := by
  show Rn _ 92 (0, [some (vR 20 0), some (vI (nI e)), some (vI op), some (vI a), some (vI b), some (vI ra), some (vI rb), none], [], _) _
  refine rn_iload_n (pc' := 1) rfl rfl rfl ?_
  refine rn_swIn (k := 0) (t := 52) rfl hop (by decide) rfl rfl ?_
  have h01 : ∀ (c : Prop) [Decidable c], ¬ (if c then (1 : Int32) else 0) = 0 → c := fun c _ h => by
    by_cases hc : c
    · exact hc
    · exact absurd (ite01.mpr hc) h
  refine rn_iload_n (pc' := 53) rfl rfl rfl ?_
  refine rn_i2l (pc' := 54) rfl rfl ?_
  refine rn_lconst (pc' := 55) (v := 1) rfl rfl rfl ?_
  refine rn_ldc2_w (pc' := 58) (v := 20) rfl rfl rfl ?_
  refine rn_callS (pc' := 61) (as := [_, _, _]) rfl rfl rfl ⟨rfl, rfl, rfl⟩ (Nat.le_of_ble_eq_true rfl) (Nat.le_of_ble_eq_true rfl) rfl (r_in M _ 1 20) (fun r1 M1 hz => ?_)
  obtain ⟨rfl, hm_⟩ := hz
  refine rn_mem hm_ ?_
  clear hm_
  refine rn_if_eq (t := 390) (pc' := 64) rfl rfl rfl (fun h2 => ?_) (fun h2 => ?_)
  · refine rn_return rfl rfl ?_
    exact ⟨rfl, rfl⟩
  · refine rn_iload_n (pc' := 65) rfl rfl rfl ?_
    refine rn_bipush (pc' := 67) (v := 9) rfl rfl (by decide) ?_
    refine rn_ic_eq (t := 390) (pc' := 70) rfl rfl rfl (fun h3 => ?_) (fun h3 => ?_)
    · refine rn_return rfl rfl ?_
      exact ⟨rfl, rfl⟩
    · refine rn_iload_n (pc' := 71) rfl rfl rfl ?_
      refine rn_bipush (pc' := 73) (v := 19) rfl rfl (by decide) ?_
      refine rn_ic_eq (t := 390) (pc' := 76) rfl rfl rfl (fun h4 => ?_) (fun h4 => ?_)
      · refine rn_return rfl rfl ?_
        exact ⟨rfl, rfl⟩
      · refine rn_iload (pc' := 78) rfl rfl rfl ?_
        refine rn_if_lt (t := 390) (pc' := 81) rfl rfl rfl (fun h5 => ?_) (fun h5 => ?_)
        · refine rn_return rfl rfl ?_
          exact ⟨rfl, rfl⟩
        · exact absurd ⟨h01 _ h2, h3, h4, h5⟩ hn
def f_mask (M : xM) (e a : Nat) : xM := mI (mI M 34 0 e (M.1 31 0 (8 * e + a) &&& 2097150 &&& (-524801))) 31 0 (8 * e + a) (rblk M e)
theorem r_more16 {d e ja : Nat} (M : xM) (a b op rb : Int32) (he : e < 24) (ha : ja < 8) (hop : op.toInt = 16) : Rn (d + 1) 92 (0, xen 92 [vR 20 0, vI (nI e), vI op, vI a, vI b, vI (nI (8 * e + ja)), vI rb], [], M) (fun r M' => r = none ∧ M' = f_mask M e ja) := by
  show Rn _ 92 (0, [some (vR 20 0), some (vI (nI e)), some (vI op), some (vI a), some (vI b), some (vI (nI (8 * e + ja))), some (vI rb), none], [], _) _
  refine rn_iload_n (pc' := 1) rfl rfl rfl ?_
  refine rn_swIn (k := 1) (t := 97) rfl hop (by decide) rfl rfl ?_
  refine rn_aload_n (pc' := 98) rfl rfl rfl ?_
  refine rn_getF (N := 1) (t' := 34) (pc' := 101) rfl rfl rfl rfl rfl (by first | assumption | decide | omega) ?_
  refine rn_iload_n (pc' := 102) rfl rfl rfl ?_
  refine rn_iald (N := 1) (K := 24) (pc' := 103) rfl rfl ⟨rfl, rfl⟩ rfl (by first | assumption | decide | omega) rfl (by decide) rfl (by first | assumption | decide | omega) ?_
  refine rn_istore (pc' := 105) rfl rfl rfl (Nat.le_of_ble_eq_true rfl) rfl ?_
  refine rn_aload_n (pc' := 106) rfl rfl rfl ?_
  refine rn_getF (N := 1) (t' := 34) (pc' := 109) rfl rfl rfl rfl rfl (by first | assumption | decide | omega) ?_
  refine rn_iload_n (pc' := 110) rfl rfl rfl ?_
  refine rn_aload_n (pc' := 111) rfl rfl rfl ?_
  refine rn_getF (N := 1) (t' := 31) (pc' := 114) rfl rfl rfl rfl rfl (by first | assumption | decide | omega) ?_
  refine rn_iload (pc' := 116) rfl rfl rfl ?_
  refine rn_iald (N := 1) (K := 192) (pc' := 117) rfl rfl ⟨rfl, rfl⟩ rfl (by first | assumption | decide | omega) rfl (by decide) rfl (by first | assumption | decide | omega) ?_
  refine rn_ldc (pc' := 119) (v := 2097150) rfl rfl rfl ?_
  refine rn_iand (pc' := 120) rfl rfl ?_
  refine rn_ldc (pc' := 122) (v := (-524801)) rfl rfl rfl ?_
  refine rn_iand (pc' := 123) rfl rfl ?_
  refine rn_iast (N := 1) (K := 24) (pc' := 124) rfl rfl ⟨rfl, rfl⟩ rfl (by first | assumption | decide | omega) rfl (by decide) rfl (by first | assumption | decide | omega) ?_
  refine rn_aload_n (pc' := 125) rfl rfl rfl ?_
  refine rn_getF (N := 1) (t' := 31) (pc' := 128) rfl rfl rfl rfl rfl (by first | assumption | decide | omega) ?_
  refine rn_iload (pc' := 130) rfl rfl rfl ?_
  refine rn_iload (pc' := 132) rfl rfl rfl ?_
  refine rn_iast (N := 1) (K := 192) (pc' := 133) rfl rfl ⟨rfl, rfl⟩ rfl (by first | assumption | decide | omega) rfl (by decide) rfl (by first | assumption | decide | omega) ?_
  refine rn_goto (pc' := 390) rfl rfl ?_
  refine rn_return rfl rfl ?_
  exact ⟨rfl, rfl⟩
theorem es8 (e a : Nat) : nI (8 * e + a) - 8 * nI e = nI a := by
  rw [show (8 : Int32) * nI e = nI (8 * e) from pk_mul 8 e, pk_sub (by omega)]
  congr 1
  omega
theorem r_more17 {d e ja : Nat} (M : xM) (a b op rb : Int32) (he : e < 24) (ha : ja < 8) (hop : op.toInt = 17) : Rn (d + 1) 92 (0, xen 92 [vR 20 0, vI (nI e), vI op, vI a, vI b, vI (nI (8 * e + ja)), vI rb], [], M) (fun r M' => r = none ∧ M' = f_sleep M e ja 2) := by
  show Rn _ 92 (0, [some (vR 20 0), some (vI (nI e)), some (vI op), some (vI a), some (vI b), some (vI (nI (8 * e + ja))), some (vI rb), none], [], _) _
  refine rn_iload_n (pc' := 1) rfl rfl rfl ?_
  refine rn_swIn (k := 2) (t := 136) rfl hop (by decide) rfl rfl ?_
  refine rn_aload_n (pc' := 137) rfl rfl rfl ?_
  refine rn_getF (N := 1) (t' := 28) (pc' := 140) rfl rfl rfl rfl rfl (by first | assumption | decide | omega) ?_
  refine rn_iload_n (pc' := 141) rfl rfl rfl ?_
  refine rn_iconst (pc' := 142) (v := 2) rfl rfl (by decide) ?_
  refine rn_iast (N := 1) (K := 24) (pc' := 143) rfl rfl ⟨rfl, rfl⟩ rfl (by first | assumption | decide | omega) rfl (by decide) rfl (by first | assumption | decide | omega) ?_
  refine rn_aload_n (pc' := 144) rfl rfl rfl ?_
  refine rn_getF (N := 1) (t' := 43) (pc' := 147) rfl rfl rfl rfl rfl (by first | assumption | decide | omega) ?_
  refine rn_iload_n (pc' := 148) rfl rfl rfl ?_
  refine rn_iload (pc' := 150) rfl rfl rfl ?_
  refine rn_bipush (pc' := 152) (v := 8) rfl rfl (by decide) ?_
  refine rn_iload_n (pc' := 153) rfl rfl rfl ?_
  refine rn_imul (pc' := 154) rfl rfl ?_
  refine rn_isub (pc' := 155) rfl rfl ?_
  refine rn_topI (es8 e ja) ?_
  refine rn_iast (N := 1) (K := 24) (pc' := 156) rfl rfl ⟨rfl, rfl⟩ rfl (by first | assumption | decide | omega) rfl (by decide) rfl (by first | assumption | decide | omega) ?_
  refine rn_aload_n (pc' := 157) rfl rfl rfl ?_
  refine rn_getF (N := 1) (t' := 44) (pc' := 160) rfl rfl rfl rfl rfl (by first | assumption | decide | omega) ?_
  refine rn_iload_n (pc' := 161) rfl rfl rfl ?_
  refine rn_aload_n (pc' := 162) rfl rfl rfl ?_
  refine rn_getF (N := 1) (t' := 30) (pc' := 165) rfl rfl rfl rfl rfl (by first | assumption | decide | omega) ?_
  refine rn_iload_n (pc' := 166) rfl rfl rfl ?_
  refine rn_iald (N := 1) (K := 24) (pc' := 167) rfl rfl ⟨rfl, rfl⟩ rfl (by first | assumption | decide | omega) rfl (by decide) rfl (by first | assumption | decide | omega) ?_
  refine rn_iast (N := 1) (K := 24) (pc' := 168) rfl rfl ⟨rfl, rfl⟩ rfl (by first | assumption | decide | omega) rfl (by decide) rfl (by first | assumption | decide | omega) ?_
  refine rn_aload_n (pc' := 169) rfl rfl rfl ?_
  refine rn_getF (N := 1) (t' := 30) (pc' := 172) rfl rfl rfl rfl rfl (by first | assumption | decide | omega) ?_
  refine rn_iload_n (pc' := 173) rfl rfl rfl ?_
  refine rn_dup2 (pc' := 174) rfl rfl ?_
  refine rn_iald (N := 1) (K := 24) (pc' := 175) rfl rfl ⟨rfl, rfl⟩ rfl (by first | assumption | decide | omega) rfl (by decide) rfl (by first | assumption | decide | omega) ?_
  refine rn_iconst (pc' := 176) (v := 1) rfl rfl (by decide) ?_
  refine rn_isub (pc' := 177) rfl rfl ?_
  refine rn_iast (N := 1) (K := 24) (pc' := 178) rfl rfl ⟨rfl, rfl⟩ rfl (by first | assumption | decide | omega) rfl (by decide) rfl (by first | assumption | decide | omega) ?_
  refine rn_goto (pc' := 390) rfl rfl ?_
  refine rn_return rfl rfl ?_
  exact ⟨rfl, rfl⟩
def f_retn (M : xM) (e h : Nat) : xM :=
  let A := mI M 35 0 e (M.1 35 0 e - 1)
  let B := mI A 30 0 e (A.1 36 0 (4 * e + h))
  mI B 34 0 e (B.1 37 0 (4 * e + h))
theorem r_more18Y {d e h : Nat} (M : xM) (a b op ra rb : Int32) (he : e < 24) (hh : rhnd M e = nI (h + 1)) (hh4 : h < 4) (hop : op.toInt = 18) : Rn (d + 1) 92 (0, xen 92 [vR 20 0, vI (nI e), vI op, vI a, vI b, vI ra, vI rb], [], M) (fun r M' => r = none ∧ M' = f_retn M e h) := by
  show Rn _ 92 (0, [some (vR 20 0), some (vI (nI e)), some (vI op), some (vI a), some (vI b), some (vI ra), some (vI rb), none], [], _) _
  refine rn_iload_n (pc' := 1) rfl rfl rfl ?_
  refine rn_swIn (k := 3) (t := 181) rfl hop (by decide) rfl rfl ?_
  have e1 : (mI M 35 0 e (M.1 35 0 e - 1)).1 35 0 e = nI h := by
    show (if 35 = 35 ∧ 0 = 0 ∧ e = e then M.1 35 0 e - 1 else _) = _
    rw [if_pos ⟨rfl, rfl, rfl⟩, show M.1 35 0 e = nI (h + 1) from hh, nI_pred]
  have e2 : ∀ v, (mI (mI M 35 0 e (M.1 35 0 e - 1)) 30 0 e v).1 35 0 e = nI h := fun v => e1
  refine rn_aload_n (pc' := 182) rfl rfl rfl ?_
  refine rn_getF (N := 1) (t' := 35) (pc' := 185) rfl rfl rfl rfl rfl (by first | assumption | decide | omega) ?_
  refine rn_iload_n (pc' := 186) rfl rfl rfl ?_
  refine rn_iald (N := 1) (K := 24) (pc' := 187) rfl rfl ⟨rfl, rfl⟩ rfl (by first | assumption | decide | omega) rfl (by decide) rfl (by first | assumption | decide | omega) ?_
  refine rn_if_ne (t := 199) (pc' := 190) rfl rfl rfl (fun h1 => ?_) (fun h1 => ?_)
  · refine rn_aload_n (pc' := 200) rfl rfl rfl ?_
    refine rn_getF (N := 1) (t' := 35) (pc' := 203) rfl rfl rfl rfl rfl (by first | assumption | decide | omega) ?_
    refine rn_iload_n (pc' := 204) rfl rfl rfl ?_
    refine rn_dup2 (pc' := 205) rfl rfl ?_
    refine rn_iald (N := 1) (K := 24) (pc' := 206) rfl rfl ⟨rfl, rfl⟩ rfl (by first | assumption | decide | omega) rfl (by decide) rfl (by first | assumption | decide | omega) ?_
    refine rn_iconst (pc' := 207) (v := 1) rfl rfl (by decide) ?_
    refine rn_isub (pc' := 208) rfl rfl ?_
    refine rn_iast (N := 1) (K := 24) (pc' := 209) rfl rfl ⟨rfl, rfl⟩ rfl (by first | assumption | decide | omega) rfl (by decide) rfl (by first | assumption | decide | omega) ?_
    refine rn_aload_n (pc' := 210) rfl rfl rfl ?_
    refine rn_getF (N := 1) (t' := 30) (pc' := 213) rfl rfl rfl rfl rfl (by first | assumption | decide | omega) ?_
    refine rn_iload_n (pc' := 214) rfl rfl rfl ?_
    refine rn_aload_n (pc' := 215) rfl rfl rfl ?_
    refine rn_getF (N := 1) (t' := 36) (pc' := 218) rfl rfl rfl rfl rfl (by first | assumption | decide | omega) ?_
    refine rn_iconst (pc' := 219) (v := 4) rfl rfl (by decide) ?_
    refine rn_iload_n (pc' := 220) rfl rfl rfl ?_
    refine rn_imul (pc' := 221) rfl rfl ?_
    refine rn_aload_n (pc' := 222) rfl rfl rfl ?_
    refine rn_getF (N := 1) (t' := 35) (pc' := 225) rfl rfl rfl rfl rfl (by first | assumption | decide | omega) ?_
    refine rn_iload_n (pc' := 226) rfl rfl rfl ?_
    refine rn_iald (N := 1) (K := 24) (pc' := 227) rfl rfl ⟨rfl, rfl⟩ rfl (by first | assumption | decide | omega) rfl (by decide) rfl (by first | assumption | decide | omega) ?_
    refine rn_topI e1 ?_
    refine rn_iadd (pc' := 228) rfl rfl ?_
    refine rn_iald (k := 4 * e + h) (N := 1) (K := 96) (pc' := 229) rfl rfl ⟨rfl, rfl⟩ rfl (by first | assumption | decide | omega) rfl (by decide) (ix4 e h) (by first | assumption | decide | omega) ?_
    refine rn_iast (N := 1) (K := 24) (pc' := 230) rfl rfl ⟨rfl, rfl⟩ rfl (by first | assumption | decide | omega) rfl (by decide) rfl (by first | assumption | decide | omega) ?_
    refine rn_aload_n (pc' := 231) rfl rfl rfl ?_
    refine rn_getF (N := 1) (t' := 34) (pc' := 234) rfl rfl rfl rfl rfl (by first | assumption | decide | omega) ?_
    refine rn_iload_n (pc' := 235) rfl rfl rfl ?_
    refine rn_aload_n (pc' := 236) rfl rfl rfl ?_
    refine rn_getF (N := 1) (t' := 37) (pc' := 239) rfl rfl rfl rfl rfl (by first | assumption | decide | omega) ?_
    refine rn_iconst (pc' := 240) (v := 4) rfl rfl (by decide) ?_
    refine rn_iload_n (pc' := 241) rfl rfl rfl ?_
    refine rn_imul (pc' := 242) rfl rfl ?_
    refine rn_aload_n (pc' := 243) rfl rfl rfl ?_
    refine rn_getF (N := 1) (t' := 35) (pc' := 246) rfl rfl rfl rfl rfl (by first | assumption | decide | omega) ?_
    refine rn_iload_n (pc' := 247) rfl rfl rfl ?_
    refine rn_iald (N := 1) (K := 24) (pc' := 248) rfl rfl ⟨rfl, rfl⟩ rfl (by first | assumption | decide | omega) rfl (by decide) rfl (by first | assumption | decide | omega) ?_
    refine rn_topI (e2 _) ?_
    refine rn_iadd (pc' := 249) rfl rfl ?_
    refine rn_iald (k := 4 * e + h) (N := 1) (K := 96) (pc' := 250) rfl rfl ⟨rfl, rfl⟩ rfl (by first | assumption | decide | omega) rfl (by decide) (ix4 e h) (by first | assumption | decide | omega) ?_
    refine rn_iast (N := 1) (K := 24) (pc' := 251) rfl rfl ⟨rfl, rfl⟩ rfl (by first | assumption | decide | omega) rfl (by decide) rfl (by first | assumption | decide | omega) ?_
    refine rn_goto (pc' := 390) rfl rfl ?_
    refine rn_return rfl rfl ?_
    exact ⟨rfl, rfl⟩
  · exact absurd h1 (by rw [show M.1 35 0 e = nI (h + 1) from hh]; exact nI_ne0 (by omega) (by omega))
theorem r_more18N {d e n : Nat} (M : xM) (a b op ra rb : Int32) (he : e < 24) (hh : rhnd M e = 0) (hop : op.toInt = 18) (hG : gOk M) (hn : rok M n) (hn4 : n < 4000) (hf : ¬ rpid M e = 1 → ∃ n', rok (f_end M e 0) n' ∧ n' ≤ 4000) : Rn (d + 3) 92 (0, xen 92 [vR 20 0, vI (nI e), vI op, vI a, vI b, vI ra, vI rb], [], M) (fun r M' => r = none ∧ M' = f_end M e 0) := by
  show Rn _ 92 (0, [some (vR 20 0), some (vI (nI e)), some (vI op), some (vI a), some (vI b), some (vI ra), some (vI rb), none], [], _) _
  refine rn_iload_n (pc' := 1) rfl rfl rfl ?_
  refine rn_swIn (k := 3) (t := 181) rfl hop (by decide) rfl rfl ?_
  refine rn_aload_n (pc' := 182) rfl rfl rfl ?_
  refine rn_getF (N := 1) (t' := 35) (pc' := 185) rfl rfl rfl rfl rfl (by first | assumption | decide | omega) ?_
  refine rn_iload_n (pc' := 186) rfl rfl rfl ?_
  refine rn_iald (N := 1) (K := 24) (pc' := 187) rfl rfl ⟨rfl, rfl⟩ rfl (by first | assumption | decide | omega) rfl (by decide) rfl (by first | assumption | decide | omega) ?_
  refine rn_if_ne (t := 199) (pc' := 190) rfl rfl rfl (fun h1 => ?_) (fun h1 => ?_)
  · exact absurd hh h1
  · refine rn_aload_n (pc' := 191) rfl rfl rfl ?_
    refine rn_iload_n (pc' := 192) rfl rfl rfl ?_
    refine rn_iconst (pc' := 193) (v := 0) rfl rfl (by decide) ?_
    refine rn_callV (pc' := 196) (as := [_, _]) rfl rfl rfl ⟨Nat.le_of_ble_eq_true rfl, rfl, rfl⟩ rfl (by first | assumption | decide | omega) (Nat.le_of_ble_eq_true rfl) (Nat.le_of_ble_eq_true rfl) rfl (r_end M 0 he hG hn hn4 hf) (fun r2 M2 hz => ?_)
    obtain ⟨rfl, hm_⟩ := hz
    refine rn_mem hm_ ?_
    clear hm_
    refine rn_goto (pc' := 390) rfl rfl ?_
    refine rn_return rfl rfl ?_
    exact ⟨rfl, rfl⟩
abbrev ralm (M : xM) (e : Nat) : Int64 := M.2.1 38 0 e
def until_ (M : xM) (e : Nat) : Int32 := if 0 < ralm M e then (ralm M e - (M.1 20 0 26).toInt64).toInt32 else 0
def f_alarm (M : xM) (e a : Nat) : xM := mI (mJ M 38 0 e (if 0 < M.1 31 0 (8 * e + a) then (M.1 20 0 26).toInt64 + (M.1 31 0 (8 * e + a)).toInt64 else 0)) 31 0 (8 * e + a) (until_ M e)
theorem r_more19 {d e ja : Nat} (M : xM) (a b op rb : Int32) (he : e < 24) (ha : ja < 8) (hop : op.toInt = 19) : Rn (d + 1) 92 (0, xen 92 [vR 20 0, vI (nI e), vI op, vI a, vI b, vI (nI (8 * e + ja)), vI rb], [], M) (fun r M' => r = none ∧ M' = f_alarm M e ja) := by
  show Rn _ 92 (0, [some (vR 20 0), some (vI (nI e)), some (vI op), some (vI a), some (vI b), some (vI (nI (8 * e + ja))), some (vI rb), none], [], _) _
  refine rn_iload_n (pc' := 1) rfl rfl rfl ?_
  refine rn_swIn (k := 4) (t := 254) rfl hop (by decide) rfl rfl ?_
  have k2 : ∀ x y, x = until_ M e → y = (if 0 < M.1 31 0 (8 * e + ja) then (M.1 20 0 26).toInt64 + (M.1 31 0 (8 * e + ja)).toInt64 else 0) → Rn (d + 1) 92 (317, [some (vR 20 0), some (vI (nI e)), some (vI op), some (vI a), some (vI b), some (vI (nI (8 * e + ja))), some (vI rb), some (vI x)], [vL y, vI (nI e), vR 38 0], M) (fun r M' => r = none ∧ M' = f_alarm M e ja) := by
    intro x y hx hy
    subst hx
    subst hy
    refine rn_last (N := 1) (K := 24) (pc' := 318) rfl rfl ⟨rfl, rfl⟩ rfl (by first | assumption | decide | omega) rfl (by decide) rfl (by first | assumption | decide | omega) ?_
    refine rn_aload_n (pc' := 319) rfl rfl rfl ?_
    refine rn_getF (N := 1) (t' := 31) (pc' := 322) rfl rfl rfl rfl rfl (by first | assumption | decide | omega) ?_
    refine rn_iload (pc' := 324) rfl rfl rfl ?_
    refine rn_iload (pc' := 326) rfl rfl rfl ?_
    refine rn_iast (N := 1) (K := 192) (pc' := 327) rfl rfl ⟨rfl, rfl⟩ rfl (by first | assumption | decide | omega) rfl (by decide) rfl (by first | assumption | decide | omega) ?_
    refine rn_goto (pc' := 390) rfl rfl ?_
    refine rn_return rfl rfl ?_
    exact ⟨rfl, rfl⟩
  have k1 : ∀ x, x = until_ M e → Rn (d + 1) 92 (282, [some (vR 20 0), some (vI (nI e)), some (vI op), some (vI a), some (vI b), some (vI (nI (8 * e + ja))), some (vI rb), none], [vI x], M) (fun r M' => r = none ∧ M' = f_alarm M e ja) := by
    intro x hx
    refine rn_istore (pc' := 284) rfl rfl rfl (Nat.le_of_ble_eq_true rfl) rfl ?_
    refine rn_aload_n (pc' := 285) rfl rfl rfl ?_
    refine rn_getF (N := 1) (t' := 38) (pc' := 288) rfl rfl rfl rfl rfl (by first | assumption | decide | omega) ?_
    refine rn_iload_n (pc' := 289) rfl rfl rfl ?_
    refine rn_aload_n (pc' := 290) rfl rfl rfl ?_
    refine rn_getF (N := 1) (t' := 31) (pc' := 293) rfl rfl rfl rfl rfl (by first | assumption | decide | omega) ?_
    refine rn_iload (pc' := 295) rfl rfl rfl ?_
    refine rn_iald (N := 1) (K := 192) (pc' := 296) rfl rfl ⟨rfl, rfl⟩ rfl (by first | assumption | decide | omega) rfl (by decide) rfl (by first | assumption | decide | omega) ?_
    refine rn_if_le (t := 316) (pc' := 299) rfl rfl rfl (fun h1 => ?_) (fun h1 => ?_)
    · refine rn_lconst (pc' := 317) (v := 0) rfl rfl rfl ?_
      refine k2 _ _ hx ?_
      first | rw [if_pos h1] | rw [if_neg h1]
    · refine rn_aload_n (pc' := 300) rfl rfl rfl ?_
      refine rn_getI (N := 1) (pc' := 303) rfl rfl rfl rfl (by decide) rfl (by first | assumption | decide | omega) ?_
      refine rn_i2l (pc' := 304) rfl rfl ?_
      refine rn_aload_n (pc' := 305) rfl rfl rfl ?_
      refine rn_getF (N := 1) (t' := 31) (pc' := 308) rfl rfl rfl rfl rfl (by first | assumption | decide | omega) ?_
      refine rn_iload (pc' := 310) rfl rfl rfl ?_
      refine rn_iald (N := 1) (K := 192) (pc' := 311) rfl rfl ⟨rfl, rfl⟩ rfl (by first | assumption | decide | omega) rfl (by decide) rfl (by first | assumption | decide | omega) ?_
      refine rn_i2l (pc' := 312) rfl rfl ?_
      refine rn_ladd (pc' := 313) rfl rfl ?_
      refine rn_goto (pc' := 317) rfl rfl ?_
      refine k2 _ _ hx ?_
      first | rw [if_pos h1] | rw [if_neg h1]
  refine rn_aload_n (pc' := 255) rfl rfl rfl ?_
  refine rn_getF (N := 1) (t' := 38) (pc' := 258) rfl rfl rfl rfl rfl (by first | assumption | decide | omega) ?_
  refine rn_iload_n (pc' := 259) rfl rfl rfl ?_
  refine rn_lald (N := 1) (K := 24) (pc' := 260) rfl rfl ⟨rfl, rfl⟩ rfl (by first | assumption | decide | omega) rfl (by decide) rfl (by first | assumption | decide | omega) ?_
  refine rn_lconst (pc' := 261) (v := 0) rfl rfl rfl ?_
  refine rn_lcmp (pc' := 262) rfl rfl ?_
  refine rn_if_le (t := 281) (pc' := 265) rfl rfl rfl (fun h1 => ?_) (fun h1 => ?_)
  · refine rn_iconst (pc' := 282) (v := 0) rfl rfl (by decide) ?_
    refine k1 _ ?_
    unfold until_
    simp only [lg_gt] at h1
    first | rw [if_pos h1] | rw [if_neg h1]
  · refine rn_aload_n (pc' := 266) rfl rfl rfl ?_
    refine rn_getF (N := 1) (t' := 38) (pc' := 269) rfl rfl rfl rfl rfl (by first | assumption | decide | omega) ?_
    refine rn_iload_n (pc' := 270) rfl rfl rfl ?_
    refine rn_lald (N := 1) (K := 24) (pc' := 271) rfl rfl ⟨rfl, rfl⟩ rfl (by first | assumption | decide | omega) rfl (by decide) rfl (by first | assumption | decide | omega) ?_
    refine rn_aload_n (pc' := 272) rfl rfl rfl ?_
    refine rn_getI (N := 1) (pc' := 275) rfl rfl rfl rfl (by decide) rfl (by first | assumption | decide | omega) ?_
    refine rn_i2l (pc' := 276) rfl rfl ?_
    refine rn_lsub (pc' := 277) rfl rfl ?_
    refine rn_l2i (pc' := 278) rfl rfl ?_
    refine rn_goto (pc' := 282) rfl rfl ?_
    refine k1 _ ?_
    unfold until_
    simp only [lg_gt] at h1
    first | rw [if_pos h1] | rw [if_neg h1]
theorem r_more20 {d e ja : Nat} (M : xM) (a b op rb : Int32) (he : e < 24) (ha : ja < 8) (hop : op.toInt = 20) : Rn (d + 1) 92 (0, xen 92 [vR 20 0, vI (nI e), vI op, vI a, vI b, vI (nI (8 * e + ja)), vI rb], [], M) (fun r M' => r = none ∧ M' = mI M 31 0 (8 * e + ja) (rpid M e)) := by
  show Rn _ 92 (0, [some (vR 20 0), some (vI (nI e)), some (vI op), some (vI a), some (vI b), some (vI (nI (8 * e + ja))), some (vI rb), none], [], _) _
  refine rn_iload_n (pc' := 1) rfl rfl rfl ?_
  refine rn_swIn (k := 5) (t := 330) rfl hop (by decide) rfl rfl ?_
  refine rn_aload_n (pc' := 331) rfl rfl rfl ?_
  refine rn_getF (N := 1) (t' := 31) (pc' := 334) rfl rfl rfl rfl rfl (by first | assumption | decide | omega) ?_
  refine rn_iload (pc' := 336) rfl rfl rfl ?_
  refine rn_aload_n (pc' := 337) rfl rfl rfl ?_
  refine rn_getF (N := 1) (t' := 25) (pc' := 340) rfl rfl rfl rfl rfl (by first | assumption | decide | omega) ?_
  refine rn_iload_n (pc' := 341) rfl rfl rfl ?_
  refine rn_iald (N := 1) (K := 24) (pc' := 342) rfl rfl ⟨rfl, rfl⟩ rfl (by first | assumption | decide | omega) rfl (by decide) rfl (by first | assumption | decide | omega) ?_
  refine rn_iast (N := 1) (K := 192) (pc' := 343) rfl rfl ⟨rfl, rfl⟩ rfl (by first | assumption | decide | omega) rfl (by decide) rfl (by first | assumption | decide | omega) ?_
  refine rn_goto (pc' := 390) rfl rfl ?_
  refine rn_return rfl rfl ?_
  exact ⟨rfl, rfl⟩
theorem r_more21 {d e ja : Nat} (M : xM) (a b op rb : Int32) (he : e < 24) (ha : ja < 8) (hop : op.toInt = 21) : Rn (d + 1) 92 (0, xen 92 [vR 20 0, vI (nI e), vI op, vI a, vI b, vI (nI (8 * e + ja)), vI rb], [], M) (fun r M' => r = none ∧ M' = mI M 31 0 (8 * e + ja) (rpar M e)) := by
  show Rn _ 92 (0, [some (vR 20 0), some (vI (nI e)), some (vI op), some (vI a), some (vI b), some (vI (nI (8 * e + ja))), some (vI rb), none], [], _) _
  refine rn_iload_n (pc' := 1) rfl rfl rfl ?_
  refine rn_swIn (k := 6) (t := 346) rfl hop (by decide) rfl rfl ?_
  refine rn_aload_n (pc' := 347) rfl rfl rfl ?_
  refine rn_getF (N := 1) (t' := 31) (pc' := 350) rfl rfl rfl rfl rfl (by first | assumption | decide | omega) ?_
  refine rn_iload (pc' := 352) rfl rfl rfl ?_
  refine rn_aload_n (pc' := 353) rfl rfl rfl ?_
  refine rn_getF (N := 1) (t' := 26) (pc' := 356) rfl rfl rfl rfl rfl (by first | assumption | decide | omega) ?_
  refine rn_iload_n (pc' := 357) rfl rfl rfl ?_
  refine rn_iald (N := 1) (K := 24) (pc' := 358) rfl rfl ⟨rfl, rfl⟩ rfl (by first | assumption | decide | omega) rfl (by decide) rfl (by first | assumption | decide | omega) ?_
  refine rn_iast (N := 1) (K := 192) (pc' := 359) rfl rfl ⟨rfl, rfl⟩ rfl (by first | assumption | decide | omega) rfl (by decide) rfl (by first | assumption | decide | omega) ?_
  refine rn_goto (pc' := 390) rfl rfl ?_
  refine rn_return rfl rfl ?_
  exact ⟨rfl, rfl⟩
theorem r_more22 {d e ja : Nat} (M : xM) (a b op rb : Int32) (he : e < 24) (ha : ja < 8) (hop : op.toInt = 22) : Rn (d + 1) 92 (0, xen 92 [vR 20 0, vI (nI e), vI op, vI a, vI b, vI (nI (8 * e + ja)), vI rb], [], M) (fun r M' => r = none ∧ M' = mI M 31 0 (8 * e + ja) (rgrp M e)) := by
  show Rn _ 92 (0, [some (vR 20 0), some (vI (nI e)), some (vI op), some (vI a), some (vI b), some (vI (nI (8 * e + ja))), some (vI rb), none], [], _) _
  refine rn_iload_n (pc' := 1) rfl rfl rfl ?_
  refine rn_swIn (k := 7) (t := 362) rfl hop (by decide) rfl rfl ?_
  refine rn_aload_n (pc' := 363) rfl rfl rfl ?_
  refine rn_getF (N := 1) (t' := 31) (pc' := 366) rfl rfl rfl rfl rfl (by first | assumption | decide | omega) ?_
  refine rn_iload (pc' := 368) rfl rfl rfl ?_
  refine rn_aload_n (pc' := 369) rfl rfl rfl ?_
  refine rn_getF (N := 1) (t' := 27) (pc' := 372) rfl rfl rfl rfl rfl (by first | assumption | decide | omega) ?_
  refine rn_iload_n (pc' := 373) rfl rfl rfl ?_
  refine rn_iald (N := 1) (K := 24) (pc' := 374) rfl rfl ⟨rfl, rfl⟩ rfl (by first | assumption | decide | omega) rfl (by decide) rfl (by first | assumption | decide | omega) ?_
  refine rn_iast (N := 1) (K := 192) (pc' := 375) rfl rfl ⟨rfl, rfl⟩ rfl (by first | assumption | decide | omega) rfl (by decide) rfl (by first | assumption | decide | omega) ?_
  refine rn_goto (pc' := 390) rfl rfl ?_
  refine rn_return rfl rfl ?_
  exact ⟨rfl, rfl⟩
theorem r_more23 {d e ja jb : Nat} (M : xM) (a b op : Int32) (he : e < 24) (ha : ja < 8) (hb : jb < 8) (hop : op.toInt = 23) : Rn (d + 2) 92 (0, xen 92 [vR 20 0, vI (nI e), vI op, vI a, vI b, vI (nI (8 * e + ja)), vI (nI (8 * e + jb))], [], M) (fun r M' => r = none ∧ M' = f_join M e ja jb) := by
  show Rn _ 92 (0, [some (vR 20 0), some (vI (nI e)), some (vI op), some (vI a), some (vI b), some (vI (nI (8 * e + ja))), some (vI (nI (8 * e + jb))), none], [], _) _
  refine rn_iload_n (pc' := 1) rfl rfl rfl ?_
  refine rn_swIn (k := 8) (t := 378) rfl hop (by decide) rfl rfl ?_
  refine rn_aload_n (pc' := 379) rfl rfl rfl ?_
  refine rn_iload_n (pc' := 380) rfl rfl rfl ?_
  refine rn_iload (pc' := 382) rfl rfl rfl ?_
  refine rn_iload (pc' := 384) rfl rfl rfl ?_
  refine rn_callV (pc' := 387) (as := [_, _, _]) rfl rfl rfl ⟨Nat.le_of_ble_eq_true rfl, rfl, rfl⟩ rfl (by first | assumption | decide | omega) (Nat.le_of_ble_eq_true rfl) (Nat.le_of_ble_eq_true rfl) rfl (r_join M he ha hb) (fun r1 M1 hz => ?_)
  obtain ⟨rfl, hm_⟩ := hz
  refine rn_mem hm_ ?_
  clear hm_
  refine rn_goto (pc' := 390) rfl rfl ?_
  refine rn_return rfl rfl ?_
  exact ⟨rfl, rfl⟩
theorem r_moreN {d e : Nat} (M : xM) (a b op ra rb : Int32) (hop : op.toInt < 15 ∨ 23 < op.toInt) : Rn d 92 (0, xen 92 [vR 20 0, vI (nI e), vI op, vI a, vI b, vI ra, vI rb], [], M) (fun r M' => r = none ∧ M' = M) := by
  show Rn _ 92 (0, [some (vR 20 0), some (vI (nI e)), some (vI op), some (vI a), some (vI b), some (vI ra), some (vI rb), none], [], _) _
  refine rn_iload_n (pc' := 1) rfl rfl rfl ?_
  refine rn_swOut (t := 390) rfl hop rfl ?_
  refine rn_return rfl rfl ?_
  exact ⟨rfl, rfl⟩
