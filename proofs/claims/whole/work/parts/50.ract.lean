theorem ix60 (u s : Nat) : (60 : Int32) * nI u + nI s = nI (60 * u + s) := by
  show nI 60 * nI u + nI s = _
  rw [pk_mul, nI_add]
def aOk (M : xM) (e p i ja jb : Nat) : Prop := e < 24 ∧ p < 16 ∧ i < 60 ∧ ja < 8 ∧ jb < 8 ∧ rprg M e = nI p ∧ rnxt M e = nI i ∧ eig (M.1 23 0 (60 * p + i)) = nI ja ∧ eig (M.1 24 0 (60 * p + i)) = nI jb
abbrev nAct (M : xM) (e : Nat) : xM := mI M 30 0 e (rnxt M e + 1)
theorem r_actPre {d e p i ja jb : Nat} (M : xM) (Z : Option xV → xM → Prop) (ok : aOk M e p i ja jb) (k : Rn (d + 1) 91 (75, [some (vR 20 0), some (vI (nI e)), some (vI (nI (60 * p + i))), some (vI (M.1 22 0 (60 * p + i))), some (vI (M.1 23 0 (60 * p + i))), some (vI (M.1 24 0 (60 * p + i))), some (vI (nI (8 * e + ja))), some (vI (nI (8 * e + jb)))], [vI (M.1 22 0 (60 * p + i))], nAct M e) Z) : Rn (d + 1) 91 (0, xen 91 [vR 20 0, vI (nI e)], [], M) Z := by
  obtain ⟨he, hp, hi, ha, hb, hpr, hnx, hea, heb⟩ := ok
  show Rn _ 91 (0, [some (vR 20 0), some (vI (nI e)), none, none, none, none, none, none], [], _) _
  refine rn_bipush (pc' := 2) (v := 60) rfl rfl (by decide) ?_
  refine rn_aload_n (pc' := 3) rfl rfl rfl ?_
  refine rn_getF (N := 1) (t' := 29) (pc' := 6) rfl rfl rfl rfl rfl (by first | assumption | decide | omega) ?_
  refine rn_iload_n (pc' := 7) rfl rfl rfl ?_
  refine rn_iald (N := 1) (K := 24) (pc' := 8) rfl rfl ⟨rfl, rfl⟩ rfl (by first | assumption | decide | omega) rfl (by decide) rfl (by first | assumption | decide | omega) ?_
  refine rn_topI (y := nI p) hpr ?_
  refine rn_imul (pc' := 9) rfl rfl ?_
  refine rn_aload_n (pc' := 10) rfl rfl rfl ?_
  refine rn_getF (N := 1) (t' := 30) (pc' := 13) rfl rfl rfl rfl rfl (by first | assumption | decide | omega) ?_
  refine rn_iload_n (pc' := 14) rfl rfl rfl ?_
  refine rn_iald (N := 1) (K := 24) (pc' := 15) rfl rfl ⟨rfl, rfl⟩ rfl (by first | assumption | decide | omega) rfl (by decide) rfl (by first | assumption | decide | omega) ?_
  refine rn_topI (y := nI i) hnx ?_
  refine rn_iadd (pc' := 16) rfl rfl ?_
  refine rn_topI (ix60 p i) ?_
  refine rn_istore_n (pc' := 17) rfl rfl rfl (Nat.le_of_ble_eq_true rfl) rfl ?_
  refine rn_aload_n (pc' := 18) rfl rfl rfl ?_
  refine rn_getF (N := 1) (t' := 22) (pc' := 21) rfl rfl rfl rfl rfl (by first | assumption | decide | omega) ?_
  refine rn_iload_n (pc' := 22) rfl rfl rfl ?_
  refine rn_iald (k := 60 * p + i) (N := 1) (K := 960) (pc' := 23) rfl rfl ⟨rfl, rfl⟩ rfl (by first | assumption | decide | omega) rfl (by decide) (rfl) (by first | assumption | decide | omega) ?_
  refine rn_istore_n (pc' := 24) rfl rfl rfl (Nat.le_of_ble_eq_true rfl) rfl ?_
  refine rn_aload_n (pc' := 25) rfl rfl rfl ?_
  refine rn_getF (N := 1) (t' := 23) (pc' := 28) rfl rfl rfl rfl rfl (by first | assumption | decide | omega) ?_
  refine rn_iload_n (pc' := 29) rfl rfl rfl ?_
  refine rn_iald (k := 60 * p + i) (N := 1) (K := 960) (pc' := 30) rfl rfl ⟨rfl, rfl⟩ rfl (by first | assumption | decide | omega) rfl (by decide) (rfl) (by first | assumption | decide | omega) ?_
  refine rn_istore (pc' := 32) rfl rfl rfl (Nat.le_of_ble_eq_true rfl) rfl ?_
  refine rn_aload_n (pc' := 33) rfl rfl rfl ?_
  refine rn_getF (N := 1) (t' := 24) (pc' := 36) rfl rfl rfl rfl rfl (by first | assumption | decide | omega) ?_
  refine rn_iload_n (pc' := 37) rfl rfl rfl ?_
  refine rn_iald (k := 60 * p + i) (N := 1) (K := 960) (pc' := 38) rfl rfl ⟨rfl, rfl⟩ rfl (by first | assumption | decide | omega) rfl (by decide) (rfl) (by first | assumption | decide | omega) ?_
  refine rn_istore (pc' := 40) rfl rfl rfl (Nat.le_of_ble_eq_true rfl) rfl ?_
  refine rn_bipush (pc' := 42) (v := 8) rfl rfl (by decide) ?_
  refine rn_iload_n (pc' := 43) rfl rfl rfl ?_
  refine rn_imul (pc' := 44) rfl rfl ?_
  refine rn_iload (pc' := 46) rfl rfl rfl ?_
  refine rn_callS (pc' := 49) (as := [_]) rfl rfl rfl ⟨rfl, rfl, rfl⟩ (Nat.le_of_ble_eq_true rfl) (Nat.le_of_ble_eq_true rfl) rfl (r_eighth M _) (fun r1 M1 hz => ?_)
  obtain ⟨rfl, hm_⟩ := hz
  refine rn_mem hm_ ?_
  clear hm_
  refine rn_topI hea ?_
  refine rn_iadd (pc' := 50) rfl rfl ?_
  refine rn_topI (ix8 e ja) ?_
  refine rn_istore (pc' := 52) rfl rfl rfl (Nat.le_of_ble_eq_true rfl) rfl ?_
  refine rn_bipush (pc' := 54) (v := 8) rfl rfl (by decide) ?_
  refine rn_iload_n (pc' := 55) rfl rfl rfl ?_
  refine rn_imul (pc' := 56) rfl rfl ?_
  refine rn_iload (pc' := 58) rfl rfl rfl ?_
  refine rn_callS (pc' := 61) (as := [_]) rfl rfl rfl ⟨rfl, rfl, rfl⟩ (Nat.le_of_ble_eq_true rfl) (Nat.le_of_ble_eq_true rfl) rfl (r_eighth M _) (fun r2 M2 hz => ?_)
  obtain ⟨rfl, hm_⟩ := hz
  refine rn_mem hm_ ?_
  clear hm_
  refine rn_topI heb ?_
  refine rn_iadd (pc' := 62) rfl rfl ?_
  refine rn_topI (ix8 e jb) ?_
  refine rn_istore (pc' := 64) rfl rfl rfl (Nat.le_of_ble_eq_true rfl) rfl ?_
  refine rn_aload_n (pc' := 65) rfl rfl rfl ?_
  refine rn_getF (N := 1) (t' := 30) (pc' := 68) rfl rfl rfl rfl rfl (by first | assumption | decide | omega) ?_
  refine rn_iload_n (pc' := 69) rfl rfl rfl ?_
  refine rn_dup2 (pc' := 70) rfl rfl ?_
  refine rn_iald (N := 1) (K := 24) (pc' := 71) rfl rfl ⟨rfl, rfl⟩ rfl (by first | assumption | decide | omega) rfl (by decide) rfl (by first | assumption | decide | omega) ?_
  refine rn_iconst (pc' := 72) (v := 1) rfl rfl (by decide) ?_
  refine rn_iadd (pc' := 73) rfl rfl ?_
  refine rn_iast (N := 1) (K := 24) (pc' := 74) rfl rfl ⟨rfl, rfl⟩ rfl (by first | assumption | decide | omega) rfl (by decide) rfl (by first | assumption | decide | omega) ?_
  refine rn_iload_n (pc' := 75) rfl rfl rfl ?_
  exact k
theorem r_act0 {d e p i ja jb : Nat} (M : xM) (ok : aOk M e p i ja jb) (hop : (M.1 22 0 (60 * p + i)).toInt = 0) : Rn (d + 1) 91 (0, xen 91 [vR 20 0, vI (nI e)], [], M) (fun r M' => r = none ∧ M' = mI (nAct M e) 31 0 (8 * e + ja) (M.1 24 0 (60 * p + i))) := by
  refine r_actPre M _ ok ?_
  obtain ⟨he, hp, hi, ha, hb, hpr, hnx, hea, heb⟩ := ok
  refine rn_swIn (k := 0) (t := 148) rfl hop (by decide) rfl rfl ?_
  refine rn_aload_n (pc' := 149) rfl rfl rfl ?_
  refine rn_getF (N := 1) (t' := 31) (pc' := 152) rfl rfl rfl rfl rfl (by first | assumption | decide | omega) ?_
  refine rn_iload (pc' := 154) rfl rfl rfl ?_
  refine rn_iload (pc' := 156) rfl rfl rfl ?_
  refine rn_iast (N := 1) (K := 192) (pc' := 157) rfl rfl ⟨rfl, rfl⟩ rfl (by first | assumption | decide | omega) rfl (by decide) rfl (by first | assumption | decide | omega) ?_
  refine rn_goto (pc' := 422) rfl rfl ?_
  refine rn_return rfl rfl ?_
  exact ⟨rfl, rfl⟩
theorem r_act1 {d e p i ja jb : Nat} (M : xM) (ok : aOk M e p i ja jb) (hop : (M.1 22 0 (60 * p + i)).toInt = 1) : Rn (d + 1) 91 (0, xen 91 [vR 20 0, vI (nI e)], [], M) (fun r M' => r = none ∧ M' = mI (nAct M e) 31 0 (8 * e + ja) (M.1 31 0 (8 * e + jb))) := by
  refine r_actPre M _ ok ?_
  obtain ⟨he, hp, hi, ha, hb, hpr, hnx, hea, heb⟩ := ok
  refine rn_swIn (k := 1) (t := 160) rfl hop (by decide) rfl rfl ?_
  refine rn_aload_n (pc' := 161) rfl rfl rfl ?_
  refine rn_getF (N := 1) (t' := 31) (pc' := 164) rfl rfl rfl rfl rfl (by first | assumption | decide | omega) ?_
  refine rn_iload (pc' := 166) rfl rfl rfl ?_
  refine rn_aload_n (pc' := 167) rfl rfl rfl ?_
  refine rn_getF (N := 1) (t' := 31) (pc' := 170) rfl rfl rfl rfl rfl (by first | assumption | decide | omega) ?_
  refine rn_iload (pc' := 172) rfl rfl rfl ?_
  refine rn_iald (N := 1) (K := 192) (pc' := 173) rfl rfl ⟨rfl, rfl⟩ rfl (by first | assumption | decide | omega) rfl (by decide) rfl (by first | assumption | decide | omega) ?_
  refine rn_iast (N := 1) (K := 192) (pc' := 174) rfl rfl ⟨rfl, rfl⟩ rfl (by first | assumption | decide | omega) rfl (by decide) rfl (by first | assumption | decide | omega) ?_
  refine rn_goto (pc' := 422) rfl rfl ?_
  refine rn_return rfl rfl ?_
  exact ⟨rfl, rfl⟩
theorem r_act2 {d e p i ja jb : Nat} (M : xM) (ok : aOk M e p i ja jb) (hop : (M.1 22 0 (60 * p + i)).toInt = 2) : Rn (d + 1) 91 (0, xen 91 [vR 20 0, vI (nI e)], [], M) (fun r M' => r = none ∧ M' = mI (nAct M e) 31 0 (8 * e + ja) (M.1 31 0 (8 * e + ja) + M.1 31 0 (8 * e + jb))) := by
  refine r_actPre M _ ok ?_
  obtain ⟨he, hp, hi, ha, hb, hpr, hnx, hea, heb⟩ := ok
  refine rn_swIn (k := 2) (t := 177) rfl hop (by decide) rfl rfl ?_
  refine rn_aload_n (pc' := 178) rfl rfl rfl ?_
  refine rn_getF (N := 1) (t' := 31) (pc' := 181) rfl rfl rfl rfl rfl (by first | assumption | decide | omega) ?_
  refine rn_iload (pc' := 183) rfl rfl rfl ?_
  refine rn_dup2 (pc' := 184) rfl rfl ?_
  refine rn_iald (N := 1) (K := 192) (pc' := 185) rfl rfl ⟨rfl, rfl⟩ rfl (by first | assumption | decide | omega) rfl (by decide) rfl (by first | assumption | decide | omega) ?_
  refine rn_aload_n (pc' := 186) rfl rfl rfl ?_
  refine rn_getF (N := 1) (t' := 31) (pc' := 189) rfl rfl rfl rfl rfl (by first | assumption | decide | omega) ?_
  refine rn_iload (pc' := 191) rfl rfl rfl ?_
  refine rn_iald (N := 1) (K := 192) (pc' := 192) rfl rfl ⟨rfl, rfl⟩ rfl (by first | assumption | decide | omega) rfl (by decide) rfl (by first | assumption | decide | omega) ?_
  refine rn_iadd (pc' := 193) rfl rfl ?_
  refine rn_iast (N := 1) (K := 192) (pc' := 194) rfl rfl ⟨rfl, rfl⟩ rfl (by first | assumption | decide | omega) rfl (by decide) rfl (by first | assumption | decide | omega) ?_
  refine rn_goto (pc' := 422) rfl rfl ?_
  refine rn_return rfl rfl ?_
  exact ⟨rfl, rfl⟩
theorem r_act3 {d e p i ja jb : Nat} (M : xM) (ok : aOk M e p i ja jb) (hop : (M.1 22 0 (60 * p + i)).toInt = 3) : Rn (d + 1) 91 (0, xen 91 [vR 20 0, vI (nI e)], [], M) (fun r M' => r = none ∧ M' = mI (nAct M e) 31 0 (8 * e + ja) (M.1 31 0 (8 * e + ja) - M.1 31 0 (8 * e + jb))) := by
  refine r_actPre M _ ok ?_
  obtain ⟨he, hp, hi, ha, hb, hpr, hnx, hea, heb⟩ := ok
  refine rn_swIn (k := 3) (t := 197) rfl hop (by decide) rfl rfl ?_
  refine rn_aload_n (pc' := 198) rfl rfl rfl ?_
  refine rn_getF (N := 1) (t' := 31) (pc' := 201) rfl rfl rfl rfl rfl (by first | assumption | decide | omega) ?_
  refine rn_iload (pc' := 203) rfl rfl rfl ?_
  refine rn_dup2 (pc' := 204) rfl rfl ?_
  refine rn_iald (N := 1) (K := 192) (pc' := 205) rfl rfl ⟨rfl, rfl⟩ rfl (by first | assumption | decide | omega) rfl (by decide) rfl (by first | assumption | decide | omega) ?_
  refine rn_aload_n (pc' := 206) rfl rfl rfl ?_
  refine rn_getF (N := 1) (t' := 31) (pc' := 209) rfl rfl rfl rfl rfl (by first | assumption | decide | omega) ?_
  refine rn_iload (pc' := 211) rfl rfl rfl ?_
  refine rn_iald (N := 1) (K := 192) (pc' := 212) rfl rfl ⟨rfl, rfl⟩ rfl (by first | assumption | decide | omega) rfl (by decide) rfl (by first | assumption | decide | omega) ?_
  refine rn_isub (pc' := 213) rfl rfl ?_
  refine rn_iast (N := 1) (K := 192) (pc' := 214) rfl rfl ⟨rfl, rfl⟩ rfl (by first | assumption | decide | omega) rfl (by decide) rfl (by first | assumption | decide | omega) ?_
  refine rn_goto (pc' := 422) rfl rfl ?_
  refine rn_return rfl rfl ?_
  exact ⟨rfl, rfl⟩
theorem r_act4 {d e p i ja jb : Nat} (M : xM) (ok : aOk M e p i ja jb) (hop : (M.1 22 0 (60 * p + i)).toInt = 4) : Rn (d + 1) 91 (0, xen 91 [vR 20 0, vI (nI e)], [], M) (fun r M' => r = none ∧ M' = mI (nAct M e) 30 0 e (M.1 23 0 (60 * p + i))) := by
  refine r_actPre M _ ok ?_
  obtain ⟨he, hp, hi, ha, hb, hpr, hnx, hea, heb⟩ := ok
  refine rn_swIn (k := 4) (t := 217) rfl hop (by decide) rfl rfl ?_
  refine rn_aload_n (pc' := 218) rfl rfl rfl ?_
  refine rn_getF (N := 1) (t' := 30) (pc' := 221) rfl rfl rfl rfl rfl (by first | assumption | decide | omega) ?_
  refine rn_iload_n (pc' := 222) rfl rfl rfl ?_
  refine rn_iload (pc' := 224) rfl rfl rfl ?_
  refine rn_iast (N := 1) (K := 24) (pc' := 225) rfl rfl ⟨rfl, rfl⟩ rfl (by first | assumption | decide | omega) rfl (by decide) rfl (by first | assumption | decide | omega) ?_
  refine rn_goto (pc' := 422) rfl rfl ?_
  refine rn_return rfl rfl ?_
  exact ⟨rfl, rfl⟩
theorem r_act5 {d e p i ja jb : Nat} (M : xM) (ok : aOk M e p i ja jb) (hop : (M.1 22 0 (60 * p + i)).toInt = 5) : Rn (d + 1) 91 (0, xen 91 [vR 20 0, vI (nI e)], [], M) (fun r M' => r = none ∧ M' = mI (nAct M e) 30 0 e (if M.1 31 0 (8 * e + ja) = 0 then (M.1 24 0 (60 * p + i)) else (nAct M e).1 30 0 e)) := by
  refine r_actPre M _ ok ?_
  obtain ⟨he, hp, hi, ha, hb, hpr, hnx, hea, heb⟩ := ok
  refine rn_swIn (k := 5) (t := 228) rfl hop (by decide) rfl rfl ?_
  by_cases hc : M.1 31 0 (8 * e + ja) = 0
  · rw [if_pos hc]
    refine rn_aload_n (pc' := 229) rfl rfl rfl ?_
    refine rn_getF (N := 1) (t' := 30) (pc' := 232) rfl rfl rfl rfl rfl (by first | assumption | decide | omega) ?_
    refine rn_iload_n (pc' := 233) rfl rfl rfl ?_
    refine rn_aload_n (pc' := 234) rfl rfl rfl ?_
    refine rn_getF (N := 1) (t' := 31) (pc' := 237) rfl rfl rfl rfl rfl (by first | assumption | decide | omega) ?_
    refine rn_iload (pc' := 239) rfl rfl rfl ?_
    refine rn_iald (N := 1) (K := 192) (pc' := 240) rfl rfl ⟨rfl, rfl⟩ rfl (by first | assumption | decide | omega) rfl (by decide) rfl (by first | assumption | decide | omega) ?_
    refine rn_if_ne (t := 248) (pc' := 243) rfl rfl rfl (fun h1 => ?_) (fun h1 => ?_)
    · exact absurd hc h1
    · refine rn_iload (pc' := 245) rfl rfl rfl ?_
      refine rn_goto (pc' := 254) rfl rfl ?_
      refine rn_iast (N := 1) (K := 24) (pc' := 255) rfl rfl ⟨rfl, rfl⟩ rfl (by first | assumption | decide | omega) rfl (by decide) rfl (by first | assumption | decide | omega) ?_
      refine rn_goto (pc' := 422) rfl rfl ?_
      refine rn_return rfl rfl ?_
      exact ⟨rfl, rfl⟩
  · rw [if_neg hc]
    refine rn_aload_n (pc' := 229) rfl rfl rfl ?_
    refine rn_getF (N := 1) (t' := 30) (pc' := 232) rfl rfl rfl rfl rfl (by first | assumption | decide | omega) ?_
    refine rn_iload_n (pc' := 233) rfl rfl rfl ?_
    refine rn_aload_n (pc' := 234) rfl rfl rfl ?_
    refine rn_getF (N := 1) (t' := 31) (pc' := 237) rfl rfl rfl rfl rfl (by first | assumption | decide | omega) ?_
    refine rn_iload (pc' := 239) rfl rfl rfl ?_
    refine rn_iald (N := 1) (K := 192) (pc' := 240) rfl rfl ⟨rfl, rfl⟩ rfl (by first | assumption | decide | omega) rfl (by decide) rfl (by first | assumption | decide | omega) ?_
    refine rn_if_ne (t := 248) (pc' := 243) rfl rfl rfl (fun h1 => ?_) (fun h1 => ?_)
    · refine rn_aload_n (pc' := 249) rfl rfl rfl ?_
      refine rn_getF (N := 1) (t' := 30) (pc' := 252) rfl rfl rfl rfl rfl (by first | assumption | decide | omega) ?_
      refine rn_iload_n (pc' := 253) rfl rfl rfl ?_
      refine rn_iald (N := 1) (K := 24) (pc' := 254) rfl rfl ⟨rfl, rfl⟩ rfl (by first | assumption | decide | omega) rfl (by decide) rfl (by first | assumption | decide | omega) ?_
      refine rn_iast (N := 1) (K := 24) (pc' := 255) rfl rfl ⟨rfl, rfl⟩ rfl (by first | assumption | decide | omega) rfl (by decide) rfl (by first | assumption | decide | omega) ?_
      refine rn_goto (pc' := 422) rfl rfl ?_
      refine rn_return rfl rfl ?_
      exact ⟨rfl, rfl⟩
    · exact absurd h1 hc
theorem r_act6 {d e p i ja jb : Nat} (M : xM) (ok : aOk M e p i ja jb) (hop : (M.1 22 0 (60 * p + i)).toInt = 6) : Rn (d + 1) 91 (0, xen 91 [vR 20 0, vI (nI e)], [], M) (fun r M' => r = none ∧ M' = mI (nAct M e) 30 0 e (if M.1 31 0 (8 * e + ja) < 0 then (M.1 24 0 (60 * p + i)) else (nAct M e).1 30 0 e)) := by
  refine r_actPre M _ ok ?_
  obtain ⟨he, hp, hi, ha, hb, hpr, hnx, hea, heb⟩ := ok
  refine rn_swIn (k := 6) (t := 258) rfl hop (by decide) rfl rfl ?_
  by_cases hc : M.1 31 0 (8 * e + ja) < 0
  · rw [if_pos hc]
    refine rn_aload_n (pc' := 259) rfl rfl rfl ?_
    refine rn_getF (N := 1) (t' := 30) (pc' := 262) rfl rfl rfl rfl rfl (by first | assumption | decide | omega) ?_
    refine rn_iload_n (pc' := 263) rfl rfl rfl ?_
    refine rn_aload_n (pc' := 264) rfl rfl rfl ?_
    refine rn_getF (N := 1) (t' := 31) (pc' := 267) rfl rfl rfl rfl rfl (by first | assumption | decide | omega) ?_
    refine rn_iload (pc' := 269) rfl rfl rfl ?_
    refine rn_iald (N := 1) (K := 192) (pc' := 270) rfl rfl ⟨rfl, rfl⟩ rfl (by first | assumption | decide | omega) rfl (by decide) rfl (by first | assumption | decide | omega) ?_
    refine rn_if_ge (t := 278) (pc' := 273) rfl rfl rfl (fun h1 => ?_) (fun h1 => ?_)
    · exact absurd hc h1
    · refine rn_iload (pc' := 275) rfl rfl rfl ?_
      refine rn_goto (pc' := 284) rfl rfl ?_
      refine rn_iast (N := 1) (K := 24) (pc' := 285) rfl rfl ⟨rfl, rfl⟩ rfl (by first | assumption | decide | omega) rfl (by decide) rfl (by first | assumption | decide | omega) ?_
      refine rn_goto (pc' := 422) rfl rfl ?_
      refine rn_return rfl rfl ?_
      exact ⟨rfl, rfl⟩
  · rw [if_neg hc]
    refine rn_aload_n (pc' := 259) rfl rfl rfl ?_
    refine rn_getF (N := 1) (t' := 30) (pc' := 262) rfl rfl rfl rfl rfl (by first | assumption | decide | omega) ?_
    refine rn_iload_n (pc' := 263) rfl rfl rfl ?_
    refine rn_aload_n (pc' := 264) rfl rfl rfl ?_
    refine rn_getF (N := 1) (t' := 31) (pc' := 267) rfl rfl rfl rfl rfl (by first | assumption | decide | omega) ?_
    refine rn_iload (pc' := 269) rfl rfl rfl ?_
    refine rn_iald (N := 1) (K := 192) (pc' := 270) rfl rfl ⟨rfl, rfl⟩ rfl (by first | assumption | decide | omega) rfl (by decide) rfl (by first | assumption | decide | omega) ?_
    refine rn_if_ge (t := 278) (pc' := 273) rfl rfl rfl (fun h1 => ?_) (fun h1 => ?_)
    · refine rn_aload_n (pc' := 279) rfl rfl rfl ?_
      refine rn_getF (N := 1) (t' := 30) (pc' := 282) rfl rfl rfl rfl rfl (by first | assumption | decide | omega) ?_
      refine rn_iload_n (pc' := 283) rfl rfl rfl ?_
      refine rn_iald (N := 1) (K := 24) (pc' := 284) rfl rfl ⟨rfl, rfl⟩ rfl (by first | assumption | decide | omega) rfl (by decide) rfl (by first | assumption | decide | omega) ?_
      refine rn_iast (N := 1) (K := 24) (pc' := 285) rfl rfl ⟨rfl, rfl⟩ rfl (by first | assumption | decide | omega) rfl (by decide) rfl (by first | assumption | decide | omega) ?_
      refine rn_goto (pc' := 422) rfl rfl ?_
      refine rn_return rfl rfl ?_
      exact ⟨rfl, rfl⟩
    · exact absurd h1 hc
def f_log (M : xM) (e ja g : Nat) : xM :=
  let A := mI M 47 0 (g % 40) (M.1 25 0 e)
  let B := mI A 48 0 (g % 40) (A.1 31 0 (8 * e + ja))
  mI B 20 0 31 (B.1 20 0 31 + 1)
theorem rem40 {x : Int32} {g : Nat} (h : x = nI g) (hg : g < 2 ^ 31) : x - x / 40 * 40 = nI (g % 40) := by
  subst h
  exact pk_rem hg (d := 40) (by decide) (by decide)
theorem r_act7 {d e p i ja jb g : Nat} (M : xM) (ok : aOk M e p i ja jb) (hop : (M.1 22 0 (60 * p + i)).toInt = 7) (hg : M.1 20 0 31 = nI g) (hg31 : g < 2 ^ 31) : Rn (d + 1) 91 (0, xen 91 [vR 20 0, vI (nI e)], [], M) (fun r M' => r = none ∧ M' = f_log (nAct M e) e ja g) := by
  refine r_actPre M _ ok ?_
  obtain ⟨he, hp, hi, ha, hb, hpr, hnx, hea, heb⟩ := ok
  refine rn_swIn (k := 7) (t := 288) rfl hop (by decide) rfl rfl ?_
  refine rn_aload_n (pc' := 289) rfl rfl rfl ?_
  refine rn_getF (N := 1) (t' := 47) (pc' := 292) rfl rfl rfl rfl rfl (by first | assumption | decide | omega) ?_
  refine rn_aload_n (pc' := 293) rfl rfl rfl ?_
  refine rn_getI (N := 1) (pc' := 296) rfl rfl rfl rfl (by decide) rfl (by first | assumption | decide | omega) ?_
  refine rn_bipush (pc' := 298) (v := 40) rfl rfl (by decide) ?_
  refine rn_irem (pc' := 299) rfl rfl (by decide) ?_
  refine rn_topI (rem40 (g := g) hg hg31) ?_
  refine rn_aload_n (pc' := 300) rfl rfl rfl ?_
  refine rn_getF (N := 1) (t' := 25) (pc' := 303) rfl rfl rfl rfl rfl (by first | assumption | decide | omega) ?_
  refine rn_iload_n (pc' := 304) rfl rfl rfl ?_
  refine rn_iald (N := 1) (K := 24) (pc' := 305) rfl rfl ⟨rfl, rfl⟩ rfl (by first | assumption | decide | omega) rfl (by decide) rfl (by first | assumption | decide | omega) ?_
  refine rn_iast (k := g % 40) (N := 1) (K := 40) (pc' := 306) rfl rfl ⟨rfl, rfl⟩ rfl (by first | assumption | decide | omega) rfl (by decide) (rfl) (Nat.mod_lt _ (by decide)) ?_
  refine rn_aload_n (pc' := 307) rfl rfl rfl ?_
  refine rn_getF (N := 1) (t' := 48) (pc' := 310) rfl rfl rfl rfl rfl (by first | assumption | decide | omega) ?_
  refine rn_aload_n (pc' := 311) rfl rfl rfl ?_
  refine rn_getI (N := 1) (pc' := 314) rfl rfl rfl rfl (by decide) rfl (by first | assumption | decide | omega) ?_
  refine rn_bipush (pc' := 316) (v := 40) rfl rfl (by decide) ?_
  refine rn_irem (pc' := 317) rfl rfl (by decide) ?_
  refine rn_topI (rem40 (g := g) hg hg31) ?_
  refine rn_aload_n (pc' := 318) rfl rfl rfl ?_
  refine rn_getF (N := 1) (t' := 31) (pc' := 321) rfl rfl rfl rfl rfl (by first | assumption | decide | omega) ?_
  refine rn_iload (pc' := 323) rfl rfl rfl ?_
  refine rn_iald (N := 1) (K := 192) (pc' := 324) rfl rfl ⟨rfl, rfl⟩ rfl (by first | assumption | decide | omega) rfl (by decide) rfl (by first | assumption | decide | omega) ?_
  refine rn_iast (k := g % 40) (N := 1) (K := 40) (pc' := 325) rfl rfl ⟨rfl, rfl⟩ rfl (by first | assumption | decide | omega) rfl (by decide) (rfl) (Nat.mod_lt _ (by decide)) ?_
  refine rn_aload_n (pc' := 326) rfl rfl rfl ?_
  refine rn_dupA (pc' := 327) rfl rfl ?_
  refine rn_getI (N := 1) (pc' := 330) rfl rfl rfl rfl (by decide) rfl (by first | assumption | decide | omega) ?_
  refine rn_iconst (pc' := 331) (v := 1) rfl rfl (by decide) ?_
  refine rn_iadd (pc' := 332) rfl rfl ?_
  refine rn_putI (N := 1) (pc' := 335) rfl rfl rfl rfl rfl (by first | assumption | decide | omega) ?_
  refine rn_goto (pc' := 422) rfl rfl ?_
  refine rn_return rfl rfl ?_
  exact ⟨rfl, rfl⟩
theorem r_act8 {d e p i ja jb : Nat} (M F : xM) (ok : aOk M e p i ja jb) (hop : (M.1 22 0 (60 * p + i)).toInt = 8) (hc : Rn d 93 (0, xen 93 [vR 20 0, vI (nI e), vI (nI (8 * e + ja))], [], nAct M e) (fun r M' => r = none ∧ M' = F)) : Rn (d + 1) 91 (0, xen 91 [vR 20 0, vI (nI e)], [], M) (fun r M' => r = none ∧ M' = F) := by
  refine r_actPre M _ ok ?_
  obtain ⟨he, hp, hi, ha, hb, hpr, hnx, hea, heb⟩ := ok
  refine rn_swIn (k := 8) (t := 338) rfl hop (by decide) rfl rfl ?_
  refine rn_aload_n (pc' := 339) rfl rfl rfl ?_
  refine rn_iload_n (pc' := 340) rfl rfl rfl ?_
  refine rn_iload (pc' := 342) rfl rfl rfl ?_
  refine rn_callV (pc' := 345) (as := [_, _]) rfl rfl rfl ⟨Nat.le_of_ble_eq_true rfl, rfl, rfl⟩ rfl (by first | assumption | decide | omega) (Nat.le_of_ble_eq_true rfl) (Nat.le_of_ble_eq_true rfl) rfl hc (fun r1 M1 hz => ?_)
  obtain ⟨rfl, hm_⟩ := hz
  refine rn_mem hm_ ?_
  clear hm_
  refine rn_goto (pc' := 422) rfl rfl ?_
  refine rn_return rfl rfl ?_
  exact ⟨rfl, rfl⟩
theorem r_act9 {d e p i ja jb : Nat} (M F : xM) (ok : aOk M e p i ja jb) (hop : (M.1 22 0 (60 * p + i)).toInt = 9) (hc : Rn d 94 (0, xen 94 [vR 20 0, vI (nI e), vI (M.1 24 0 (60 * p + i)), vI (nI (8 * e + ja))], [], nAct M e) (fun r M' => r = none ∧ M' = F)) : Rn (d + 1) 91 (0, xen 91 [vR 20 0, vI (nI e)], [], M) (fun r M' => r = none ∧ M' = F) := by
  refine r_actPre M _ ok ?_
  obtain ⟨he, hp, hi, ha, hb, hpr, hnx, hea, heb⟩ := ok
  refine rn_swIn (k := 9) (t := 348) rfl hop (by decide) rfl rfl ?_
  refine rn_aload_n (pc' := 349) rfl rfl rfl ?_
  refine rn_iload_n (pc' := 350) rfl rfl rfl ?_
  refine rn_iload (pc' := 352) rfl rfl rfl ?_
  refine rn_iload (pc' := 354) rfl rfl rfl ?_
  refine rn_callV (pc' := 357) (as := [_, _, _]) rfl rfl rfl ⟨Nat.le_of_ble_eq_true rfl, rfl, rfl⟩ rfl (by first | assumption | decide | omega) (Nat.le_of_ble_eq_true rfl) (Nat.le_of_ble_eq_true rfl) rfl hc (fun r1 M1 hz => ?_)
  obtain ⟨rfl, hm_⟩ := hz
  refine rn_mem hm_ ?_
  clear hm_
  refine rn_goto (pc' := 422) rfl rfl ?_
  refine rn_return rfl rfl ?_
  exact ⟨rfl, rfl⟩
theorem r_act10 {d e p i ja jb : Nat} (M F : xM) (ok : aOk M e p i ja jb) (hop : (M.1 22 0 (60 * p + i)).toInt = 10) (hc : Rn d 84 (0, xen 84 [vR 20 0, vI (nI e), vI (256 * (M.1 31 0 (8 * e + ja) &&& 255))], [], nAct M e) (fun r M' => r = none ∧ M' = F)) : Rn (d + 1) 91 (0, xen 91 [vR 20 0, vI (nI e)], [], M) (fun r M' => r = none ∧ M' = F) := by
  refine r_actPre M _ ok ?_
  obtain ⟨he, hp, hi, ha, hb, hpr, hnx, hea, heb⟩ := ok
  refine rn_swIn (k := 10) (t := 360) rfl hop (by decide) rfl rfl ?_
  refine rn_aload_n (pc' := 361) rfl rfl rfl ?_
  refine rn_iload_n (pc' := 362) rfl rfl rfl ?_
  refine rn_sipush (pc' := 365) (v := 256) rfl rfl (by decide) ?_
  refine rn_aload_n (pc' := 366) rfl rfl rfl ?_
  refine rn_getF (N := 1) (t' := 31) (pc' := 369) rfl rfl rfl rfl rfl (by first | assumption | decide | omega) ?_
  refine rn_iload (pc' := 371) rfl rfl rfl ?_
  refine rn_iald (N := 1) (K := 192) (pc' := 372) rfl rfl ⟨rfl, rfl⟩ rfl (by first | assumption | decide | omega) rfl (by decide) rfl (by first | assumption | decide | omega) ?_
  refine rn_sipush (pc' := 375) (v := 255) rfl rfl (by decide) ?_
  refine rn_iand (pc' := 376) rfl rfl ?_
  refine rn_imul (pc' := 377) rfl rfl ?_
  refine rn_callV (pc' := 380) (as := [_, _]) rfl rfl rfl ⟨Nat.le_of_ble_eq_true rfl, rfl, rfl⟩ rfl (by first | assumption | decide | omega) (Nat.le_of_ble_eq_true rfl) (Nat.le_of_ble_eq_true rfl) rfl hc (fun r1 M1 hz => ?_)
  obtain ⟨rfl, hm_⟩ := hz
  refine rn_mem hm_ ?_
  clear hm_
  refine rn_goto (pc' := 422) rfl rfl ?_
  refine rn_return rfl rfl ?_
  exact ⟨rfl, rfl⟩
theorem r_act11 {d e p i ja jb : Nat} (M F : xM) (ok : aOk M e p i ja jb) (hop : (M.1 22 0 (60 * p + i)).toInt = 11) (hc : Rn d 96 (0, xen 96 [vR 20 0, vI (nI e), vI (M.1 22 0 (60 * p + i)), vI (nI (8 * e + ja)), vI (nI (8 * e + jb))], [], nAct M e) (fun r M' => r = none ∧ M' = F)) : Rn (d + 1) 91 (0, xen 91 [vR 20 0, vI (nI e)], [], M) (fun r M' => r = none ∧ M' = F) := by
  refine r_actPre M _ ok ?_
  obtain ⟨he, hp, hi, ha, hb, hpr, hnx, hea, heb⟩ := ok
  refine rn_swIn (k := 11) (t := 383) rfl hop (by decide) rfl rfl ?_
  refine rn_aload_n (pc' := 384) rfl rfl rfl ?_
  refine rn_iload_n (pc' := 385) rfl rfl rfl ?_
  refine rn_iload_n (pc' := 386) rfl rfl rfl ?_
  refine rn_iload (pc' := 388) rfl rfl rfl ?_
  refine rn_iload (pc' := 390) rfl rfl rfl ?_
  refine rn_callV (pc' := 393) (as := [_, _, _, _]) rfl rfl rfl ⟨Nat.le_of_ble_eq_true rfl, rfl, rfl⟩ rfl (by first | assumption | decide | omega) (Nat.le_of_ble_eq_true rfl) (Nat.le_of_ble_eq_true rfl) rfl hc (fun r1 M1 hz => ?_)
  obtain ⟨rfl, hm_⟩ := hz
  refine rn_mem hm_ ?_
  clear hm_
  refine rn_goto (pc' := 422) rfl rfl ?_
  refine rn_return rfl rfl ?_
  exact ⟨rfl, rfl⟩
theorem r_act12 {d e p i ja jb : Nat} (M F : xM) (ok : aOk M e p i ja jb) (hop : (M.1 22 0 (60 * p + i)).toInt = 12) (hc : Rn d 96 (0, xen 96 [vR 20 0, vI (nI e), vI (M.1 22 0 (60 * p + i)), vI (nI (8 * e + ja)), vI (nI (8 * e + jb))], [], nAct M e) (fun r M' => r = none ∧ M' = F)) : Rn (d + 1) 91 (0, xen 91 [vR 20 0, vI (nI e)], [], M) (fun r M' => r = none ∧ M' = F) := by
  refine r_actPre M _ ok ?_
  obtain ⟨he, hp, hi, ha, hb, hpr, hnx, hea, heb⟩ := ok
  refine rn_swIn (k := 12) (t := 383) rfl hop (by decide) rfl rfl ?_
  refine rn_aload_n (pc' := 384) rfl rfl rfl ?_
  refine rn_iload_n (pc' := 385) rfl rfl rfl ?_
  refine rn_iload_n (pc' := 386) rfl rfl rfl ?_
  refine rn_iload (pc' := 388) rfl rfl rfl ?_
  refine rn_iload (pc' := 390) rfl rfl rfl ?_
  refine rn_callV (pc' := 393) (as := [_, _, _, _]) rfl rfl rfl ⟨Nat.le_of_ble_eq_true rfl, rfl, rfl⟩ rfl (by first | assumption | decide | omega) (Nat.le_of_ble_eq_true rfl) (Nat.le_of_ble_eq_true rfl) rfl hc (fun r1 M1 hz => ?_)
  obtain ⟨rfl, hm_⟩ := hz
  refine rn_mem hm_ ?_
  clear hm_
  refine rn_goto (pc' := 422) rfl rfl ?_
  refine rn_return rfl rfl ?_
  exact ⟨rfl, rfl⟩
theorem r_act13 {d e p i ja jb : Nat} (M F : xM) (ok : aOk M e p i ja jb) (hop : (M.1 22 0 (60 * p + i)).toInt = 13) (hc : Rn d 96 (0, xen 96 [vR 20 0, vI (nI e), vI (M.1 22 0 (60 * p + i)), vI (nI (8 * e + ja)), vI (nI (8 * e + jb))], [], nAct M e) (fun r M' => r = none ∧ M' = F)) : Rn (d + 1) 91 (0, xen 91 [vR 20 0, vI (nI e)], [], M) (fun r M' => r = none ∧ M' = F) := by
  refine r_actPre M _ ok ?_
  obtain ⟨he, hp, hi, ha, hb, hpr, hnx, hea, heb⟩ := ok
  refine rn_swIn (k := 13) (t := 383) rfl hop (by decide) rfl rfl ?_
  refine rn_aload_n (pc' := 384) rfl rfl rfl ?_
  refine rn_iload_n (pc' := 385) rfl rfl rfl ?_
  refine rn_iload_n (pc' := 386) rfl rfl rfl ?_
  refine rn_iload (pc' := 388) rfl rfl rfl ?_
  refine rn_iload (pc' := 390) rfl rfl rfl ?_
  refine rn_callV (pc' := 393) (as := [_, _, _, _]) rfl rfl rfl ⟨Nat.le_of_ble_eq_true rfl, rfl, rfl⟩ rfl (by first | assumption | decide | omega) (Nat.le_of_ble_eq_true rfl) (Nat.le_of_ble_eq_true rfl) rfl hc (fun r1 M1 hz => ?_)
  obtain ⟨rfl, hm_⟩ := hz
  refine rn_mem hm_ ?_
  clear hm_
  refine rn_goto (pc' := 422) rfl rfl ?_
  refine rn_return rfl rfl ?_
  exact ⟨rfl, rfl⟩
theorem r_act14 {d e p i ja jb : Nat} (M F : xM) (ok : aOk M e p i ja jb) (hop : (M.1 22 0 (60 * p + i)).toInt = 14) (hc : Rn d 97 (0, xen 97 [vR 20 0, vI (nI e), vI (nI (8 * e + ja)), vI (nI (8 * e + jb))], [], nAct M e) (fun r M' => r = none ∧ M' = F)) : Rn (d + 1) 91 (0, xen 91 [vR 20 0, vI (nI e)], [], M) (fun r M' => r = none ∧ M' = F) := by
  refine r_actPre M _ ok ?_
  obtain ⟨he, hp, hi, ha, hb, hpr, hnx, hea, heb⟩ := ok
  refine rn_swIn (k := 14) (t := 396) rfl hop (by decide) rfl rfl ?_
  refine rn_aload_n (pc' := 397) rfl rfl rfl ?_
  refine rn_iload_n (pc' := 398) rfl rfl rfl ?_
  refine rn_iload (pc' := 400) rfl rfl rfl ?_
  refine rn_iload (pc' := 402) rfl rfl rfl ?_
  refine rn_callV (pc' := 405) (as := [_, _, _]) rfl rfl rfl ⟨Nat.le_of_ble_eq_true rfl, rfl, rfl⟩ rfl (by first | assumption | decide | omega) (Nat.le_of_ble_eq_true rfl) (Nat.le_of_ble_eq_true rfl) rfl hc (fun r1 M1 hz => ?_)
  obtain ⟨rfl, hm_⟩ := hz
  refine rn_mem hm_ ?_
  clear hm_
  refine rn_goto (pc' := 422) rfl rfl ?_
  refine rn_return rfl rfl ?_
  exact ⟨rfl, rfl⟩
theorem r_actM {d e p i ja jb : Nat} (M F : xM) (ok : aOk M e p i ja jb) (hop : (M.1 22 0 (60 * p + i)).toInt < 0 ∨ 14 < (M.1 22 0 (60 * p + i)).toInt) (hc : Rn d 92 (0, xen 92 [vR 20 0, vI (nI e), vI (M.1 22 0 (60 * p + i)), vI (M.1 23 0 (60 * p + i)), vI (M.1 24 0 (60 * p + i)), vI (nI (8 * e + ja)), vI (nI (8 * e + jb))], [], nAct M e) (fun r M' => r = none ∧ M' = F)) : Rn (d + 1) 91 (0, xen 91 [vR 20 0, vI (nI e)], [], M) (fun r M' => r = none ∧ M' = F) := by
  refine r_actPre M _ ok ?_
  obtain ⟨he, hp, hi, ha, hb, hpr, hnx, hea, heb⟩ := ok
  refine rn_swOut (t := 408) rfl hop rfl ?_
  refine rn_aload_n (pc' := 409) rfl rfl rfl ?_
  refine rn_iload_n (pc' := 410) rfl rfl rfl ?_
  refine rn_iload_n (pc' := 411) rfl rfl rfl ?_
  refine rn_iload (pc' := 413) rfl rfl rfl ?_
  refine rn_iload (pc' := 415) rfl rfl rfl ?_
  refine rn_iload (pc' := 417) rfl rfl rfl ?_
  refine rn_iload (pc' := 419) rfl rfl rfl ?_
  refine rn_callV (pc' := 422) (as := [_, _, _, _, _, _]) rfl rfl rfl ⟨Nat.le_of_ble_eq_true rfl, rfl, rfl⟩ rfl (by first | assumption | decide | omega) (Nat.le_of_ble_eq_true rfl) (Nat.le_of_ble_eq_true rfl) rfl hc (fun r1 M1 hz => ?_)
  obtain ⟨rfl, hm_⟩ := hz
  refine rn_mem hm_ ?_
  clear hm_
  refine rn_return rfl rfl ?_
  exact ⟨rfl, rfl⟩
