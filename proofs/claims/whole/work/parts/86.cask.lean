theorem i32_ge0 {p : Int32} {h : Nat} {y : Int32} (hy : y.toInt = h + 1) (hq : p.toInt < (0 : Nat) ∨ (h : Int) < p.toInt) (h1 : ¬ p < 0) : ¬ p < y := by
  have e0 : (0 : Int32).toInt = 0 := by decide
  rw [Int32.lt_iff_toInt_lt] at h1 ⊢
  omega
theorem same_entry {t : Nat} {C R : xM} (p : Int32) (h : GI t C R) : Same 59 100 [vI p] t C R := by
  rcases in_cases p 0 23 0 23 (by decide) (by decide) with ⟨h1, h2⟩ | ⟨k, -, k2, rfl, k3, k4⟩
  · refine Same.q h (r_entryU R p h1) ?_
    show Rn _ 59 (0, [some (vR 9 0), some (vI p)], [], _) _
    refine rn_iload_n (pc' := 1) rfl rfl rfl ?_
    refine rn_if_lt (t := 10) (pc' := 4) rfl rfl rfl (fun hb1 => ?_) (fun hb1 => ?_)
    · refine rn_sipush (pc' := 13) (v := (-1001)) rfl rfl (by decide) ?_
      refine rn_goto (pc' := 25) rfl rfl ?_
      refine rn_ireturn rfl rfl ?_
      exact ⟨rfl, rfl⟩
    · refine rn_iload_n (pc' := 5) rfl rfl rfl ?_
      refine rn_bipush (pc' := 7) (v := 24) rfl rfl (by decide) ?_
      refine rn_ic_lt (t := 16) (pc' := 10) rfl rfl rfl (fun hb2 => ?_) (fun hb2 => ?_)
      · exact absurd hb2 (i32_ge0 (y := 24) (by decide) h2 hb1)
      · refine rn_sipush (pc' := 13) (v := (-1001)) rfl rfl (by decide) ?_
        refine rn_goto (pc' := 25) rfl rfl ?_
        refine rn_ireturn rfl rfl ?_
        exact ⟨rfl, rfl⟩
  · have hk : k < 24 := by omega
    have v0 : C.1 0 k 0 = R.1 25 0 k := f1 h.1.1.1 hk (by decide)
    refine Same.q h (r_entryY R k4 hk) ?_
    have n0 := nI_pos (n := k) (by omega)
    have n2 : nI k < (24 : Int32) := (lt24 (by omega)).mpr hk
    show Rn _ 59 (0, [some (vR 9 0), some (vI (nI k))], [], _) _
    refine rn_iload_n (pc' := 1) rfl rfl rfl ?_
    refine rn_if_lt (t := 10) (pc' := 4) rfl rfl rfl (fun hb1 => ?_) (fun hb1 => ?_)
    · first | exact absurd hb1 n0 | exact absurd n2 hb2
    · refine rn_iload_n (pc' := 5) rfl rfl rfl ?_
      refine rn_bipush (pc' := 7) (v := 24) rfl rfl (by decide) ?_
      refine rn_ic_lt (t := 16) (pc' := 10) rfl rfl rfl (fun hb2 => ?_) (fun hb2 => ?_)
      · refine rn_aload_n (pc' := 17) rfl rfl rfl ?_
        refine rn_getF (N := 1) (t' := 11) (pc' := 20) rfl rfl rfl rfl rfl (by first | assumption | decide | omega) ?_
        refine rn_iload_n (pc' := 21) rfl rfl rfl ?_
        refine rn_aaldF (t' := 0) (N := 1) (K := 24) (pc' := 22) rfl rfl rfl rfl rfl (by first | assumption | decide | omega) rfl (by decide) rfl (by first | assumption | decide | omega) ?_
        refine rn_getI (N := 24) (pc' := 25) rfl rfl rfl rfl (by decide) rfl (by first | assumption | decide | omega) ?_
        refine rn_topI v0 ?_
        refine rn_ireturn rfl rfl ?_
        exact ⟨rfl, rfl⟩
      · first | exact absurd hb1 n0 | exact absurd n2 hb2
section
variable {M : xM} {e : Nat} {w : Int32}
theorem td0 (h : w.toInt = 0) : tdV M e w = M.1 28 0 e := by unfold tdV; simp [h]
theorem td1 (h : w.toInt = 1) : tdV M e w = M.1 26 0 e := by unfold tdV; simp [h]
theorem td2 (h : w.toInt = 2) : tdV M e w = M.1 27 0 e := by unfold tdV; simp [h]
theorem td3 (h : w.toInt = 3) : tdV M e w = M.1 29 0 e := by unfold tdV; simp [h]
theorem td4 (h : w.toInt = 4) : tdV M e w = M.1 30 0 e := by unfold tdV; simp [h]
theorem td5 (h : w.toInt = 5) : tdV M e w = M.1 33 0 e := by unfold tdV; simp [h]
theorem td6 (h : w.toInt = 6) : tdV M e w = M.1 34 0 e := by unfold tdV; simp [h]
theorem td7 (h : w.toInt = 7) : tdV M e w = M.1 35 0 e := by unfold tdV; simp [h]
theorem td8 (h : w.toInt = 8) : tdV M e w = until_ M e := by unfold tdV; simp [h]
theorem td9 (h : w.toInt = 9) (k : ¬ M.1 28 0 e = 4 → M.1 39 0 e = 0) : tdV M e w = M.1 39 0 e := by
  have : tdV M e w = if M.1 28 0 e = 4 then M.1 39 0 e else 0 := by unfold tdV; simp [h]
  rw [this]
  split
  · rfl
  · exact (k ‹_›).symm
theorem tdN (h : w.toInt < 0 ∨ 9 < w.toInt) : tdV M e w = -1002 := by
  unfold tdV
  rw [if_neg (by omega), if_neg (by omega), if_neg (by omega), if_neg (by omega), if_neg (by omega), if_neg (by omega), if_neg (by omega), if_neg (by omega), if_neg (by omega), if_neg (by omega)]
end
theorem vI_c {x y : Int32} (h : x = y) : (some (vI x) : Option xV) = some (vI y) := by rw [h]
theorem same_told {t : Nat} {C R : xM} (p w : Int32) (h : GI t C R) : Same 60 101 [vI p, vI w] t C R := by
  obtain ⟨hI, h30, hT⟩ := id h
  have hf := c_find (d := 6) p hI.1.1 hI.2.2.2.1
  cases he : eo R p with
  | none =>
    refine Same.q h (r_toldU R p w he) ?_
    rw [he] at hf
    show Rn _ 60 (0, [some (vR 9 0), some (vI p), some (vI w), none], [], _) _
    refine rn_aload_n (pc' := 1) rfl rfl rfl ?_
    refine rn_iload_n (pc' := 2) rfl rfl rfl ?_
    refine rn_callV (pc' := 5) (as := [_]) rfl rfl rfl ⟨Nat.le_of_ble_eq_true rfl, rfl, rfl⟩ rfl (by first | assumption | decide | omega) (Nat.le_of_ble_eq_true rfl) (Nat.le_of_ble_eq_true rfl) rfl hf (fun r1 M1 hz => ?_)
    obtain ⟨rfl, hm_⟩ := hz
    refine rn_mem hm_ ?_
    clear hm_
    refine rn_astore_n (pc' := 6) rfl rfl rfl (Nat.le_of_ble_eq_true rfl) rfl ?_
    refine rn_aload_n (pc' := 7) rfl rfl rfl ?_
    refine rn_ifnonnull (t := 14) (pc' := 10) rfl rfl rfl (fun h1 => ?_) (fun h1 => ?_)
    · exact absurd rfl h1
    · refine rn_sipush (pc' := 13) (v := (-1001)) rfl rfl (by decide) ?_
      refine rn_ireturn rfl rfl ?_
      exact ⟨rfl, rfl⟩
  | some e =>
    have e24 := eo_lt he
    have hl := eo_live he
    rw [he] at hf
    refine Same.q h (r_told R p w he) ?_
    have v3 : C.1 0 e 3 = R.1 28 0 e := f1 hI.1.1 e24 (by decide)
    have v2 : C.1 0 e 2 = R.1 27 0 e := f1 hI.1.1 e24 (by decide)
    have v4 : C.1 0 e 4 = R.1 29 0 e := f1 hI.1.1 e24 (by decide)
    have v5 : C.1 0 e 5 = R.1 30 0 e := f1 hI.1.1 e24 (by decide)
    have v8 : C.1 0 e 8 = R.1 33 0 e := pnd_eq hI e24 hl
    have v9 : C.1 0 e 9 = R.1 34 0 e := f1 hI.1.1 e24 (by decide)
    have v12 : C.1 0 e 12 = R.1 35 0 e := f1 hI.1.1 e24 (by decide)
    have v14 : C.1 0 e 14 = R.1 39 0 e := f1 hI.1.1 e24 (by decide)
    have h9 : ¬ R.1 28 0 e = 4 → R.1 39 0 e = 0 := fun q => hI.2.2.2.2.2.2.2.2.2.1.1 e e24 hl q
    have hpo := c_parentOf (d := 6) hI e24 hl
    have hu := c_untilAlarm (d := 6) hI e24 hl hT
    show Rn _ 60 (0, [some (vR 9 0), some (vI p), some (vI w), none], [], _) _
    refine rn_aload_n (pc' := 1) rfl rfl rfl ?_
    refine rn_iload_n (pc' := 2) rfl rfl rfl ?_
    refine rn_callV (pc' := 5) (as := [_]) rfl rfl rfl ⟨Nat.le_of_ble_eq_true rfl, rfl, rfl⟩ rfl (by first | assumption | decide | omega) (Nat.le_of_ble_eq_true rfl) (Nat.le_of_ble_eq_true rfl) rfl hf (fun r1 M1 hz => ?_)
    obtain ⟨rfl, hm_⟩ := hz
    refine rn_mem hm_ ?_
    clear hm_
    refine rn_astore_n (pc' := 6) rfl rfl rfl (Nat.le_of_ble_eq_true rfl) rfl ?_
    refine rn_aload_n (pc' := 7) rfl rfl rfl ?_
    refine rn_ifnonnull (t := 14) (pc' := 10) rfl rfl rfl (fun h1 => ?_) (fun h1 => ?_)
    · refine rn_iload_n (pc' := 15) rfl rfl rfl ?_
      rcases x_sw w (0) 10 with hw | ⟨k_, hk_, hw⟩
      · refine rn_swOut (t := 119) rfl (by omega) rfl ?_
        refine rn_sipush (pc' := 122) (v := (-1002)) rfl rfl (by decide) ?_
        refine rn_ireturn rfl rfl ?_
        exact ⟨vI_c (tdN (by omega)).symm, rfl⟩
      · rcases (show k_ = 0 ∨ k_ = 1 ∨ k_ = 2 ∨ k_ = 3 ∨ k_ = 4 ∨ k_ = 5 ∨ k_ = 6 ∨ k_ = 7 ∨ k_ = 8 ∨ k_ = 9 by omega) with rfl | rfl | rfl | rfl | rfl | rfl | rfl | rfl | rfl | rfl
        · refine rn_swIn (k := 0) (t := 68) rfl hw (by decide) rfl rfl ?_
          refine rn_aload_n (pc' := 69) rfl rfl rfl ?_
          refine rn_getI (N := 24) (pc' := 72) rfl rfl rfl rfl (by decide) rfl (by first | assumption | decide | omega) ?_
          refine rn_ireturn rfl rfl ?_
          exact ⟨vI_c (v3.trans (td0 (by omega)).symm), rfl⟩
        · refine rn_swIn (k := 1) (t := 73) rfl hw (by decide) rfl rfl ?_
          refine rn_aload_n (pc' := 74) rfl rfl rfl ?_
          refine rn_callS (pc' := 77) (as := [_]) rfl rfl rfl ⟨rfl, rfl, rfl⟩ (Nat.le_of_ble_eq_true rfl) (Nat.le_of_ble_eq_true rfl) rfl hpo (fun r4 M4 hz => ?_)
          obtain ⟨rfl, hm_⟩ := hz
          refine rn_mem hm_ ?_
          clear hm_
          refine rn_ireturn rfl rfl ?_
          exact ⟨vI_c (td1 (by omega)).symm, rfl⟩
        · refine rn_swIn (k := 2) (t := 78) rfl hw (by decide) rfl rfl ?_
          refine rn_aload_n (pc' := 79) rfl rfl rfl ?_
          refine rn_getI (N := 24) (pc' := 82) rfl rfl rfl rfl (by decide) rfl (by first | assumption | decide | omega) ?_
          refine rn_ireturn rfl rfl ?_
          exact ⟨vI_c (v2.trans (td2 (by omega)).symm), rfl⟩
        · refine rn_swIn (k := 3) (t := 83) rfl hw (by decide) rfl rfl ?_
          refine rn_aload_n (pc' := 84) rfl rfl rfl ?_
          refine rn_getI (N := 24) (pc' := 87) rfl rfl rfl rfl (by decide) rfl (by first | assumption | decide | omega) ?_
          refine rn_ireturn rfl rfl ?_
          exact ⟨vI_c (v4.trans (td3 (by omega)).symm), rfl⟩
        · refine rn_swIn (k := 4) (t := 88) rfl hw (by decide) rfl rfl ?_
          refine rn_aload_n (pc' := 89) rfl rfl rfl ?_
          refine rn_getI (N := 24) (pc' := 92) rfl rfl rfl rfl (by decide) rfl (by first | assumption | decide | omega) ?_
          refine rn_ireturn rfl rfl ?_
          exact ⟨vI_c (v5.trans (td4 (by omega)).symm), rfl⟩
        · refine rn_swIn (k := 5) (t := 93) rfl hw (by decide) rfl rfl ?_
          refine rn_aload_n (pc' := 94) rfl rfl rfl ?_
          refine rn_getI (N := 24) (pc' := 97) rfl rfl rfl rfl (by decide) rfl (by first | assumption | decide | omega) ?_
          refine rn_ireturn rfl rfl ?_
          exact ⟨vI_c (v8.trans (td5 (by omega)).symm), rfl⟩
        · refine rn_swIn (k := 6) (t := 98) rfl hw (by decide) rfl rfl ?_
          refine rn_aload_n (pc' := 99) rfl rfl rfl ?_
          refine rn_getI (N := 24) (pc' := 102) rfl rfl rfl rfl (by decide) rfl (by first | assumption | decide | omega) ?_
          refine rn_ireturn rfl rfl ?_
          exact ⟨vI_c (v9.trans (td6 (by omega)).symm), rfl⟩
        · refine rn_swIn (k := 7) (t := 103) rfl hw (by decide) rfl rfl ?_
          refine rn_aload_n (pc' := 104) rfl rfl rfl ?_
          refine rn_getI (N := 24) (pc' := 107) rfl rfl rfl rfl (by decide) rfl (by first | assumption | decide | omega) ?_
          refine rn_ireturn rfl rfl ?_
          exact ⟨vI_c (v12.trans (td7 (by omega)).symm), rfl⟩
        · refine rn_swIn (k := 8) (t := 108) rfl hw (by decide) rfl rfl ?_
          refine rn_aload_n (pc' := 109) rfl rfl rfl ?_
          refine rn_aload_n (pc' := 110) rfl rfl rfl ?_
          refine rn_callV (pc' := 113) (as := [_]) rfl rfl rfl ⟨Nat.le_of_ble_eq_true rfl, rfl, rfl⟩ rfl (by first | assumption | decide | omega) (Nat.le_of_ble_eq_true rfl) (Nat.le_of_ble_eq_true rfl) rfl hu (fun r4 M4 hz => ?_)
          obtain ⟨rfl, hm_⟩ := hz
          refine rn_mem hm_ ?_
          clear hm_
          refine rn_ireturn rfl rfl ?_
          exact ⟨vI_c (td8 (by omega)).symm, rfl⟩
        · refine rn_swIn (k := 9) (t := 114) rfl hw (by decide) rfl rfl ?_
          refine rn_aload_n (pc' := 115) rfl rfl rfl ?_
          refine rn_getI (N := 24) (pc' := 118) rfl rfl rfl rfl (by decide) rfl (by first | assumption | decide | omega) ?_
          refine rn_ireturn rfl rfl ?_
          exact ⟨vI_c (v14.trans (td9 (by omega) h9).symm), rfl⟩
    · exact nomatch h1
theorem same_register {t : Nat} {C R : xM} (p w : Int32) (h : GI t C R) : Same 61 102 [vI p, vI w] t C R := by
  obtain ⟨hI, h30, hT⟩ := id h
  have hf := c_find (d := 6) p hI.1.1 hI.2.2.2.1
  cases he : eo R p with
  | none =>
    refine Same.q h (r_regU R p w he) ?_
    rw [he] at hf
    show Rn _ 61 (0, [some (vR 9 0), some (vI p), some (vI w), none], [], _) _
    refine rn_aload_n (pc' := 1) rfl rfl rfl ?_
    refine rn_iload_n (pc' := 2) rfl rfl rfl ?_
    refine rn_callV (pc' := 5) (as := [_]) rfl rfl rfl ⟨Nat.le_of_ble_eq_true rfl, rfl, rfl⟩ rfl (by first | assumption | decide | omega) (Nat.le_of_ble_eq_true rfl) (Nat.le_of_ble_eq_true rfl) rfl hf (fun r1 M1 hz => ?_)
    obtain ⟨rfl, hm_⟩ := hz
    refine rn_mem hm_ ?_
    clear hm_
    refine rn_astore_n (pc' := 6) rfl rfl rfl (Nat.le_of_ble_eq_true rfl) rfl ?_
    refine rn_aload_n (pc' := 7) rfl rfl rfl ?_
    refine rn_ifnonnull (t := 14) (pc' := 10) rfl rfl rfl (fun h1 => ?_) (fun h1 => ?_)
    · exact absurd rfl h1
    · refine rn_sipush (pc' := 13) (v := (-1001)) rfl rfl (by decide) ?_
      refine rn_ireturn rfl rfl ?_
      exact ⟨rfl, rfl⟩
  | some e =>
    have e24 := eo_lt he
    rw [he] at hf
    rcases in_cases w 0 7 0 7 (by decide) (by decide) with ⟨h1, h2⟩ | ⟨k, -, k2, rfl, k3, k4⟩
    · refine Same.q h (r_regO R p w he h1) ?_
      show Rn _ 61 (0, [some (vR 9 0), some (vI p), some (vI w), none], [], _) _
      refine rn_aload_n (pc' := 1) rfl rfl rfl ?_
      refine rn_iload_n (pc' := 2) rfl rfl rfl ?_
      refine rn_callV (pc' := 5) (as := [_]) rfl rfl rfl ⟨Nat.le_of_ble_eq_true rfl, rfl, rfl⟩ rfl (by first | assumption | decide | omega) (Nat.le_of_ble_eq_true rfl) (Nat.le_of_ble_eq_true rfl) rfl hf (fun r1 M1 hz => ?_)
      obtain ⟨rfl, hm_⟩ := hz
      refine rn_mem hm_ ?_
      clear hm_
      refine rn_astore_n (pc' := 6) rfl rfl rfl (Nat.le_of_ble_eq_true rfl) rfl ?_
      refine rn_aload_n (pc' := 7) rfl rfl rfl ?_
      refine rn_ifnonnull (t := 14) (pc' := 10) rfl rfl rfl (fun h7 => ?_) (fun h7 => ?_)
      · refine rn_iload_n (pc' := 15) rfl rfl rfl ?_
        refine rn_if_lt (t := 24) (pc' := 18) rfl rfl rfl (fun hb1 => ?_) (fun hb1 => ?_)
        · refine rn_sipush (pc' := 27) (v := (-1002)) rfl rfl (by decide) ?_
          refine rn_goto (pc' := 36) rfl rfl ?_
          refine rn_ireturn rfl rfl ?_
          exact ⟨rfl, rfl⟩
        · refine rn_iload_n (pc' := 19) rfl rfl rfl ?_
          refine rn_bipush (pc' := 21) (v := 8) rfl rfl (by decide) ?_
          refine rn_ic_lt (t := 30) (pc' := 24) rfl rfl rfl (fun hb2 => ?_) (fun hb2 => ?_)
          · exact absurd hb2 (i32_ge0 (y := 8) (by decide) h2 hb1)
          · refine rn_sipush (pc' := 27) (v := (-1002)) rfl rfl (by decide) ?_
            refine rn_goto (pc' := 36) rfl rfl ?_
            refine rn_ireturn rfl rfl ?_
            exact ⟨rfl, rfl⟩
      · exact nomatch h7
    · have hk : k < 8 := by omega
      have v1 : C.1 1 e k = R.1 31 0 (8 * e + k) := hI.1.2.1 e e24 k hk
      refine Same.q h (r_regY R p he hk k4) ?_
      have n0 := nI_pos (n := k) (by omega)
      have n2 : nI k < (8 : Int32) := (lt8 (by omega)).mpr hk
      show Rn _ 61 (0, [some (vR 9 0), some (vI p), some (vI (nI k)), none], [], _) _
      refine rn_aload_n (pc' := 1) rfl rfl rfl ?_
      refine rn_iload_n (pc' := 2) rfl rfl rfl ?_
      refine rn_callV (pc' := 5) (as := [_]) rfl rfl rfl ⟨Nat.le_of_ble_eq_true rfl, rfl, rfl⟩ rfl (by first | assumption | decide | omega) (Nat.le_of_ble_eq_true rfl) (Nat.le_of_ble_eq_true rfl) rfl hf (fun r1 M1 hz => ?_)
      obtain ⟨rfl, hm_⟩ := hz
      refine rn_mem hm_ ?_
      clear hm_
      refine rn_astore_n (pc' := 6) rfl rfl rfl (Nat.le_of_ble_eq_true rfl) rfl ?_
      refine rn_aload_n (pc' := 7) rfl rfl rfl ?_
      refine rn_ifnonnull (t := 14) (pc' := 10) rfl rfl rfl (fun h7 => ?_) (fun h7 => ?_)
      · refine rn_iload_n (pc' := 15) rfl rfl rfl ?_
        refine rn_if_lt (t := 24) (pc' := 18) rfl rfl rfl (fun hb1 => ?_) (fun hb1 => ?_)
        · first | exact absurd hb1 n0 | exact absurd n2 hb2
        · refine rn_iload_n (pc' := 19) rfl rfl rfl ?_
          refine rn_bipush (pc' := 21) (v := 8) rfl rfl (by decide) ?_
          refine rn_ic_lt (t := 30) (pc' := 24) rfl rfl rfl (fun hb2 => ?_) (fun hb2 => ?_)
          · refine rn_aload_n (pc' := 31) rfl rfl rfl ?_
            refine rn_getF (N := 24) (t' := 1) (pc' := 34) rfl rfl rfl rfl rfl (by first | assumption | decide | omega) ?_
            refine rn_iload_n (pc' := 35) rfl rfl rfl ?_
            refine rn_iald (N := 24) (K := 8) (pc' := 36) rfl rfl ⟨rfl, rfl⟩ rfl (by first | assumption | decide | omega) rfl (by decide) rfl (by first | assumption | decide | omega) ?_
            refine rn_topI v1 ?_
            refine rn_ireturn rfl rfl ?_
            exact ⟨rfl, rfl⟩
          · first | exact absurd hb1 n0 | exact absurd n2 hb2
      · exact nomatch h7
theorem same_action {t : Nat} {C R : xM} (p w : Int32) (h : GI t C R) : Same 62 103 [vI p, vI w] t C R := by
  obtain ⟨hI, h30, hT⟩ := id h
  have hf := c_find (d := 6) p hI.1.1 hI.2.2.2.1
  cases he : eo R p with
  | none =>
    refine Same.q h (r_actnU R p w he) ?_
    rw [he] at hf
    show Rn _ 62 (0, [some (vR 9 0), some (vI p), some (vI w), none], [], _) _
    refine rn_aload_n (pc' := 1) rfl rfl rfl ?_
    refine rn_iload_n (pc' := 2) rfl rfl rfl ?_
    refine rn_callV (pc' := 5) (as := [_]) rfl rfl rfl ⟨Nat.le_of_ble_eq_true rfl, rfl, rfl⟩ rfl (by first | assumption | decide | omega) (Nat.le_of_ble_eq_true rfl) (Nat.le_of_ble_eq_true rfl) rfl hf (fun r1 M1 hz => ?_)
    obtain ⟨rfl, hm_⟩ := hz
    refine rn_mem hm_ ?_
    clear hm_
    refine rn_astore_n (pc' := 6) rfl rfl rfl (Nat.le_of_ble_eq_true rfl) rfl ?_
    refine rn_aload_n (pc' := 7) rfl rfl rfl ?_
    refine rn_ifnonnull (t := 14) (pc' := 10) rfl rfl rfl (fun h1 => ?_) (fun h1 => ?_)
    · exact absurd rfl h1
    · refine rn_sipush (pc' := 13) (v := (-1001)) rfl rfl (by decide) ?_
      refine rn_ireturn rfl rfl ?_
      exact ⟨rfl, rfl⟩
  | some e =>
    have e24 := eo_lt he
    rw [he] at hf
    have hsg := c_isSignal (d := 6) (C := C) w
    by_cases hs : isS1 w
    · obtain ⟨k, k1, k2, rfl⟩ := isS1_n hs
      rw [decide_eq_true ((isS1_iff _).mp hs)] at hsg
      have v1 : C.1 2 e k = R.1 32 0 (21 * e + k) := hI.1.2.2.1 e e24 k k2
      refine Same.q h (r_actnY R p he k2 hs) ?_
      show Rn _ 62 (0, [some (vR 9 0), some (vI p), some (vI (nI k)), none], [], _) _
      refine rn_aload_n (pc' := 1) rfl rfl rfl ?_
      refine rn_iload_n (pc' := 2) rfl rfl rfl ?_
      refine rn_callV (pc' := 5) (as := [_]) rfl rfl rfl ⟨Nat.le_of_ble_eq_true rfl, rfl, rfl⟩ rfl (by first | assumption | decide | omega) (Nat.le_of_ble_eq_true rfl) (Nat.le_of_ble_eq_true rfl) rfl hf (fun r1 M1 hz => ?_)
      obtain ⟨rfl, hm_⟩ := hz
      refine rn_mem hm_ ?_
      clear hm_
      refine rn_astore_n (pc' := 6) rfl rfl rfl (Nat.le_of_ble_eq_true rfl) rfl ?_
      refine rn_aload_n (pc' := 7) rfl rfl rfl ?_
      refine rn_ifnonnull (t := 14) (pc' := 10) rfl rfl rfl (fun h7 => ?_) (fun h7 => ?_)
      · refine rn_iload_n (pc' := 15) rfl rfl rfl ?_
        refine rn_callS (pc' := 18) (as := [_]) rfl rfl rfl ⟨rfl, rfl, rfl⟩ (Nat.le_of_ble_eq_true rfl) (Nat.le_of_ble_eq_true rfl) rfl hsg (fun r3 M3 hz => ?_)
        obtain ⟨rfl, hm_⟩ := hz
        refine rn_mem hm_ ?_
        clear hm_
        refine rn_if_eq (t := 30) (pc' := 21) rfl rfl rfl (fun h8 => ?_) (fun h8 => ?_)
        · exact absurd h8 (by decide)
        · refine rn_aload_n (pc' := 22) rfl rfl rfl ?_
          refine rn_getF (N := 24) (t' := 2) (pc' := 25) rfl rfl rfl rfl rfl (by first | assumption | decide | omega) ?_
          refine rn_iload_n (pc' := 26) rfl rfl rfl ?_
          refine rn_iald (N := 24) (K := 21) (pc' := 27) rfl rfl ⟨rfl, rfl⟩ rfl (by first | assumption | decide | omega) rfl (by decide) rfl (by first | assumption | decide | omega) ?_
          refine rn_goto (pc' := 33) rfl rfl ?_
          refine rn_topI v1 ?_
          refine rn_ireturn rfl rfl ?_
          exact ⟨rfl, rfl⟩
      · exact nomatch h7
    · rw [decide_eq_false (fun z => hs ((isS1_iff w).mpr z))] at hsg
      refine Same.q h (r_actnO R p w he hs) ?_
      show Rn _ 62 (0, [some (vR 9 0), some (vI p), some (vI w), none], [], _) _
      refine rn_aload_n (pc' := 1) rfl rfl rfl ?_
      refine rn_iload_n (pc' := 2) rfl rfl rfl ?_
      refine rn_callV (pc' := 5) (as := [_]) rfl rfl rfl ⟨Nat.le_of_ble_eq_true rfl, rfl, rfl⟩ rfl (by first | assumption | decide | omega) (Nat.le_of_ble_eq_true rfl) (Nat.le_of_ble_eq_true rfl) rfl hf (fun r1 M1 hz => ?_)
      obtain ⟨rfl, hm_⟩ := hz
      refine rn_mem hm_ ?_
      clear hm_
      refine rn_astore_n (pc' := 6) rfl rfl rfl (Nat.le_of_ble_eq_true rfl) rfl ?_
      refine rn_aload_n (pc' := 7) rfl rfl rfl ?_
      refine rn_ifnonnull (t := 14) (pc' := 10) rfl rfl rfl (fun h7 => ?_) (fun h7 => ?_)
      · refine rn_iload_n (pc' := 15) rfl rfl rfl ?_
        refine rn_callS (pc' := 18) (as := [_]) rfl rfl rfl ⟨rfl, rfl, rfl⟩ (Nat.le_of_ble_eq_true rfl) (Nat.le_of_ble_eq_true rfl) rfl hsg (fun r3 M3 hz => ?_)
        obtain ⟨rfl, hm_⟩ := hz
        refine rn_mem hm_ ?_
        clear hm_
        refine rn_if_eq (t := 30) (pc' := 21) rfl rfl rfl (fun h8 => ?_) (fun h8 => ?_)
        · refine rn_sipush (pc' := 33) (v := (-1002)) rfl rfl (by decide) ?_
          refine rn_ireturn rfl rfl ?_
          exact ⟨rfl, rfl⟩
        · exact absurd rfl h8
      · exact nomatch h7
theorem i32_s1 (w x : Int32) : w - x - 1 = w - (x + 1) := by
  rw [Int32.sub_eq_add_neg, Int32.sub_eq_add_neg, Int32.sub_eq_add_neg, Int32.neg_add, Int32.add_assoc, Int32.sub_eq_add_neg]
theorem i32_s0 (w x : Int32) : w - x = 0 ↔ x = w := by
  constructor
  · intro h
    have := Int32.sub_add_cancel w x
    rw [h, Int32.zero_add] at this
    exact this
  · rintro rfl
    exact Int32.sub_self _
theorem same_child {t : Nat} {C R : xM} (p w : Int32) (h : GI t C R) : Same 63 104 [vI p, vI w] t C R := by
  obtain ⟨hI, h30, hT⟩ := id h
  have hf := c_find (d := 6) p hI.1.1 hI.2.2.2.1
  cases he : eo R p with
  | none =>
    refine Same.q h (r_childU R p w he) ?_
    rw [he] at hf
    show Rn _ 63 (0, [some (vR 9 0), some (vI p), some (vI w), none, none, none, none, none, none], [], _) _
    refine rn_aload_n (pc' := 1) rfl rfl rfl ?_
    refine rn_iload_n (pc' := 2) rfl rfl rfl ?_
    refine rn_callV (pc' := 5) (as := [_]) rfl rfl rfl ⟨Nat.le_of_ble_eq_true rfl, rfl, rfl⟩ rfl (by first | assumption | decide | omega) (Nat.le_of_ble_eq_true rfl) (Nat.le_of_ble_eq_true rfl) rfl hf (fun r1 M1 hz => ?_)
    obtain ⟨rfl, hm_⟩ := hz
    refine rn_mem hm_ ?_
    clear hm_
    refine rn_astore_n (pc' := 6) rfl rfl rfl (Nat.le_of_ble_eq_true rfl) rfl ?_
    refine rn_aload_n (pc' := 7) rfl rfl rfl ?_
    refine rn_ifnonnull (t := 14) (pc' := 10) rfl rfl rfl (fun h1 => ?_) (fun h1 => ?_)
    · exact absurd rfl h1
    · refine rn_sipush (pc' := 13) (v := (-1001)) rfl rfl (by decide) ?_
      refine rn_ireturn rfl rfl ?_
      exact ⟨rfl, rfl⟩
  | some e =>
    have e24 := eo_lt he
    have hl := eo_live he
    have hpe : R.1 25 0 e = p := (eoF_some he).2.2
    rw [he] at hf
    refine Same.q h (r_child R p w he) ?_
    obtain ⟨T, hTT⟩ : ∃ T, T = cdF R p 24 0 w := ⟨_, rfl⟩
    rw [← hTT]
    have loop : ∀ (m i s : Nat) (x8 : Option xV), i + m = 24 → cdF R p m i (w - nI s) = T → Rn 7 63 (31, [some (vR 9 0), some (vI p), some (vI w), some (vR 0 e), some (vI (nI s)), some (vR 11 0), some (vI 24), some (vI (nI i)), x8], [], C) (fun r M' => r = some (vI T) ∧ M' = C) := by
      intro m
      induction m with
      | zero =>
        intro i s x8 hi hq
        obtain rfl : i = 24 := by omega
        have hq : (0 : Int32) = T := hq
        refine rn_iload (pc' := 33) rfl rfl rfl ?_
        refine rn_iload (pc' := 35) rfl rfl rfl ?_
        refine rn_ic_ge (t := 83) (pc' := 38) rfl rfl rfl (fun h1 => ?_) (fun h1 => ?_)
        · refine rn_iconst (pc' := 84) (v := 0) rfl rfl (by decide) ?_
          refine rn_ireturn rfl rfl ?_
          exact ⟨vI_c hq, rfl⟩
        · exact absurd ((lt24 (by omega)).mp h1) (by omega)
      | succ m ih =>
        intro i s x8 hi hq
        have hi24 : i < 24 := by omega
        have v0 : C.1 0 i 0 = R.1 25 0 i := f1 hI.1.1 hi24 (by decide)
        rw [show cdF R p (m + 1) i (w - nI s) = if 0 < rpid R i ∧ rpar R i = p then (if w - nI s = 0 then rpid R i else cdF R p m (i + 1) (w - nI s - 1)) else cdF R p m (i + 1) (w - nI s) from rfl] at hq
        rcases lv_or hI.2.2.1 hi24 with hz | hlk
        · rw [if_neg (fun q => by have := q.1; rw [show rpid R i = 0 from hz] at this; exact absurd this (by decide))] at hq
          have nx := ih (i + 1) s (some (vR 0 i)) (by omega) hq
          refine rn_iload (pc' := 33) rfl rfl rfl ?_
          refine rn_iload (pc' := 35) rfl rfl rfl ?_
          refine rn_ic_ge (t := 83) (pc' := 38) rfl rfl rfl (fun h1 => ?_) (fun h1 => ?_)
          · exact absurd ((lt24 (by omega)).mpr hi24) h1
          · refine rn_aload (pc' := 40) rfl rfl rfl ?_
            refine rn_iload (pc' := 42) rfl rfl rfl ?_
            refine rn_aaldF (t' := 0) (N := 1) (K := 24) (pc' := 43) rfl rfl rfl rfl rfl (by first | assumption | decide | omega) rfl (by decide) rfl (by first | assumption | decide | omega) ?_
            refine rn_astore (pc' := 45) rfl rfl rfl (Nat.le_of_ble_eq_true rfl) rfl ?_
            refine rn_aload (pc' := 47) rfl rfl rfl ?_
            refine rn_getI (N := 24) (pc' := 50) rfl rfl rfl rfl (by decide) rfl (by first | assumption | decide | omega) ?_
            refine rn_if_eq (t := 77) (pc' := 53) rfl rfl rfl (fun h2 => ?_) (fun h2 => ?_)
            · refine rn_iinc (pc' := 80) rfl rfl rfl (nI_inc _) rfl (Nat.le_of_ble_eq_true rfl) rfl ?_
              refine rn_goto (pc' := 31) rfl rfl ?_
              exact nx
            · exact absurd (v0.trans hz) h2
        · have hne : ¬ C.1 0 i 0 = 0 := by rw [v0]; exact fun q => by rw [q] at hlk; exact absurd hlk (by decide)
          by_cases hc : R.1 26 0 i = p
          · have hpi : C.2.2 0 i 1 = some e := (ch_iff hI e24 hl hi24 hlk).mpr (hc.trans hpe.symm)
            rw [if_pos ⟨hlk, hc⟩, i32_s1, nI_1] at hq
            by_cases hs : nI s = w
            · rw [if_pos ((i32_s0 _ _).mpr hs)] at hq
              have hq : R.1 25 0 i = T := hq
              refine rn_iload (pc' := 33) rfl rfl rfl ?_
              refine rn_iload (pc' := 35) rfl rfl rfl ?_
              refine rn_ic_ge (t := 83) (pc' := 38) rfl rfl rfl (fun h1 => ?_) (fun h1 => ?_)
              · exact absurd ((lt24 (by omega)).mpr hi24) h1
              · refine rn_aload (pc' := 40) rfl rfl rfl ?_
                refine rn_iload (pc' := 42) rfl rfl rfl ?_
                refine rn_aaldF (t' := 0) (N := 1) (K := 24) (pc' := 43) rfl rfl rfl rfl rfl (by first | assumption | decide | omega) rfl (by decide) rfl (by first | assumption | decide | omega) ?_
                refine rn_astore (pc' := 45) rfl rfl rfl (Nat.le_of_ble_eq_true rfl) rfl ?_
                refine rn_aload (pc' := 47) rfl rfl rfl ?_
                refine rn_getI (N := 24) (pc' := 50) rfl rfl rfl rfl (by decide) rfl (by first | assumption | decide | omega) ?_
                refine rn_if_eq (t := 77) (pc' := 53) rfl rfl rfl (fun h2 => ?_) (fun h2 => ?_)
                · first | exact absurd h2 hne | exact absurd rfl h3
                · refine rn_aload (pc' := 55) rfl rfl rfl ?_
                  refine rn_getV (N := 24) (t' := 0) (pc' := 58) rfl rfl rfl rfl (by decide) rfl (by first | assumption | decide | omega) ?_
                  refine rn_topO hpi ?_
                  refine rn_aload_n (pc' := 59) rfl rfl rfl ?_
                  refine rn_ac_ne (t := 77) (pc' := 62) rfl rfl rfl (decide_eq_true e24) (decide_eq_true e24) (fun h3 => ?_) (fun h3 => ?_)
                  · first | exact absurd h2 hne | exact absurd rfl h3
                  · refine rn_iload (pc' := 64) rfl rfl rfl ?_
                    refine rn_iload_n (pc' := 65) rfl rfl rfl ?_
                    refine rn_ic_ne (t := 74) (pc' := 68) rfl rfl rfl (fun h4 => ?_) (fun h4 => ?_)
                    · exact absurd hs h4
                    · refine rn_aload (pc' := 70) rfl rfl rfl ?_
                      refine rn_getI (N := 24) (pc' := 73) rfl rfl rfl rfl (by decide) rfl (by first | assumption | decide | omega) ?_
                      refine rn_ireturn rfl rfl ?_
                      exact ⟨vI_c (v0.trans hq), rfl⟩
            · rw [if_neg (fun z => hs ((i32_s0 _ _).mp z))] at hq
              have nx := ih (i + 1) (s + 1) (some (vR 0 i)) (by omega) hq
              refine rn_iload (pc' := 33) rfl rfl rfl ?_
              refine rn_iload (pc' := 35) rfl rfl rfl ?_
              refine rn_ic_ge (t := 83) (pc' := 38) rfl rfl rfl (fun h1 => ?_) (fun h1 => ?_)
              · exact absurd ((lt24 (by omega)).mpr hi24) h1
              · refine rn_aload (pc' := 40) rfl rfl rfl ?_
                refine rn_iload (pc' := 42) rfl rfl rfl ?_
                refine rn_aaldF (t' := 0) (N := 1) (K := 24) (pc' := 43) rfl rfl rfl rfl rfl (by first | assumption | decide | omega) rfl (by decide) rfl (by first | assumption | decide | omega) ?_
                refine rn_astore (pc' := 45) rfl rfl rfl (Nat.le_of_ble_eq_true rfl) rfl ?_
                refine rn_aload (pc' := 47) rfl rfl rfl ?_
                refine rn_getI (N := 24) (pc' := 50) rfl rfl rfl rfl (by decide) rfl (by first | assumption | decide | omega) ?_
                refine rn_if_eq (t := 77) (pc' := 53) rfl rfl rfl (fun h2 => ?_) (fun h2 => ?_)
                · first | exact absurd h2 hne | exact absurd rfl h3 | (refine rn_iinc (pc' := 80) rfl rfl rfl (nI_inc _) rfl (Nat.le_of_ble_eq_true rfl) rfl ?_; refine rn_goto (pc' := 31) rfl rfl ?_; exact nx)
                · refine rn_aload (pc' := 55) rfl rfl rfl ?_
                  refine rn_getV (N := 24) (t' := 0) (pc' := 58) rfl rfl rfl rfl (by decide) rfl (by first | assumption | decide | omega) ?_
                  refine rn_topO hpi ?_
                  refine rn_aload_n (pc' := 59) rfl rfl rfl ?_
                  refine rn_ac_ne (t := 77) (pc' := 62) rfl rfl rfl (decide_eq_true e24) (decide_eq_true e24) (fun h3 => ?_) (fun h3 => ?_)
                  · first | exact absurd h2 hne | exact absurd rfl h3 | (refine rn_iinc (pc' := 80) rfl rfl rfl (nI_inc _) rfl (Nat.le_of_ble_eq_true rfl) rfl ?_; refine rn_goto (pc' := 31) rfl rfl ?_; exact nx)
                  · refine rn_iload (pc' := 64) rfl rfl rfl ?_
                    refine rn_iload_n (pc' := 65) rfl rfl rfl ?_
                    refine rn_ic_ne (t := 74) (pc' := 68) rfl rfl rfl (fun h4 => ?_) (fun h4 => ?_)
                    · refine rn_iinc (pc' := 77) rfl rfl rfl (nI_inc _) rfl (Nat.le_of_ble_eq_true rfl) rfl ?_
                      first | exact absurd h2 hne | exact absurd rfl h3 | (refine rn_iinc (pc' := 80) rfl rfl rfl (nI_inc _) rfl (Nat.le_of_ble_eq_true rfl) rfl ?_; refine rn_goto (pc' := 31) rfl rfl ?_; exact nx)
                    · exact absurd h4 hs
          · rw [if_neg (fun q => hc q.2)] at hq
            have nx := ih (i + 1) s (some (vR 0 i)) (by omega) hq
            rcases hI.1.2.2.2.2.2.2.2.2.1 i hi24 hlk with ⟨q1, q2, q3⟩ | ⟨q1, q, q2, q3, q4, q5, q6, q7⟩
            · refine rn_iload (pc' := 33) rfl rfl rfl ?_
              refine rn_iload (pc' := 35) rfl rfl rfl ?_
              refine rn_ic_ge (t := 83) (pc' := 38) rfl rfl rfl (fun h1 => ?_) (fun h1 => ?_)
              · exact absurd ((lt24 (by omega)).mpr hi24) h1
              · refine rn_aload (pc' := 40) rfl rfl rfl ?_
                refine rn_iload (pc' := 42) rfl rfl rfl ?_
                refine rn_aaldF (t' := 0) (N := 1) (K := 24) (pc' := 43) rfl rfl rfl rfl rfl (by first | assumption | decide | omega) rfl (by decide) rfl (by first | assumption | decide | omega) ?_
                refine rn_astore (pc' := 45) rfl rfl rfl (Nat.le_of_ble_eq_true rfl) rfl ?_
                refine rn_aload (pc' := 47) rfl rfl rfl ?_
                refine rn_getI (N := 24) (pc' := 50) rfl rfl rfl rfl (by decide) rfl (by first | assumption | decide | omega) ?_
                refine rn_if_eq (t := 77) (pc' := 53) rfl rfl rfl (fun h2 => ?_) (fun h2 => ?_)
                · refine rn_iinc (pc' := 80) rfl rfl rfl (nI_inc _) rfl (Nat.le_of_ble_eq_true rfl) rfl ?_
                  refine rn_goto (pc' := 31) rfl rfl ?_
                  exact nx
                · refine rn_aload (pc' := 55) rfl rfl rfl ?_
                  refine rn_getV (N := 24) (t' := 0) (pc' := 58) rfl rfl rfl rfl (by decide) rfl (by first | assumption | decide | omega) ?_
                  refine rn_topO q2 ?_
                  refine rn_aload_n (pc' := 59) rfl rfl rfl ?_
                  refine rn_ac_ne (t := 77) (pc' := 62) rfl rfl rfl rfl (decide_eq_true e24) (fun h3 => ?_) (fun h3 => ?_)
                  · refine rn_iinc (pc' := 80) rfl rfl rfl (nI_inc _) rfl (Nat.le_of_ble_eq_true rfl) rfl ?_
                    refine rn_goto (pc' := 31) rfl rfl ?_
                    exact nx
                  · exact nomatch h3
            · have hqe : ¬ q = e := fun z => hc (((ch_iff hI e24 hl hi24 hlk).mp (by rw [← z]; exact q4)).trans hpe)
              refine rn_iload (pc' := 33) rfl rfl rfl ?_
              refine rn_iload (pc' := 35) rfl rfl rfl ?_
              refine rn_ic_ge (t := 83) (pc' := 38) rfl rfl rfl (fun h1 => ?_) (fun h1 => ?_)
              · exact absurd ((lt24 (by omega)).mpr hi24) h1
              · refine rn_aload (pc' := 40) rfl rfl rfl ?_
                refine rn_iload (pc' := 42) rfl rfl rfl ?_
                refine rn_aaldF (t' := 0) (N := 1) (K := 24) (pc' := 43) rfl rfl rfl rfl rfl (by first | assumption | decide | omega) rfl (by decide) rfl (by first | assumption | decide | omega) ?_
                refine rn_astore (pc' := 45) rfl rfl rfl (Nat.le_of_ble_eq_true rfl) rfl ?_
                refine rn_aload (pc' := 47) rfl rfl rfl ?_
                refine rn_getI (N := 24) (pc' := 50) rfl rfl rfl rfl (by decide) rfl (by first | assumption | decide | omega) ?_
                refine rn_if_eq (t := 77) (pc' := 53) rfl rfl rfl (fun h2 => ?_) (fun h2 => ?_)
                · refine rn_iinc (pc' := 80) rfl rfl rfl (nI_inc _) rfl (Nat.le_of_ble_eq_true rfl) rfl ?_
                  refine rn_goto (pc' := 31) rfl rfl ?_
                  exact nx
                · refine rn_aload (pc' := 55) rfl rfl rfl ?_
                  refine rn_getV (N := 24) (t' := 0) (pc' := 58) rfl rfl rfl rfl (by decide) rfl (by first | assumption | decide | omega) ?_
                  refine rn_topO q4 ?_
                  refine rn_aload_n (pc' := 59) rfl rfl rfl ?_
                  refine rn_ac_ne (t := 77) (pc' := 62) rfl rfl rfl (decide_eq_true q2) (decide_eq_true e24) (fun h3 => ?_) (fun h3 => ?_)
                  · refine rn_iinc (pc' := 80) rfl rfl rfl (nI_inc _) rfl (Nat.le_of_ble_eq_true rfl) rfl ?_
                    refine rn_goto (pc' := 31) rfl rfl ?_
                    exact nx
                  · (have hh := Option.some.inj h3; exact absurd (congrArg Prod.snd hh) hqe)
    have l0 := loop 24 0 0 none rfl (by rw [show w - nI 0 = w from Int32.sub_zero w]; exact hTT.symm)
    show Rn _ 63 (0, [some (vR 9 0), some (vI p), some (vI w), none, none, none, none, none, none], [], _) _
    refine rn_aload_n (pc' := 1) rfl rfl rfl ?_
    refine rn_iload_n (pc' := 2) rfl rfl rfl ?_
    refine rn_callV (pc' := 5) (as := [_]) rfl rfl rfl ⟨Nat.le_of_ble_eq_true rfl, rfl, rfl⟩ rfl (by first | assumption | decide | omega) (Nat.le_of_ble_eq_true rfl) (Nat.le_of_ble_eq_true rfl) rfl hf (fun r1 M1 hz => ?_)
    obtain ⟨rfl, hm_⟩ := hz
    refine rn_mem hm_ ?_
    clear hm_
    refine rn_astore_n (pc' := 6) rfl rfl rfl (Nat.le_of_ble_eq_true rfl) rfl ?_
    refine rn_aload_n (pc' := 7) rfl rfl rfl ?_
    refine rn_ifnonnull (t := 14) (pc' := 10) rfl rfl rfl (fun h7 => ?_) (fun h7 => ?_)
    · refine rn_iconst (pc' := 15) (v := 0) rfl rfl (by decide) ?_
      refine rn_istore (pc' := 17) rfl rfl rfl (Nat.le_of_ble_eq_true rfl) rfl ?_
      refine rn_aload_n (pc' := 18) rfl rfl rfl ?_
      refine rn_getF (N := 1) (t' := 11) (pc' := 21) rfl rfl rfl rfl rfl (by first | assumption | decide | omega) ?_
      refine rn_astore (pc' := 23) rfl rfl rfl (Nat.le_of_ble_eq_true rfl) rfl ?_
      refine rn_aload (pc' := 25) rfl rfl rfl ?_
      refine rn_alen (N := 1) (K := 24) (pc' := 26) (v := 24) rfl rfl rfl rfl (by first | assumption | decide | omega) rfl rfl ?_
      refine rn_istore (pc' := 28) rfl rfl rfl (Nat.le_of_ble_eq_true rfl) rfl ?_
      refine rn_iconst (pc' := 29) (v := 0) rfl rfl (by decide) ?_
      refine rn_istore (pc' := 31) rfl rfl rfl (Nat.le_of_ble_eq_true rfl) rfl ?_
      exact l0
    · exact nomatch h7
theorem mb_t {M : xM} {q : Nat → Bool} {i : Nat} (h : q i = true) : mbF M q i + Int32.ofInt 1 = mbF M q (i + 1) := by
  show _ = mbF M q i + bI (q i)
  rw [h]; rfl
theorem mb_f {M : xM} {q : Nat → Bool} {i : Nat} (h : q i = false) : mbF M q (i + 1) = mbF M q i := by
  show mbF M q i + bI (q i) = _
  rw [h]
  exact Int32.add_zero _
theorem c_members {d : Nat} {C R : xM} (g : Int32) (q : Nat → Bool) (hq : ∀ k, k < 24 → (q k = true ↔ ¬ C.1 0 k 0 = 0 ∧ C.1 0 k 2 = g)) : Rn d 64 (0, xen 64 [vR 9 0, vI g], [], C) (fun r M' => r = some (vI (mbF R q 24)) ∧ M' = C) := by
  have loop : ∀ (m i : Nat) (x : Int32) (x6 : Option xV), i + m = 24 → x = mbF R q i → Rn d 64 (14, [some (vR 9 0), some (vI g), some (vI x), some (vR 11 0), some (vI 24), some (vI (nI i)), x6], [], C) (fun r M' => r = some (vI (mbF R q 24)) ∧ M' = C) := by
    intro m
    induction m with
    | zero =>
      intro i x x6 hi hx
      obtain rfl : i = 24 := by omega
      refine rn_iload (pc' := 16) rfl rfl rfl ?_
      refine rn_iload (pc' := 18) rfl rfl rfl ?_
      refine rn_ic_ge (t := 53) (pc' := 21) rfl rfl rfl (fun h1 => ?_) (fun h1 => ?_)
      · refine rn_iload_n (pc' := 54) rfl rfl rfl ?_
        refine rn_ireturn rfl rfl ?_
        exact ⟨vI_c hx, rfl⟩
      · exact absurd ((lt24 (by omega)).mp h1) (by omega)
    | succ m ih =>
      intro i x x6 hi hx
      have hi24 : i < 24 := by omega
      by_cases hc : q i = true
      · obtain ⟨c1, c2⟩ := (hq i hi24).mp hc
        have hx1 : x + Int32.ofInt 1 = mbF R q (i + 1) := by rw [hx]; exact mb_t hc
        have nx := ih (i + 1) _ (some (vR 0 i)) (by omega) rfl
        refine rn_iload (pc' := 16) rfl rfl rfl ?_
        refine rn_iload (pc' := 18) rfl rfl rfl ?_
        refine rn_ic_ge (t := 53) (pc' := 21) rfl rfl rfl (fun h1 => ?_) (fun h1 => ?_)
        · exact absurd ((lt24 (by omega)).mpr hi24) h1
        · refine rn_aload_n (pc' := 22) rfl rfl rfl ?_
          refine rn_iload (pc' := 24) rfl rfl rfl ?_
          refine rn_aaldF (t' := 0) (N := 1) (K := 24) (pc' := 25) rfl rfl rfl rfl rfl (by first | assumption | decide | omega) rfl (by decide) rfl (by first | assumption | decide | omega) ?_
          refine rn_astore (pc' := 27) rfl rfl rfl (Nat.le_of_ble_eq_true rfl) rfl ?_
          refine rn_aload (pc' := 29) rfl rfl rfl ?_
          refine rn_getI (N := 24) (pc' := 32) rfl rfl rfl rfl (by decide) rfl (by first | assumption | decide | omega) ?_
          refine rn_if_eq (t := 47) (pc' := 35) rfl rfl rfl (fun h2 => ?_) (fun h2 => ?_)
          · first | exact absurd h2 c1 | exact absurd c2 h3 | (refine rn_iinc (pc' := 50) rfl rfl rfl (nI_inc _) rfl (Nat.le_of_ble_eq_true rfl) rfl ?_; refine rn_goto (pc' := 14) rfl rfl ?_; exact nx)
          · refine rn_aload (pc' := 37) rfl rfl rfl ?_
            refine rn_getI (N := 24) (pc' := 40) rfl rfl rfl rfl (by decide) rfl (by first | assumption | decide | omega) ?_
            refine rn_iload_n (pc' := 41) rfl rfl rfl ?_
            refine rn_ic_ne (t := 47) (pc' := 44) rfl rfl rfl (fun h3 => ?_) (fun h3 => ?_)
            · first | exact absurd h2 c1 | exact absurd c2 h3 | (refine rn_iinc (pc' := 50) rfl rfl rfl (nI_inc _) rfl (Nat.le_of_ble_eq_true rfl) rfl ?_; refine rn_goto (pc' := 14) rfl rfl ?_; exact nx)
            · refine rn_iinc (pc' := 47) rfl rfl rfl hx1 rfl (Nat.le_of_ble_eq_true rfl) rfl ?_
              first | exact absurd h2 c1 | exact absurd c2 h3 | (refine rn_iinc (pc' := 50) rfl rfl rfl (nI_inc _) rfl (Nat.le_of_ble_eq_true rfl) rfl ?_; refine rn_goto (pc' := 14) rfl rfl ?_; exact nx)
      · have hf : q i = false := by cases hh : q i with | true => exact absurd hh hc | false => rfl
        have nx := ih (i + 1) x (some (vR 0 i)) (by omega) (by rw [mb_f hf]; exact hx)
        refine rn_iload (pc' := 16) rfl rfl rfl ?_
        refine rn_iload (pc' := 18) rfl rfl rfl ?_
        refine rn_ic_ge (t := 53) (pc' := 21) rfl rfl rfl (fun h1 => ?_) (fun h1 => ?_)
        · exact absurd ((lt24 (by omega)).mpr hi24) h1
        · refine rn_aload_n (pc' := 22) rfl rfl rfl ?_
          refine rn_iload (pc' := 24) rfl rfl rfl ?_
          refine rn_aaldF (t' := 0) (N := 1) (K := 24) (pc' := 25) rfl rfl rfl rfl rfl (by first | assumption | decide | omega) rfl (by decide) rfl (by first | assumption | decide | omega) ?_
          refine rn_astore (pc' := 27) rfl rfl rfl (Nat.le_of_ble_eq_true rfl) rfl ?_
          refine rn_aload (pc' := 29) rfl rfl rfl ?_
          refine rn_getI (N := 24) (pc' := 32) rfl rfl rfl rfl (by decide) rfl (by first | assumption | decide | omega) ?_
          refine rn_if_eq (t := 47) (pc' := 35) rfl rfl rfl (fun h2 => ?_) (fun h2 => ?_)
          · refine rn_iinc (pc' := 50) rfl rfl rfl (nI_inc _) rfl (Nat.le_of_ble_eq_true rfl) rfl ?_
            refine rn_goto (pc' := 14) rfl rfl ?_
            exact nx
          · refine rn_aload (pc' := 37) rfl rfl rfl ?_
            refine rn_getI (N := 24) (pc' := 40) rfl rfl rfl rfl (by decide) rfl (by first | assumption | decide | omega) ?_
            refine rn_iload_n (pc' := 41) rfl rfl rfl ?_
            refine rn_ic_ne (t := 47) (pc' := 44) rfl rfl rfl (fun h3 => ?_) (fun h3 => ?_)
            · refine rn_iinc (pc' := 50) rfl rfl rfl (nI_inc _) rfl (Nat.le_of_ble_eq_true rfl) rfl ?_
              refine rn_goto (pc' := 14) rfl rfl ?_
              exact nx
            · exact absurd ((hq i hi24).mpr ⟨h2, h3⟩) hc
  show Rn _ 64 (0, [some (vR 9 0), some (vI g), none, none, none, none, none], [], _) _
  refine rn_iconst (pc' := 1) (v := 0) rfl rfl (by decide) ?_
  refine rn_istore_n (pc' := 2) rfl rfl rfl (Nat.le_of_ble_eq_true rfl) rfl ?_
  refine rn_aload_n (pc' := 3) rfl rfl rfl ?_
  refine rn_getF (N := 1) (t' := 11) (pc' := 6) rfl rfl rfl rfl rfl (by first | assumption | decide | omega) ?_
  refine rn_astore_n (pc' := 7) rfl rfl rfl (Nat.le_of_ble_eq_true rfl) rfl ?_
  refine rn_aload_n (pc' := 8) rfl rfl rfl ?_
  refine rn_alen (N := 1) (K := 24) (pc' := 9) (v := 24) rfl rfl rfl rfl (by first | assumption | decide | omega) rfl rfl ?_
  refine rn_istore (pc' := 11) rfl rfl rfl (Nat.le_of_ble_eq_true rfl) rfl ?_
  refine rn_iconst (pc' := 12) (v := 0) rfl rfl (by decide) ?_
  refine rn_istore (pc' := 14) rfl rfl rfl (Nat.le_of_ble_eq_true rfl) rfl ?_
  exact loop 24 0 0 none rfl rfl
theorem c_countInState {d : Nat} {C R : xM} (g : Int32) (q : Nat → Bool) (hq : ∀ k, k < 24 → (q k = true ↔ ¬ C.1 0 k 0 = 0 ∧ C.1 0 k 3 = g)) : Rn d 68 (0, xen 68 [vR 9 0, vI g], [], C) (fun r M' => r = some (vI (mbF R q 24)) ∧ M' = C) := by
  have loop : ∀ (m i : Nat) (x : Int32) (x6 : Option xV), i + m = 24 → x = mbF R q i → Rn d 68 (14, [some (vR 9 0), some (vI g), some (vI x), some (vR 11 0), some (vI 24), some (vI (nI i)), x6], [], C) (fun r M' => r = some (vI (mbF R q 24)) ∧ M' = C) := by
    intro m
    induction m with
    | zero =>
      intro i x x6 hi hx
      obtain rfl : i = 24 := by omega
      refine rn_iload (pc' := 16) rfl rfl rfl ?_
      refine rn_iload (pc' := 18) rfl rfl rfl ?_
      refine rn_ic_ge (t := 53) (pc' := 21) rfl rfl rfl (fun h1 => ?_) (fun h1 => ?_)
      · refine rn_iload_n (pc' := 54) rfl rfl rfl ?_
        refine rn_ireturn rfl rfl ?_
        exact ⟨vI_c hx, rfl⟩
      · exact absurd ((lt24 (by omega)).mp h1) (by omega)
    | succ m ih =>
      intro i x x6 hi hx
      have hi24 : i < 24 := by omega
      by_cases hc : q i = true
      · obtain ⟨c1, c2⟩ := (hq i hi24).mp hc
        have hx1 : x + Int32.ofInt 1 = mbF R q (i + 1) := by rw [hx]; exact mb_t hc
        have nx := ih (i + 1) _ (some (vR 0 i)) (by omega) rfl
        refine rn_iload (pc' := 16) rfl rfl rfl ?_
        refine rn_iload (pc' := 18) rfl rfl rfl ?_
        refine rn_ic_ge (t := 53) (pc' := 21) rfl rfl rfl (fun h1 => ?_) (fun h1 => ?_)
        · exact absurd ((lt24 (by omega)).mpr hi24) h1
        · refine rn_aload_n (pc' := 22) rfl rfl rfl ?_
          refine rn_iload (pc' := 24) rfl rfl rfl ?_
          refine rn_aaldF (t' := 0) (N := 1) (K := 24) (pc' := 25) rfl rfl rfl rfl rfl (by first | assumption | decide | omega) rfl (by decide) rfl (by first | assumption | decide | omega) ?_
          refine rn_astore (pc' := 27) rfl rfl rfl (Nat.le_of_ble_eq_true rfl) rfl ?_
          refine rn_aload (pc' := 29) rfl rfl rfl ?_
          refine rn_getI (N := 24) (pc' := 32) rfl rfl rfl rfl (by decide) rfl (by first | assumption | decide | omega) ?_
          refine rn_if_eq (t := 47) (pc' := 35) rfl rfl rfl (fun h2 => ?_) (fun h2 => ?_)
          · first | exact absurd h2 c1 | exact absurd c2 h3 | (refine rn_iinc (pc' := 50) rfl rfl rfl (nI_inc _) rfl (Nat.le_of_ble_eq_true rfl) rfl ?_; refine rn_goto (pc' := 14) rfl rfl ?_; exact nx)
          · refine rn_aload (pc' := 37) rfl rfl rfl ?_
            refine rn_getI (N := 24) (pc' := 40) rfl rfl rfl rfl (by decide) rfl (by first | assumption | decide | omega) ?_
            refine rn_iload_n (pc' := 41) rfl rfl rfl ?_
            refine rn_ic_ne (t := 47) (pc' := 44) rfl rfl rfl (fun h3 => ?_) (fun h3 => ?_)
            · first | exact absurd h2 c1 | exact absurd c2 h3 | (refine rn_iinc (pc' := 50) rfl rfl rfl (nI_inc _) rfl (Nat.le_of_ble_eq_true rfl) rfl ?_; refine rn_goto (pc' := 14) rfl rfl ?_; exact nx)
            · refine rn_iinc (pc' := 47) rfl rfl rfl hx1 rfl (Nat.le_of_ble_eq_true rfl) rfl ?_
              first | exact absurd h2 c1 | exact absurd c2 h3 | (refine rn_iinc (pc' := 50) rfl rfl rfl (nI_inc _) rfl (Nat.le_of_ble_eq_true rfl) rfl ?_; refine rn_goto (pc' := 14) rfl rfl ?_; exact nx)
      · have hf : q i = false := by cases hh : q i with | true => exact absurd hh hc | false => rfl
        have nx := ih (i + 1) x (some (vR 0 i)) (by omega) (by rw [mb_f hf]; exact hx)
        refine rn_iload (pc' := 16) rfl rfl rfl ?_
        refine rn_iload (pc' := 18) rfl rfl rfl ?_
        refine rn_ic_ge (t := 53) (pc' := 21) rfl rfl rfl (fun h1 => ?_) (fun h1 => ?_)
        · exact absurd ((lt24 (by omega)).mpr hi24) h1
        · refine rn_aload_n (pc' := 22) rfl rfl rfl ?_
          refine rn_iload (pc' := 24) rfl rfl rfl ?_
          refine rn_aaldF (t' := 0) (N := 1) (K := 24) (pc' := 25) rfl rfl rfl rfl rfl (by first | assumption | decide | omega) rfl (by decide) rfl (by first | assumption | decide | omega) ?_
          refine rn_astore (pc' := 27) rfl rfl rfl (Nat.le_of_ble_eq_true rfl) rfl ?_
          refine rn_aload (pc' := 29) rfl rfl rfl ?_
          refine rn_getI (N := 24) (pc' := 32) rfl rfl rfl rfl (by decide) rfl (by first | assumption | decide | omega) ?_
          refine rn_if_eq (t := 47) (pc' := 35) rfl rfl rfl (fun h2 => ?_) (fun h2 => ?_)
          · refine rn_iinc (pc' := 50) rfl rfl rfl (nI_inc _) rfl (Nat.le_of_ble_eq_true rfl) rfl ?_
            refine rn_goto (pc' := 14) rfl rfl ?_
            exact nx
          · refine rn_aload (pc' := 37) rfl rfl rfl ?_
            refine rn_getI (N := 24) (pc' := 40) rfl rfl rfl rfl (by decide) rfl (by first | assumption | decide | omega) ?_
            refine rn_iload_n (pc' := 41) rfl rfl rfl ?_
            refine rn_ic_ne (t := 47) (pc' := 44) rfl rfl rfl (fun h3 => ?_) (fun h3 => ?_)
            · refine rn_iinc (pc' := 50) rfl rfl rfl (nI_inc _) rfl (Nat.le_of_ble_eq_true rfl) rfl ?_
              refine rn_goto (pc' := 14) rfl rfl ?_
              exact nx
            · exact absurd ((hq i hi24).mpr ⟨h2, h3⟩) hc
  show Rn _ 68 (0, [some (vR 9 0), some (vI g), none, none, none, none, none], [], _) _
  refine rn_iconst (pc' := 1) (v := 0) rfl rfl (by decide) ?_
  refine rn_istore_n (pc' := 2) rfl rfl rfl (Nat.le_of_ble_eq_true rfl) rfl ?_
  refine rn_aload_n (pc' := 3) rfl rfl rfl ?_
  refine rn_getF (N := 1) (t' := 11) (pc' := 6) rfl rfl rfl rfl rfl (by first | assumption | decide | omega) ?_
  refine rn_astore_n (pc' := 7) rfl rfl rfl (Nat.le_of_ble_eq_true rfl) rfl ?_
  refine rn_aload_n (pc' := 8) rfl rfl rfl ?_
  refine rn_alen (N := 1) (K := 24) (pc' := 9) (v := 24) rfl rfl rfl rfl (by first | assumption | decide | omega) rfl rfl ?_
  refine rn_istore (pc' := 11) rfl rfl rfl (Nat.le_of_ble_eq_true rfl) rfl ?_
  refine rn_iconst (pc' := 12) (v := 0) rfl rfl (by decide) ?_
  refine rn_istore (pc' := 14) rfl rfl rfl (Nat.le_of_ble_eq_true rfl) rfl ?_
  exact loop 24 0 0 none rfl rfl
theorem c_countProcesses {d : Nat} {C R : xM} (q : Nat → Bool) (hq : ∀ k, k < 24 → (q k = true ↔ ¬ C.1 0 k 0 = 0)) : Rn d 67 (0, xen 67 [vR 9 0], [], C) (fun r M' => r = some (vI (mbF R q 24)) ∧ M' = C) := by
  have loop : ∀ (m i : Nat) (x : Int32) (x6 : Option xV), i + m = 24 → x = mbF R q i → Rn d 67 (13, [some (vR 9 0), some (vI x), some (vR 11 0), some (vI 24), some (vI (nI i)), x6], [], C) (fun r M' => r = some (vI (mbF R q 24)) ∧ M' = C) := by
    intro m
    induction m with
    | zero =>
      intro i x x6 hi hx
      obtain rfl : i = 24 := by omega
      refine rn_iload (pc' := 15) rfl rfl rfl ?_
      refine rn_iload_n (pc' := 16) rfl rfl rfl ?_
      refine rn_ic_ge (t := 42) (pc' := 19) rfl rfl rfl (fun h1 => ?_) (fun h1 => ?_)
      · refine rn_iload_n (pc' := 43) rfl rfl rfl ?_
        refine rn_ireturn rfl rfl ?_
        exact ⟨vI_c hx, rfl⟩
      · exact absurd ((lt24 (by omega)).mp h1) (by omega)
    | succ m ih =>
      intro i x x6 hi hx
      have hi24 : i < 24 := by omega
      by_cases hc : q i = true
      · have c1 := (hq i hi24).mp hc
        have hx1 : x + Int32.ofInt 1 = mbF R q (i + 1) := by rw [hx]; exact mb_t hc
        have nx := ih (i + 1) _ (some (vR 0 i)) (by omega) rfl
        refine rn_iload (pc' := 15) rfl rfl rfl ?_
        refine rn_iload_n (pc' := 16) rfl rfl rfl ?_
        refine rn_ic_ge (t := 42) (pc' := 19) rfl rfl rfl (fun h1 => ?_) (fun h1 => ?_)
        · exact absurd ((lt24 (by omega)).mpr hi24) h1
        · refine rn_aload_n (pc' := 20) rfl rfl rfl ?_
          refine rn_iload (pc' := 22) rfl rfl rfl ?_
          refine rn_aaldF (t' := 0) (N := 1) (K := 24) (pc' := 23) rfl rfl rfl rfl rfl (by first | assumption | decide | omega) rfl (by decide) rfl (by first | assumption | decide | omega) ?_
          refine rn_astore (pc' := 25) rfl rfl rfl (Nat.le_of_ble_eq_true rfl) rfl ?_
          refine rn_aload (pc' := 27) rfl rfl rfl ?_
          refine rn_getI (N := 24) (pc' := 30) rfl rfl rfl rfl (by decide) rfl (by first | assumption | decide | omega) ?_
          refine rn_if_eq (t := 36) (pc' := 33) rfl rfl rfl (fun h2 => ?_) (fun h2 => ?_)
          · first | exact absurd h2 c1 | (refine rn_iinc (pc' := 39) rfl rfl rfl (nI_inc _) rfl (Nat.le_of_ble_eq_true rfl) rfl ?_; refine rn_goto (pc' := 13) rfl rfl ?_; exact nx)
          · refine rn_iinc (pc' := 36) rfl rfl rfl hx1 rfl (Nat.le_of_ble_eq_true rfl) rfl ?_
            first | exact absurd h2 c1 | (refine rn_iinc (pc' := 39) rfl rfl rfl (nI_inc _) rfl (Nat.le_of_ble_eq_true rfl) rfl ?_; refine rn_goto (pc' := 13) rfl rfl ?_; exact nx)
      · have hf : q i = false := by cases hh : q i with | true => exact absurd hh hc | false => rfl
        have nx := ih (i + 1) x (some (vR 0 i)) (by omega) (by rw [mb_f hf]; exact hx)
        refine rn_iload (pc' := 15) rfl rfl rfl ?_
        refine rn_iload_n (pc' := 16) rfl rfl rfl ?_
        refine rn_ic_ge (t := 42) (pc' := 19) rfl rfl rfl (fun h1 => ?_) (fun h1 => ?_)
        · exact absurd ((lt24 (by omega)).mpr hi24) h1
        · refine rn_aload_n (pc' := 20) rfl rfl rfl ?_
          refine rn_iload (pc' := 22) rfl rfl rfl ?_
          refine rn_aaldF (t' := 0) (N := 1) (K := 24) (pc' := 23) rfl rfl rfl rfl rfl (by first | assumption | decide | omega) rfl (by decide) rfl (by first | assumption | decide | omega) ?_
          refine rn_astore (pc' := 25) rfl rfl rfl (Nat.le_of_ble_eq_true rfl) rfl ?_
          refine rn_aload (pc' := 27) rfl rfl rfl ?_
          refine rn_getI (N := 24) (pc' := 30) rfl rfl rfl rfl (by decide) rfl (by first | assumption | decide | omega) ?_
          refine rn_if_eq (t := 36) (pc' := 33) rfl rfl rfl (fun h2 => ?_) (fun h2 => ?_)
          · refine rn_iinc (pc' := 39) rfl rfl rfl (nI_inc _) rfl (Nat.le_of_ble_eq_true rfl) rfl ?_
            refine rn_goto (pc' := 13) rfl rfl ?_
            exact nx
          · exact absurd ((hq i hi24).mpr h2) hc
  show Rn _ 67 (0, [some (vR 9 0), none, none, none, none, none], [], _) _
  refine rn_iconst (pc' := 1) (v := 0) rfl rfl (by decide) ?_
  refine rn_istore_n (pc' := 2) rfl rfl rfl (Nat.le_of_ble_eq_true rfl) rfl ?_
  refine rn_aload_n (pc' := 3) rfl rfl rfl ?_
  refine rn_getF (N := 1) (t' := 11) (pc' := 6) rfl rfl rfl rfl rfl (by first | assumption | decide | omega) ?_
  refine rn_astore_n (pc' := 7) rfl rfl rfl (Nat.le_of_ble_eq_true rfl) rfl ?_
  refine rn_aload_n (pc' := 8) rfl rfl rfl ?_
  refine rn_alen (N := 1) (K := 24) (pc' := 9) (v := 24) rfl rfl rfl rfl (by first | assumption | decide | omega) rfl rfl ?_
  refine rn_istore_n (pc' := 10) rfl rfl rfl (Nat.le_of_ble_eq_true rfl) rfl ?_
  refine rn_iconst (pc' := 11) (v := 0) rfl rfl (by decide) ?_
  refine rn_istore (pc' := 13) rfl rfl rfl (Nat.le_of_ble_eq_true rfl) rfl ?_
  exact loop 24 0 0 none rfl rfl
theorem pid_iff {C R : xM} (hI : Inv C R 0) {k : Nat} (hk : k < 24) : 0 < R.1 25 0 k ↔ ¬ C.1 0 k 0 = 0 := by
  rw [f1 hI.1.1 hk (k := 0) (t := 25) (by decide)]
  rcases lv_or hI.2.2.1 hk with hz | hl
  · rw [hz]; decide
  · exact ⟨fun _ q => by rw [q] at hl; exact absurd hl (by decide), fun _ => hl⟩
theorem same_members {t : Nat} {C R : xM} (g : Int32) (h : GI t C R) : Same 64 105 [vI g] t C R := by
  refine Same.q h (r_members R g) (c_members g _ (fun k hk => ?_))
  rw [f1 h.1.1.1 hk (k := 2) (t := 27) (by decide), ← pid_iff h.1 hk]
  simp [rpid, rgrp]
section
variable {M : xM} {w : Int32}
theorem ct0 (h : w.toInt = 0) : ctV M w = mbF M (fun k => decide (0 < rpid M k) && (decide ((-1 : Int32) < 0) || decide (rste M k = -1))) 24 := by unfold ctV; rw [if_pos h]
theorem ct1 (h : w.toInt = 1) : ctV M w = mbF M (fun k => decide (0 < rpid M k) && (decide ((4 : Int32) < 0) || decide (rste M k = 4))) 24 := by unfold ctV; rw [if_neg (by omega), if_pos h]
theorem ct2 (h : w.toInt = 2) : ctV M w = mbF M (fun k => decide (0 < rpid M k) && (decide ((0 : Int32) < 0) || decide (rste M k = 0))) 24 := by unfold ctV; rw [if_neg (by omega), if_neg (by omega), if_pos h]
theorem ct3 (h : w.toInt = 3) : ctV M w = M.1 20 0 26 := by unfold ctV; rw [if_neg (by omega), if_neg (by omega), if_neg (by omega), if_pos h]
theorem ct4 (h : w.toInt = 4) : ctV M w = M.1 20 0 34 := by unfold ctV; rw [if_neg (by omega), if_neg (by omega), if_neg (by omega), if_neg (by omega), if_pos h]
theorem ct5 (h : w.toInt = 5) : ctV M w = M.1 20 0 35 := by unfold ctV; rw [if_neg (by omega), if_neg (by omega), if_neg (by omega), if_neg (by omega), if_neg (by omega), if_pos h]
theorem ct6 (h : w.toInt = 6) : ctV M w = M.1 20 0 36 := by unfold ctV; rw [if_neg (by omega), if_neg (by omega), if_neg (by omega), if_neg (by omega), if_neg (by omega), if_neg (by omega), if_pos h]
theorem ct7 (h : w.toInt = 7) : ctV M w = M.1 20 0 37 := by unfold ctV; rw [if_neg (by omega), if_neg (by omega), if_neg (by omega), if_neg (by omega), if_neg (by omega), if_neg (by omega), if_neg (by omega), if_pos h]
theorem ct8 (h : w.toInt = 8) : ctV M w = M.1 20 0 38 := by unfold ctV; rw [if_neg (by omega), if_neg (by omega), if_neg (by omega), if_neg (by omega), if_neg (by omega), if_neg (by omega), if_neg (by omega), if_neg (by omega), if_pos h]
theorem ct9 (h : w.toInt = 9) : ctV M w = M.1 20 0 39 := by unfold ctV; rw [if_neg (by omega), if_neg (by omega), if_neg (by omega), if_neg (by omega), if_neg (by omega), if_neg (by omega), if_neg (by omega), if_neg (by omega), if_neg (by omega), if_pos h]
theorem ctN (h : w.toInt < 0 ∨ 9 < w.toInt) : ctV M w = -1002 := by
  unfold ctV
  rw [if_neg (by omega), if_neg (by omega), if_neg (by omega), if_neg (by omega), if_neg (by omega), if_neg (by omega), if_neg (by omega), if_neg (by omega), if_neg (by omega), if_neg (by omega)]
end
theorem same_count {t : Nat} {C R : xM} (w : Int32) (h : GI t C R) : Same 66 108 [vI w] t C R := by
  obtain ⟨hI, h30, hT⟩ := id h
  have s := A10_l.mp hI.1.2.2.2.2.2.2.2.2.2.1
  have v10 : C.1 9 0 10 = R.1 20 0 26 := s (10, 26) (by decide)
  have v13 : C.1 9 0 13 = R.1 20 0 34 := s (13, 34) (by decide)
  have v14 : C.1 9 0 14 = R.1 20 0 35 := s (14, 35) (by decide)
  have v15 : C.1 9 0 15 = R.1 20 0 36 := s (15, 36) (by decide)
  have v16 : C.1 9 0 16 = R.1 20 0 37 := s (16, 37) (by decide)
  have v17 : C.1 9 0 17 = R.1 20 0 38 := s (17, 38) (by decide)
  have v18 : C.1 9 0 18 = R.1 20 0 39 := s (18, 39) (by decide)
  have c0 := c_countProcesses (d := 6) (C := C) (R := R) (fun k => decide (0 < rpid R k) && (decide ((-1 : Int32) < 0) || decide (rste R k = -1))) (fun k hk => by
    rw [← pid_iff hI hk, show decide ((-1 : Int32) < 0) = true from by decide]
    simp [rpid])
  have c4 := c_countInState (d := 6) (C := C) (R := R) 4 (fun k => decide (0 < rpid R k) && (decide ((4 : Int32) < 0) || decide (rste R k = 4))) (fun k hk => by
    rw [← pid_iff hI hk, f1 hI.1.1 hk (k := 3) (t := 28) (by decide), show decide ((4 : Int32) < 0) = false from by decide]
    simp [rpid, rste])
  have c1 := c_countInState (d := 6) (C := C) (R := R) 0 (fun k => decide (0 < rpid R k) && (decide ((0 : Int32) < 0) || decide (rste R k = 0))) (fun k hk => by
    rw [← pid_iff hI hk, f1 hI.1.1 hk (k := 3) (t := 28) (by decide), show decide ((0 : Int32) < 0) = false from by decide]
    simp [rpid, rste])
  refine Same.q h (r_count R w) ?_
  show Rn _ 66 (0, [some (vR 9 0), some (vI w)], [], _) _
  refine rn_iload_n (pc' := 1) rfl rfl rfl ?_
  rcases x_sw w (0) 10 with hw | ⟨k_, hk_, hw⟩
  · refine rn_swOut (t := 108) rfl (by omega) rfl ?_
    refine rn_sipush (pc' := 111) (v := (-1002)) rfl rfl (by decide) ?_
    refine rn_ireturn rfl rfl ?_
    exact ⟨vI_c (ctN (by omega)).symm, rfl⟩
  · rcases (show k_ = 0 ∨ k_ = 1 ∨ k_ = 2 ∨ k_ = 3 ∨ k_ = 4 ∨ k_ = 5 ∨ k_ = 6 ∨ k_ = 7 ∨ k_ = 8 ∨ k_ = 9 by omega) with rfl | rfl | rfl | rfl | rfl | rfl | rfl | rfl | rfl | rfl
    · refine rn_swIn (k := 0) (t := 56) rfl hw (by decide) rfl rfl ?_
      refine rn_aload_n (pc' := 57) rfl rfl rfl ?_
      refine rn_callV (pc' := 60) (as := []) rfl rfl rfl ⟨Nat.le_of_ble_eq_true rfl, rfl, rfl⟩ rfl (by first | assumption | decide | omega) (Nat.le_of_ble_eq_true rfl) (Nat.le_of_ble_eq_true rfl) rfl c0 (fun r2 M2 hz => ?_)
      obtain ⟨rfl, hm_⟩ := hz
      refine rn_mem hm_ ?_
      clear hm_
      refine rn_ireturn rfl rfl ?_
      exact ⟨vI_c (ct0 (by omega)).symm, rfl⟩
    · refine rn_swIn (k := 1) (t := 61) rfl hw (by decide) rfl rfl ?_
      refine rn_aload_n (pc' := 62) rfl rfl rfl ?_
      refine rn_iconst (pc' := 63) (v := 4) rfl rfl (by decide) ?_
      refine rn_callV (pc' := 66) (as := [_]) rfl rfl rfl ⟨Nat.le_of_ble_eq_true rfl, rfl, rfl⟩ rfl (by first | assumption | decide | omega) (Nat.le_of_ble_eq_true rfl) (Nat.le_of_ble_eq_true rfl) rfl c4 (fun r2 M2 hz => ?_)
      obtain ⟨rfl, hm_⟩ := hz
      refine rn_mem hm_ ?_
      clear hm_
      refine rn_ireturn rfl rfl ?_
      exact ⟨vI_c (ct1 (by omega)).symm, rfl⟩
    · refine rn_swIn (k := 2) (t := 67) rfl hw (by decide) rfl rfl ?_
      refine rn_aload_n (pc' := 68) rfl rfl rfl ?_
      refine rn_iconst (pc' := 69) (v := 0) rfl rfl (by decide) ?_
      refine rn_callV (pc' := 72) (as := [_]) rfl rfl rfl ⟨Nat.le_of_ble_eq_true rfl, rfl, rfl⟩ rfl (by first | assumption | decide | omega) (Nat.le_of_ble_eq_true rfl) (Nat.le_of_ble_eq_true rfl) rfl c1 (fun r2 M2 hz => ?_)
      obtain ⟨rfl, hm_⟩ := hz
      refine rn_mem hm_ ?_
      clear hm_
      refine rn_ireturn rfl rfl ?_
      exact ⟨vI_c (ct2 (by omega)).symm, rfl⟩
    · refine rn_swIn (k := 3) (t := 73) rfl hw (by decide) rfl rfl ?_
      refine rn_aload_n (pc' := 74) rfl rfl rfl ?_
      refine rn_getI (N := 1) (pc' := 77) rfl rfl rfl rfl (by decide) rfl (by first | assumption | decide | omega) ?_
      refine rn_ireturn rfl rfl ?_
      exact ⟨vI_c (v10.trans (ct3 (by omega)).symm), rfl⟩
    · refine rn_swIn (k := 4) (t := 78) rfl hw (by decide) rfl rfl ?_
      refine rn_aload_n (pc' := 79) rfl rfl rfl ?_
      refine rn_getI (N := 1) (pc' := 82) rfl rfl rfl rfl (by decide) rfl (by first | assumption | decide | omega) ?_
      refine rn_ireturn rfl rfl ?_
      exact ⟨vI_c (v13.trans (ct4 (by omega)).symm), rfl⟩
    · refine rn_swIn (k := 5) (t := 83) rfl hw (by decide) rfl rfl ?_
      refine rn_aload_n (pc' := 84) rfl rfl rfl ?_
      refine rn_getI (N := 1) (pc' := 87) rfl rfl rfl rfl (by decide) rfl (by first | assumption | decide | omega) ?_
      refine rn_ireturn rfl rfl ?_
      exact ⟨vI_c (v14.trans (ct5 (by omega)).symm), rfl⟩
    · refine rn_swIn (k := 6) (t := 88) rfl hw (by decide) rfl rfl ?_
      refine rn_aload_n (pc' := 89) rfl rfl rfl ?_
      refine rn_getI (N := 1) (pc' := 92) rfl rfl rfl rfl (by decide) rfl (by first | assumption | decide | omega) ?_
      refine rn_ireturn rfl rfl ?_
      exact ⟨vI_c (v15.trans (ct6 (by omega)).symm), rfl⟩
    · refine rn_swIn (k := 7) (t := 93) rfl hw (by decide) rfl rfl ?_
      refine rn_aload_n (pc' := 94) rfl rfl rfl ?_
      refine rn_getI (N := 1) (pc' := 97) rfl rfl rfl rfl (by decide) rfl (by first | assumption | decide | omega) ?_
      refine rn_ireturn rfl rfl ?_
      exact ⟨vI_c (v16.trans (ct7 (by omega)).symm), rfl⟩
    · refine rn_swIn (k := 8) (t := 98) rfl hw (by decide) rfl rfl ?_
      refine rn_aload_n (pc' := 99) rfl rfl rfl ?_
      refine rn_getI (N := 1) (pc' := 102) rfl rfl rfl rfl (by decide) rfl (by first | assumption | decide | omega) ?_
      refine rn_ireturn rfl rfl ?_
      exact ⟨vI_c (v17.trans (ct8 (by omega)).symm), rfl⟩
    · refine rn_swIn (k := 9) (t := 103) rfl hw (by decide) rfl rfl ?_
      refine rn_aload_n (pc' := 104) rfl rfl rfl ?_
      refine rn_getI (N := 1) (pc' := 107) rfl rfl rfl rfl (by decide) rfl (by first | assumption | decide | omega) ?_
      refine rn_ireturn rfl rfl ?_
      exact ⟨vI_c (v18.trans (ct9 (by omega)).symm), rfl⟩
theorem same_log {t : Nat} {C R : xM} (i w : Int32) (h : GI t C R) : Same 65 106 [vI i, vI w] t C R := by
  obtain ⟨hI, h30, hT⟩ := id h
  obtain ⟨g, hgt, hg⟩ := hT.2.2.1
  have ht := hT.2.1
  have hg31 : g < 2 ^ 31 := by omega
  obtain ⟨l9, l8⟩ := log_g hI hg hg31
  have e0 : (0 : Int32).toInt = 0 := by decide
  have e1 : (1 : Int32).toInt = 1 := by decide
  have hL : lgN g ≤ 40 := by unfold lgN; split <;> omega
  rcases in_cases w 0 1 0 1 (by decide) (by decide) with ⟨h1, h2⟩ | ⟨j, -, j2, rfl, j3, j4⟩
  · refine Same.q h (r_logO R i w h1) ?_
    have n0 : ¬ w = 0 := fun q => by rw [q, e0] at h2; omega
    have n1 : ¬ w = 1 := fun q => by rw [q, e1] at h2; omega
    show Rn _ 65 (0, [some (vR 9 0), some (vI i), some (vI w), none], [], _) _
    refine rn_iload_n (pc' := 1) rfl rfl rfl ?_
    refine rn_if_eq (t := 13) (pc' := 4) rfl rfl rfl (fun hb1 => ?_) (fun hb1 => ?_)
    · first | exact absurd hb1 n0 | exact absurd hb2 n1
    · refine rn_iload_n (pc' := 5) rfl rfl rfl ?_
      refine rn_iconst (pc' := 6) (v := 1) rfl rfl (by decide) ?_
      refine rn_ic_eq (t := 13) (pc' := 9) rfl rfl rfl (fun hb2 => ?_) (fun hb2 => ?_)
      · first | exact absurd hb1 n0 | exact absurd hb2 n1
      · refine rn_sipush (pc' := 12) (v := (-1002)) rfl rfl (by decide) ?_
        refine rn_ireturn rfl rfl ?_
        exact ⟨rfl, rfl⟩
  · have hj : nI j = 0 ∨ nI j = 1 := by
      rcases (show j = 0 ∨ j = 1 by omega) with rfl | rfl
      · exact Or.inl rfl
      · exact Or.inr rfl
    generalize nI j = w at hj j4
    have pre : ∀ (Z : Option xV → xM → Prop), Rn 7 65 (13, [some (vR 9 0), some (vI i), some (vI w), none], [], C) Z → Rn 7 65 (0, xen 65 [vR 9 0, vI i, vI w], [], C) Z := by
      intro Z k
      show Rn _ 65 (0, [some (vR 9 0), some (vI i), some (vI w), none], [], _) _
      refine rn_iload_n (pc' := 1) rfl rfl rfl ?_
      refine rn_if_eq (t := 13) (pc' := 4) rfl rfl rfl (fun hb1 => ?_) (fun hb1 => ?_)
      · exact k
      · refine rn_iload_n (pc' := 5) rfl rfl rfl ?_
        refine rn_iconst (pc' := 6) (v := 1) rfl rfl (by decide) ?_
        refine rn_ic_eq (t := 13) (pc' := 9) rfl rfl rfl (fun hb2 => ?_) (fun hb2 => ?_)
        · exact k
        · exact hj.elim (fun q => absurd q hb1) (fun q => absurd q hb2)
    have hin := in_iff (x := i) (y := nI (lgN g)) (n := lgN g) (by omega) rfl
    by_cases hi : 0 ≤ i.toInt64 ∧ i.toInt64 ≤ (nI (lgN g) - 1).toInt64
    · obtain ⟨p1, p2⟩ := hin.mp hi
      obtain ⟨k, hk31, rfl⟩ := nI_of p1
      have hk : k < lgN g := (nI_ltI hk31 (by omega)).mp p2
      have hkg : k < g := by unfold lgN at hk; split at hk <;> omega
      refine Same.q h (r_logY R w j4 hg hg31 hk hi) (pre _ ?_)
      have p2' : nI k < C.1 9 0 8 := by rw [l8]; exact p2
      have x1 : C.1 9 0 9 + 40 - 1 - nI k = nI (g % 40 + 39 - k) := by
        rw [l9, show nI (g % 40) + 40 = nI (g % 40 + 40) from nI_add _ 40, show nI (g % 40 + 40) - 1 = nI (g % 40 + 40 - 1) from pk_sub (a := g % 40 + 40) (b := 1) (by omega), pk_sub (by omega)]
        rfl
      have x2 : (C.1 9 0 9 + 40 - 1 - nI k) - (C.1 9 0 9 + 40 - 1 - nI k) / 40 * 40 = nI ((g - 1 - k) % 40) := by
        have := rem40 x1 (by omega)
        rw [this, show (g % 40 + 39 - k) % 40 = (g - 1 - k) % 40 by omega]
      have hm : (g - 1 - k) % 40 < 40 := Nat.mod_lt _ (by decide)
      obtain ⟨y1, y2⟩ : C.1 15 0 ((g - 1 - k) % 40) = R.1 47 0 ((g - 1 - k) % 40) ∧ C.1 16 0 ((g - 1 - k) % 40) = R.1 48 0 ((g - 1 - k) % 40) := by
        obtain ⟨g', -, -, -, -, z⟩ := hI.1.2.2.2.2.2.2.2.2.2.2.1
        exact z _ hm
      refine rn_iload_n (pc' := 14) rfl rfl rfl ?_
      refine rn_if_lt (t := 25) (pc' := 17) rfl rfl rfl (fun hb1 => ?_) (fun hb1 => ?_)
      · first | exact absurd hb1 p1 | exact absurd p2' hb2
      · refine rn_iload_n (pc' := 18) rfl rfl rfl ?_
        refine rn_aload_n (pc' := 19) rfl rfl rfl ?_
        refine rn_getI (N := 1) (pc' := 22) rfl rfl rfl rfl (by decide) rfl (by first | assumption | decide | omega) ?_
        refine rn_ic_lt (t := 27) (pc' := 25) rfl rfl rfl (fun hb2 => ?_) (fun hb2 => ?_)
        · refine rn_aload_n (pc' := 28) rfl rfl rfl ?_
          refine rn_getI (N := 1) (pc' := 31) rfl rfl rfl rfl (by decide) rfl (by first | assumption | decide | omega) ?_
          refine rn_bipush (pc' := 33) (v := 40) rfl rfl (by decide) ?_
          refine rn_iadd (pc' := 34) rfl rfl ?_
          refine rn_iconst (pc' := 35) (v := 1) rfl rfl (by decide) ?_
          refine rn_isub (pc' := 36) rfl rfl ?_
          refine rn_iload_n (pc' := 37) rfl rfl rfl ?_
          refine rn_isub (pc' := 38) rfl rfl ?_
          refine rn_bipush (pc' := 40) (v := 40) rfl rfl (by decide) ?_
          refine rn_irem (pc' := 41) rfl rfl (by decide) ?_
          refine rn_topI x2 ?_
          refine rn_istore_n (pc' := 42) rfl rfl rfl (Nat.le_of_ble_eq_true rfl) rfl ?_
          refine rn_iload_n (pc' := 43) rfl rfl rfl ?_
          refine rn_if_ne (t := 55) (pc' := 46) rfl rfl rfl (fun hb3 => ?_) (fun hb3 => ?_)
          · refine rn_aload_n (pc' := 56) rfl rfl rfl ?_
            refine rn_getF (N := 1) (t' := 16) (pc' := 59) rfl rfl rfl rfl rfl (by first | assumption | decide | omega) ?_
            refine rn_iload_n (pc' := 60) rfl rfl rfl ?_
            refine rn_iald (N := 1) (K := 40) (pc' := 61) rfl rfl ⟨rfl, rfl⟩ rfl (by first | assumption | decide | omega) rfl (by decide) rfl hm ?_
            refine rn_ireturn rfl rfl ?_
            first | exact ⟨vI_c (by rw [if_pos hb3]; exact y1), rfl⟩ | exact ⟨vI_c (by rw [if_neg hb3]; exact y2), rfl⟩
          · refine rn_aload_n (pc' := 47) rfl rfl rfl ?_
            refine rn_getF (N := 1) (t' := 15) (pc' := 50) rfl rfl rfl rfl rfl (by first | assumption | decide | omega) ?_
            refine rn_iload_n (pc' := 51) rfl rfl rfl ?_
            refine rn_iald (N := 1) (K := 40) (pc' := 52) rfl rfl ⟨rfl, rfl⟩ rfl (by first | assumption | decide | omega) rfl (by decide) rfl hm ?_
            refine rn_goto (pc' := 61) rfl rfl ?_
            refine rn_ireturn rfl rfl ?_
            first | exact ⟨vI_c (by rw [if_pos hb3]; exact y1), rfl⟩ | exact ⟨vI_c (by rw [if_neg hb3]; exact y2), rfl⟩
        · first | exact absurd hb1 p1 | exact absurd p2' hb2
    · have hno : ¬ (¬ i < 0 ∧ i < nI (lgN g)) := fun z => hi (hin.mpr z)
      refine Same.q h (r_logN R i w j4 hg hg31 hi) (pre _ ?_)
      refine rn_iload_n (pc' := 14) rfl rfl rfl ?_
      refine rn_if_lt (t := 25) (pc' := 17) rfl rfl rfl (fun hb1 => ?_) (fun hb1 => ?_)
      · refine rn_iconst (pc' := 26) (v := (-1)) rfl rfl (by decide) ?_
        refine rn_ireturn rfl rfl ?_
        exact ⟨rfl, rfl⟩
      · refine rn_iload_n (pc' := 18) rfl rfl rfl ?_
        refine rn_aload_n (pc' := 19) rfl rfl rfl ?_
        refine rn_getI (N := 1) (pc' := 22) rfl rfl rfl rfl (by decide) rfl (by first | assumption | decide | omega) ?_
        refine rn_ic_lt (t := 27) (pc' := 25) rfl rfl rfl (fun hb2 => ?_) (fun hb2 => ?_)
        · (rw [l8] at hb2; exact absurd ⟨hb1, hb2⟩ hno)
        · refine rn_iconst (pc' := 26) (v := (-1)) rfl rfl (by decide) ?_
          refine rn_ireturn rfl rfl ?_
          exact ⟨rfl, rfl⟩
