def clrC (X : xM) (e : Nat) : xM := mRow (mRow X 1 e (z0F (X.1 1 e) 8)) 2 e (z0F (X.1 2 e) 21)
theorem c_clearRows {d e : Nat} (X : xM) (he : e < 24) : Rn d 1 (0, xen 1 [vR 0 e], [], X) (fun r C' => r = none ∧ C' = clrC X e) := by
  obtain ⟨A, hA⟩ : ∃ A, A = mRow X 1 e (z0F (X.1 1 e) 8) := ⟨_, rfl⟩
  have hA2 : A.1 2 e = X.1 2 e := by rw [hA]; rfl
  have hT : clrC X e = mRow A 2 e (z0F (A.1 2 e) 21) := by unfold clrC; rw [hA2, hA]
  rw [hT]
  have s2 : ∀ m i : Nat, i + m = 21 → Rn d 1 (23, [some (vR 0 e), some (vI (nI i))], [], mRow A 2 e (z0F (A.1 2 e) i)) (fun r C' => r = none ∧ C' = mRow A 2 e (z0F (A.1 2 e) 21)) := by
    intro m
    induction m with
    | zero =>
      intro i hi
      obtain rfl : i = 21 := by omega
      refine rn_iload_n (pc' := 24) rfl rfl rfl ?_
      refine rn_bipush (pc' := 26) (v := 20) rfl rfl (by decide) ?_
      refine rn_ic_gt (t := 42) (pc' := 29) rfl rfl rfl (fun h1 => ?_) (fun h1 => ?_)
      · refine rn_return rfl rfl ?_
        exact ⟨rfl, rfl⟩
      · exact absurd (by decide) h1
    | succ m ih =>
      intro i hi
      have hi21 : i < 21 := by omega
      refine rn_iload_n (pc' := 24) rfl rfl rfl ?_
      refine rn_bipush (pc' := 26) (v := 20) rfl rfl (by decide) ?_
      refine rn_ic_gt (t := 42) (pc' := 29) rfl rfl rfl (fun h1 => ?_) (fun h1 => ?_)
      · exact absurd ((nI_ltI (a := 20) (b := i) (by decide) (by omega)).mp h1) (by omega)
      · refine rn_aload_n (pc' := 30) rfl rfl rfl ?_
        refine rn_getF (N := 24) (t' := 2) (pc' := 33) rfl rfl rfl rfl rfl (by first | assumption | decide | omega) ?_
        refine rn_iload_n (pc' := 34) rfl rfl rfl ?_
        refine rn_iconst (pc' := 35) (v := 0) rfl rfl (by decide) ?_
        refine rn_iast (N := 24) (K := 21) (pc' := 36) rfl rfl ⟨rfl, rfl⟩ rfl (by first | assumption | decide | omega) rfl (by decide) rfl (by first | assumption | decide | omega) ?_
        rw [mRow_put, z0_S]
        refine rn_iinc (pc' := 39) rfl rfl rfl (nI_inc _) rfl (Nat.le_of_ble_eq_true rfl) rfl ?_
        refine rn_goto (pc' := 23) rfl rfl ?_
        exact ih (i + 1) (by omega)
  have s2 := s2 21 0 rfl
  rw [z0_0, mRow_id] at s2
  have s1 : ∀ m i : Nat, i + m = 8 → Rn d 1 (2, [some (vR 0 e), some (vI (nI i))], [], mRow X 1 e (z0F (X.1 1 e) i)) (fun r C' => r = none ∧ C' = mRow A 2 e (z0F (A.1 2 e) 21)) := by
    intro m
    induction m with
    | zero =>
      intro i hi
      obtain rfl : i = 8 := by omega
      rw [← hA]
      refine rn_iload_n (pc' := 3) rfl rfl rfl ?_
      refine rn_bipush (pc' := 5) (v := 8) rfl rfl (by decide) ?_
      refine rn_ic_ge (t := 21) (pc' := 8) rfl rfl rfl (fun h1 => ?_) (fun h1 => ?_)
      · refine rn_iconst (pc' := 22) (v := 0) rfl rfl (by decide) ?_
        refine rn_istore_n (pc' := 23) rfl rfl rfl (Nat.le_of_ble_eq_true rfl) rfl ?_
        exact s2
      · exact absurd h1 (by decide)
    | succ m ih =>
      intro i hi
      have hi8 : i < 8 := by omega
      refine rn_iload_n (pc' := 3) rfl rfl rfl ?_
      refine rn_bipush (pc' := 5) (v := 8) rfl rfl (by decide) ?_
      refine rn_ic_ge (t := 21) (pc' := 8) rfl rfl rfl (fun h1 => ?_) (fun h1 => ?_)
      · exact absurd ((lt8 (by omega)).mpr hi8) h1
      · refine rn_aload_n (pc' := 9) rfl rfl rfl ?_
        refine rn_getF (N := 24) (t' := 1) (pc' := 12) rfl rfl rfl rfl rfl (by first | assumption | decide | omega) ?_
        refine rn_iload_n (pc' := 13) rfl rfl rfl ?_
        refine rn_iconst (pc' := 14) (v := 0) rfl rfl (by decide) ?_
        refine rn_iast (N := 24) (K := 8) (pc' := 15) rfl rfl ⟨rfl, rfl⟩ rfl (by first | assumption | decide | omega) rfl (by decide) rfl (by first | assumption | decide | omega) ?_
        rw [mRow_put, z0_S]
        refine rn_iinc (pc' := 18) rfl rfl rfl (nI_inc _) rfl (Nat.le_of_ble_eq_true rfl) rfl ?_
        refine rn_goto (pc' := 2) rfl rfl ?_
        exact ih (i + 1) (by omega)
  have s1 := s1 8 0 rfl
  rw [z0_0, mRow_id] at s1
  show Rn _ 1 (0, [some (vR 0 e), none], [], _) _
  refine rn_iconst (pc' := 1) (v := 0) rfl rfl (by decide) ?_
  refine rn_istore_n (pc' := 2) rfl rfl rfl (Nat.le_of_ble_eq_true rfl) rfl ?_
  exact s1
def btC (C : xM) (p : Int32) : xM := mI (mI (clrC (beg C 0 none 1 1 p) 0) 9 0 12 1) 9 0 11 23
theorem bt_25 {R : xM} {p : Int32} (e : Nat) (he : e < 24) : (f_boot R p).1 25 0 e = if e = 0 then 1 else 0 := by
  by_cases e0 : e = 0
  · subst e0; simp [f_boot, f_bootB, f_boot2, f_boot1, f_bootA, mI, mRow, mJ, xu, z0F]
  · simp [f_boot, f_bootB, f_boot2, f_boot1, f_bootA, mI, mRow, mJ, xu, z0F, e0, he]
theorem bt_t {R : xM} {p : Int32} (t : Nat) (ht : t ∈ [26, 27, 28, 29, 30, 33, 34, 35, 39, 41, 42]) (e : Nat) : (f_boot R p).1 t 0 e = if e = 0 then (if t = 27 then 1 else if t = 29 then p else 0) else R.1 t 0 e := by
  simp only [List.mem_cons, List.not_mem_nil, or_false] at ht
  by_cases e0 : e = 0
  · subst e0
    rcases ht with rfl | rfl | rfl | rfl | rfl | rfl | rfl | rfl | rfl | rfl | rfl <;> simp [f_boot, f_bootB, f_boot2, f_boot1, f_bootA, mI, mRow, mJ, xu, z0F]
  · rcases ht with rfl | rfl | rfl | rfl | rfl | rfl | rfl | rfl | rfl | rfl | rfl <;> simp [f_boot, f_bootB, f_boot2, f_boot1, f_bootA, mI, mRow, mJ, xu, z0F, e0]
theorem bt_31 {R : xM} {p : Int32} (j : Nat) : (f_boot R p).1 31 0 j = if j < 8 then 0 else R.1 31 0 j := by
  simp [f_boot, f_bootB, f_boot2, f_boot1, f_bootA, mI, mRow, mJ, xu, z0F]
theorem bt_32 {R : xM} {p : Int32} (j : Nat) : (f_boot R p).1 32 0 j = if j < 21 then 0 else R.1 32 0 j := by
  simp [f_boot, f_bootB, f_boot2, f_boot1, f_bootA, mI, mRow, mJ, xu, z0F]
theorem bt_38 {R : xM} {p : Int32} (e : Nat) : (f_boot R p).2.1 38 0 e = if e = 0 then 0 else R.2.1 38 0 e := by
  simp [f_boot, f_bootB, f_boot2, f_boot1, f_bootA, mI, mRow, mJ, xu]
theorem bc_0 {C : xM} {p : Int32} (q : Nat) (hq : q ∈ [0, 2, 3, 4, 5, 8, 9, 12, 14, 16, 17]) (e : Nat) : (btC C p).1 0 e q = if e = 0 then (if q = 0 then 1 else if q = 2 then 1 else if q = 4 then p else 0) else C.1 0 e q := by
  simp only [List.mem_cons, List.not_mem_nil, or_false] at hq
  by_cases e0 : e = 0
  · subst e0
    rcases hq with rfl | rfl | rfl | rfl | rfl | rfl | rfl | rfl | rfl | rfl | rfl <;> simp [btC, clrC, beg, mI, mRow, mJ, mR, xu]
  · rcases hq with rfl | rfl | rfl | rfl | rfl | rfl | rfl | rfl | rfl | rfl | rfl <;> simp [btC, clrC, beg, mI, mRow, mJ, mR, xu, e0]
theorem bc_1 {C : xM} {p : Int32} (e r : Nat) (hr : r < 8) : (btC C p).1 1 e r = if e = 0 then 0 else C.1 1 e r := by
  simp [btC, clrC, beg, mI, mRow, mJ, mR, xu, z0F, hr]
theorem bc_2 {C : xM} {p : Int32} (e r : Nat) (hr : r < 21) : (btC C p).1 2 e r = if e = 0 then 0 else C.1 2 e r := by
  simp [btC, clrC, beg, mI, mRow, mJ, mR, xu, z0F, hr]
theorem bc_13 {C : xM} {p : Int32} (e : Nat) : (btC C p).2.1 0 e 13 = if e = 0 then 0 else C.2.1 0 e 13 := by
  simp [btC, clrC, beg, mI, mRow, mJ, mR, xu]
theorem Inv_boot {C R : xM} {k : Nat} (h : Inv C R 0) (hk : k < 16) (hz : ∀ e, e < 24 → R.1 25 0 e = 0) : Inv (btC C (nI k)) (f_boot R (nI k)) 0 := by
  obtain ⟨⟨a1, a2, a3, a4, a5, a6, a7, a8, a9, a10, a11, a12⟩, a13, b1, b2, b3, b4, b5, b7, b9, b10, b11, b14⟩ := h
  have live : ∀ e, e < 24 → 0 < (f_boot R (nI k)).1 25 0 e → e = 0 := fun e he hl => by
    rw [bt_25 e he] at hl
    by_cases e0 : e = 0
    · exact e0
    · rw [if_neg e0] at hl; exact absurd hl (by decide)
  have r28 : ∀ e, e = 0 → (f_boot R (nI k)).1 28 0 e = 0 := fun e e0 => by rw [bt_t 28 (by decide), if_pos e0]; rfl
  refine ⟨⟨A1_l.mpr ?_, ?_, ?_, a4, ?_, ?_, ?_, ?_, ?_, A10_l.mpr ?_, a11, a12⟩, ⟨a13.1, a13.2.1, by omega, fun i hi => absurd hi (Nat.not_lt_zero i)⟩, ?_, ?_, ?_, ?_, ?_, ?_, ?_, ?_, ?_, ?_⟩
  · intro e he q hq
    have old := A1_l.mp a1 e he q hq
    simp only [fp, List.mem_cons, List.not_mem_nil, or_false] at hq
    rcases hq with rfl | hq
    · rw [bc_0 0 (by decide), show (f_boot R (nI k)).1 (0, 25).2 0 e = _ from bt_25 e he]
      by_cases e0 : e = 0
      · rw [if_pos e0, if_pos e0]; rfl
      · rw [if_neg e0, if_neg e0]; exact old.trans (hz e he)
    · rcases hq with rfl | rfl | rfl | rfl | rfl | rfl | rfl | rfl | rfl <;>
      · rw [bc_0 _ (by decide), bt_t _ (by decide)]
        by_cases e0 : e = 0
        · rw [if_pos e0, if_pos e0]; rfl
        · rw [if_neg e0, if_neg e0]; exact old
  · intro e he r hr
    rw [bc_1 e r hr, bt_31]
    by_cases e0 : e = 0
    · rw [if_pos e0, if_pos (by omega)]
    · rw [if_neg e0, if_neg (by omega)]; exact a2 e he r hr
  · intro e he r hr
    rw [bc_2 e r hr, bt_32]
    by_cases e0 : e = 0
    · rw [if_pos e0, if_pos (by omega)]
    · rw [if_neg e0, if_neg (by omega)]; exact a3 e he r hr
  · intro e he
    rw [bc_13, bt_38, a5 e he]
  · intro e he
    rw [bc_0 8 (by decide), bt_t 33 (by decide)]
    by_cases e0 : e = 0
    · rw [if_pos e0, if_pos e0]; exact ⟨fun _ => rfl, fun _ => rfl⟩
    · rw [if_neg e0, if_neg e0]
      exact ⟨fun q => absurd (live e he q) e0, fun _ => (a6 e he).2 (hz e he)⟩
  · intro e he hl h3
    rw [r28 e (live e he hl)] at h3
    exact absurd h3 (by decide)
  · intro e he hl h3
    rw [r28 e (live e he hl)] at h3
    exact absurd h3 (by decide)
  · intro e he hl
    have e0 := live e he hl
    subst e0
    refine Or.inl ⟨rfl, ?_, ?_⟩
    · simp [btC, clrC, beg, mI, mRow, mJ, mR, xu]
    · rw [bt_t 26 (by decide)]; rfl
  · intro q hq
    have old := A10_l.mp a10 q hq
    simp only [sp, List.mem_cons, List.not_mem_nil, or_false] at hq
    rcases hq with rfl | rfl | rfl | rfl | rfl | rfl | rfl | rfl | rfl
    · exact old
    · rfl
    · rfl
    · exact old
    · exact old
    · exact old
    · exact old
    · exact old
    · exact old
  · intro e he
    rw [bt_25 e he]
    by_cases e0 : e = 0
    · rw [if_pos e0]; exact Or.inr ⟨1, by omega, by omega, rfl⟩
    · rw [if_neg e0]; exact Or.inl rfl
  · intro e e' he he' hl hq
    have e0 := live e he hl
    rw [hq.symm] at hl
    rw [e0, live e' he' hl]
  · left
    exact bt_25 0 (by omega)
  · intro e he hl
    rw [bt_t 27 (by decide), if_pos (live e he hl)]
    exact ⟨1, by omega, by omega, rfl⟩
  · intro e he
    rw [bt_t 29 (by decide), bt_t 35 (by decide)]
    by_cases e0 : e = 0
    · rw [if_pos e0, if_pos e0]; exact ⟨⟨k, hk, rfl⟩, ⟨0, by omega, rfl⟩⟩
    · rw [if_neg e0, if_neg e0]; exact b5 e he
  · intro e he hl
    rw [bt_t 33 (by decide), if_pos (live e he hl)]
    show (0 : Int32) &&& 2097150 = 0
    decide
  · intro e he
    by_cases e0 : e = 0
    · rw [r28 e e0]; intro q; exact absurd q (by decide)
    · rw [bt_t 28 (by decide), if_neg e0]; exact b9 e he
  · refine ⟨fun e he hl _ => ?_, ?_⟩
    · rw [bt_t 39 (by decide), if_pos (live e he hl)]; rfl
    · rw [r28 0 rfl]; decide
  · exact ⟨⟨1, by omega, rfl⟩, ⟨23, by omega, rfl⟩, b11.2.2⟩
  · refine ⟨b14.1, fun e he => ?_⟩
    rw [bt_32]
    split
    · rfl
    · exact b14.2 e he
theorem same_boot {t : Nat} {C R : xM} (p : Int32) (h : GI t C R) : Same 12 76 [vI p] t C R := by
  obtain ⟨hI, h30, hT⟩ := id h
  have hq := c_isProgram (d := 6) (C := C) p
  by_cases hp : isPr p
  · obtain ⟨k, hk, rfl⟩ := isPr_n hp
    rw [decide_eq_true ((isPr_iff _).mp hp)] at hq
    have hf := c_find (d := 6) 1 hI.1.1 hI.2.2.2.1
    cases he : eo R 1 with
    | some e =>
      rw [he] at hf
      refine Same.q h (r_bootS R (nI k) hp he) ?_
      show Rn _ 12 (0, [some (vR 9 0), some (vI (nI k))], [], _) _
      refine rn_iload_n (pc' := 1) rfl rfl rfl ?_
      refine rn_callS (pc' := 4) (as := [_]) rfl rfl rfl ⟨rfl, rfl, rfl⟩ (Nat.le_of_ble_eq_true rfl) (Nat.le_of_ble_eq_true rfl) rfl hq (fun r1 M1 hz => ?_)
      obtain ⟨rfl, hm_⟩ := hz
      refine rn_mem hm_ ?_
      clear hm_
      refine rn_if_ne (t := 11) (pc' := 7) rfl rfl rfl (fun h1 => ?_) (fun h1 => ?_)
      · refine rn_aload_n (pc' := 12) rfl rfl rfl ?_
        refine rn_iconst (pc' := 13) (v := 1) rfl rfl (by decide) ?_
        refine rn_callV (pc' := 16) (as := [_]) rfl rfl rfl ⟨Nat.le_of_ble_eq_true rfl, rfl, rfl⟩ rfl (by first | assumption | decide | omega) (Nat.le_of_ble_eq_true rfl) (Nat.le_of_ble_eq_true rfl) rfl hf (fun r3 M3 hz => ?_)
        obtain ⟨rfl, hm_⟩ := hz
        refine rn_mem hm_ ?_
        clear hm_
        refine rn_ifnull (t := 23) (pc' := 19) rfl rfl rfl (fun h2 => ?_) (fun h2 => ?_)
        · exact nomatch h2
        · refine rn_sipush (pc' := 22) (v := (-1003)) rfl rfl (by decide) ?_
          refine rn_ireturn rfl rfl ?_
          exact ⟨rfl, rfl⟩
      · exact absurd h1 (by decide)
    | none =>
      rw [he] at hf
      have hz : ∀ e, e < 24 → R.1 25 0 e = 0 := by
        rcases hI.2.2.2.2.1 with b | b
        · exact absurd ⟨by decide, b⟩ (eoF_none he 0 (by omega))
        · exact b
      have hG : GI t (btC C (nI k)) (f_boot R (nI k)) := by
        refine ⟨Inv_boot hI hk hz, h30, hT.1, hT.2.1, hT.2.2.1, fun e he hl => Or.inl ?_⟩
        rw [bt_25 e he] at hl
        rw [bt_38]
        by_cases e0 : e = 0
        · rw [if_pos e0]
        · rw [if_neg e0] at hl; exact absurd hl (by decide)
      refine ⟨1, f_boot R (nI k), t, by omega, r_bootY R (nI k) hp he, ?_⟩
      show Rn _ 12 (0, [some (vR 9 0), some (vI (nI k))], [], _) _
      refine rn_iload_n (pc' := 1) rfl rfl rfl ?_
      refine rn_callS (pc' := 4) (as := [_]) rfl rfl rfl ⟨rfl, rfl, rfl⟩ (Nat.le_of_ble_eq_true rfl) (Nat.le_of_ble_eq_true rfl) rfl hq (fun r1 M1 hz => ?_)
      obtain ⟨rfl, hm_⟩ := hz
      refine rn_mem hm_ ?_
      clear hm_
      refine rn_if_ne (t := 11) (pc' := 7) rfl rfl rfl (fun h1 => ?_) (fun h1 => ?_)
      · refine rn_aload_n (pc' := 12) rfl rfl rfl ?_
        refine rn_iconst (pc' := 13) (v := 1) rfl rfl (by decide) ?_
        refine rn_callV (pc' := 16) (as := [_]) rfl rfl rfl ⟨Nat.le_of_ble_eq_true rfl, rfl, rfl⟩ rfl (by first | assumption | decide | omega) (Nat.le_of_ble_eq_true rfl) (Nat.le_of_ble_eq_true rfl) rfl hf (fun r3 M3 hz => ?_)
        obtain ⟨rfl, hm_⟩ := hz
        refine rn_mem hm_ ?_
        clear hm_
        refine rn_ifnull (t := 23) (pc' := 19) rfl rfl rfl (fun h2 => ?_) (fun h2 => ?_)
        · refine rn_aload_n (pc' := 24) rfl rfl rfl ?_
          refine rn_getF (N := 1) (t' := 11) (pc' := 27) rfl rfl rfl rfl rfl (by first | assumption | decide | omega) ?_
          refine rn_iconst (pc' := 28) (v := 0) rfl rfl (by decide) ?_
          refine rn_aaldF (t' := 0) (k := 0) (N := 1) (K := 24) (pc' := 29) rfl rfl rfl rfl rfl (by first | assumption | decide | omega) rfl (by decide) (by decide) (by first | assumption | decide | omega) ?_
          refine rn_iconst (pc' := 30) (v := 1) rfl rfl (by decide) ?_
          refine rn_aconst_null (pc' := 31) rfl rfl ?_
          refine rn_iconst (pc' := 32) (v := 1) rfl rfl (by decide) ?_
          refine rn_iload_n (pc' := 33) rfl rfl rfl ?_
          refine rn_callV (pc' := 36) (as := [_, _, _, _]) rfl rfl rfl ⟨Nat.le_of_ble_eq_true rfl, rfl, rfl⟩ rfl (by first | assumption | decide | omega) (Nat.le_of_ble_eq_true rfl) (Nat.le_of_ble_eq_true rfl) rfl (c_begin_ C none 1 1 (nI k) (by omega)) (fun r5 M5 hz => ?_)
          obtain ⟨rfl, hm_⟩ := hz
          refine rn_mem hm_ ?_
          clear hm_
          refine rn_aload_n (pc' := 37) rfl rfl rfl ?_
          refine rn_getF (N := 1) (t' := 11) (pc' := 40) rfl rfl rfl rfl rfl (by first | assumption | decide | omega) ?_
          refine rn_iconst (pc' := 41) (v := 0) rfl rfl (by decide) ?_
          refine rn_aaldF (t' := 0) (k := 0) (N := 1) (K := 24) (pc' := 42) rfl rfl rfl rfl rfl (by first | assumption | decide | omega) rfl (by decide) (by decide) (by first | assumption | decide | omega) ?_
          refine rn_callV (pc' := 45) (as := []) rfl rfl rfl ⟨Nat.le_of_ble_eq_true rfl, rfl, rfl⟩ rfl (by first | assumption | decide | omega) (Nat.le_of_ble_eq_true rfl) (Nat.le_of_ble_eq_true rfl) rfl (c_clearRows _ (by omega)) (fun r6 M6 hz => ?_)
          obtain ⟨rfl, hm_⟩ := hz
          refine rn_mem hm_ ?_
          clear hm_
          refine rn_aload_n (pc' := 46) rfl rfl rfl ?_
          refine rn_iconst (pc' := 47) (v := 1) rfl rfl (by decide) ?_
          refine rn_putI (N := 1) (pc' := 50) rfl rfl rfl rfl rfl (by first | assumption | decide | omega) ?_
          refine rn_aload_n (pc' := 51) rfl rfl rfl ?_
          refine rn_bipush (pc' := 53) (v := 23) rfl rfl (by decide) ?_
          refine rn_putI (N := 1) (pc' := 56) rfl rfl rfl rfl rfl (by first | assumption | decide | omega) ?_
          refine rn_iconst (pc' := 57) (v := 1) rfl rfl (by decide) ?_
          refine rn_ireturn rfl rfl ?_
          exact ⟨rfl, hG⟩
        · exact absurd rfl h2
      · exact absurd h1 (by decide)
  · rw [decide_eq_false (fun z => hp ((isPr_iff p).mpr z))] at hq
    refine Same.q h (r_bootU R p hp) ?_
    show Rn _ 12 (0, [some (vR 9 0), some (vI p)], [], _) _
    refine rn_iload_n (pc' := 1) rfl rfl rfl ?_
    refine rn_callS (pc' := 4) (as := [_]) rfl rfl rfl ⟨rfl, rfl, rfl⟩ (Nat.le_of_ble_eq_true rfl) (Nat.le_of_ble_eq_true rfl) rfl hq (fun r1 M1 hz => ?_)
    obtain ⟨rfl, hm_⟩ := hz
    refine rn_mem hm_ ?_
    clear hm_
    refine rn_if_ne (t := 11) (pc' := 7) rfl rfl rfl (fun h1 => ?_) (fun h1 => ?_)
    · exact absurd rfl h1
    · refine rn_sipush (pc' := 10) (v := (-1001)) rfl rfl (by decide) ?_
      refine rn_ireturn rfl rfl ?_
      exact ⟨rfl, rfl⟩
