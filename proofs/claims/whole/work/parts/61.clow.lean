theorem rn_topO {d j pc t : Nat} {L : xLs} {st : List xV} {M : xM} {Z : Option xV → xM → Prop} {o o' : Option Nat} (e : o = o') (h : Rn d j (pc, L, vO t o' :: st, M) Z) : Rn d j (pc, L, vO t o :: st, M) Z := by rw [e]; exact h
theorem eo_is {R : xM} (h2 : B2 R) {e : Nat} (he : e < 24) {p : Int32} (hp : 0 < p) (h : R.1 25 0 e = p) : eo R p = some e := by
  cases hq : eo R p with
  | none => exact absurd ⟨hp, h⟩ (eoF_none hq e he)
  | some e' =>
    obtain ⟨q1, q2, q3⟩ := eoF_some hq
    have := h2 e e' he q1 (by rw [h]; exact hp) (by rw [h]; exact q3)
    rw [this]
theorem eo_no {R : xM} {p : Int32} (h : ∀ e, e < 24 → ¬ (0 < p ∧ R.1 25 0 e = p)) : eo R p = none := by
  cases hq : eo R p with
  | none => rfl
  | some e' =>
    obtain ⟨q1, q2, q3⟩ := eoF_some hq
    exact absurd ⟨q2, q3⟩ (h e' q1)
theorem c_find {d : Nat} {C R : xM} (p : Int32) (a1 : A1 C R) (b2 : B2 R) : Rn d 16 (0, xen 16 [vR 9 0, vI p], [], C) (fun r C' => r = some (vO 0 (eo R p)) ∧ C' = C) := by
  by_cases hp : 0 < p
  · have loop : ∀ (m i : Nat) (x5 : Option xV), i + m = 24 → (∀ e, e < i → ¬ R.1 25 0 e = p) → Rn d 16 (17, [some (vR 9 0), some (vI p), some (vR 11 0), some (vI 24), some (vI (nI i)), x5], [], C) (fun r C' => r = some (vO 0 (eo R p)) ∧ C' = C) := by
      intro m
      induction m with
      | zero =>
        intro i x5 hi hq
        obtain rfl : i = 24 := by omega
        have e0 : eo R p = none := eo_no (fun e he q => hq e he q.2)
        rw [e0]
        refine rn_iload (pc' := 19) rfl rfl rfl ?_
        refine rn_iload_n (pc' := 20) rfl rfl rfl ?_
        refine rn_ic_ge (t := 47) (pc' := 23) rfl rfl rfl (fun h1 => ?_) (fun h1 => ?_)
        · refine rn_aconst_null (pc' := 48) rfl rfl ?_
          refine rn_areturn rfl rfl ?_
          exact ⟨rfl, rfl⟩
        · exact absurd ((lt24 (by omega)).mp h1) (by omega)
      | succ m ih =>
        intro i x5 hi hq
        have hi24 : i < 24 := by omega
        have f1' : C.1 0 i 0 = R.1 25 0 i := f1 a1 hi24 (by decide)
        refine rn_iload (pc' := 19) rfl rfl rfl ?_
        refine rn_iload_n (pc' := 20) rfl rfl rfl ?_
        refine rn_ic_ge (t := 47) (pc' := 23) rfl rfl rfl (fun h1 => ?_) (fun h1 => ?_)
        · exact absurd ((lt24 (by omega)).mpr hi24) h1
        · refine rn_aload_n (pc' := 24) rfl rfl rfl ?_
          refine rn_iload (pc' := 26) rfl rfl rfl ?_
          refine rn_aaldF (t' := 0) (N := 1) (K := 24) (pc' := 27) rfl rfl rfl rfl rfl (by first | assumption | decide | omega) rfl (by decide) rfl (by first | assumption | decide | omega) ?_
          refine rn_astore (pc' := 29) rfl rfl rfl (Nat.le_of_ble_eq_true rfl) rfl ?_
          refine rn_aload (pc' := 31) rfl rfl rfl ?_
          refine rn_getI (N := 24) (pc' := 34) rfl rfl rfl rfl (by decide) rfl (by first | assumption | decide | omega) ?_
          refine rn_iload_n (pc' := 35) rfl rfl rfl ?_
          refine rn_ic_ne (t := 41) (pc' := 38) rfl rfl rfl (fun h2 => ?_) (fun h2 => ?_)
          · refine rn_iinc (pc' := 44) rfl rfl rfl (nI_inc _) rfl (Nat.le_of_ble_eq_true rfl) rfl ?_
            refine rn_goto (pc' := 17) rfl rfl ?_
            (rw [f1'] at h2; exact ih (i + 1) _ (by omega) (fun e he => by by_cases hee : e = i; (· subst hee; exact h2); exact hq e (by omega)))
          · refine rn_aload (pc' := 40) rfl rfl rfl ?_
            refine rn_areturn rfl rfl ?_
            (rw [f1'] at h2; rw [eo_is b2 hi24 hp h2]; exact ⟨rfl, rfl⟩)
    show Rn _ 16 (0, [some (vR 9 0), some (vI p), none, none, none, none], [], _) _
    refine rn_iload_n (pc' := 1) rfl rfl rfl ?_
    refine rn_if_gt (t := 6) (pc' := 4) rfl rfl rfl (fun h1 => ?_) (fun h1 => ?_)
    · refine rn_aload_n (pc' := 7) rfl rfl rfl ?_
      refine rn_getF (N := 1) (t' := 11) (pc' := 10) rfl rfl rfl rfl rfl (by first | assumption | decide | omega) ?_
      refine rn_astore_n (pc' := 11) rfl rfl rfl (Nat.le_of_ble_eq_true rfl) rfl ?_
      refine rn_aload_n (pc' := 12) rfl rfl rfl ?_
      refine rn_alen (N := 1) (K := 24) (pc' := 13) (v := 24) rfl rfl rfl rfl (by first | assumption | decide | omega) rfl rfl ?_
      refine rn_istore_n (pc' := 14) rfl rfl rfl (Nat.le_of_ble_eq_true rfl) rfl ?_
      refine rn_iconst (pc' := 15) (v := 0) rfl rfl (by decide) ?_
      refine rn_istore (pc' := 17) rfl rfl rfl (Nat.le_of_ble_eq_true rfl) rfl ?_
      exact loop 24 0 none rfl (fun e he => absurd he (Nat.not_lt_zero e))
    · exact absurd hp h1
  · have e0 : eo R p = none := eo_no (fun e he q => hp q.1)
    rw [e0]
    show Rn _ 16 (0, [some (vR 9 0), some (vI p), none, none, none, none], [], _) _
    refine rn_iload_n (pc' := 1) rfl rfl rfl ?_
    refine rn_if_gt (t := 6) (pc' := 4) rfl rfl rfl (fun h1 => ?_) (fun h1 => ?_)
    · exact absurd h1 hp
    · refine rn_aconst_null (pc' := 5) rfl rfl ?_
      refine rn_areturn rfl rfl ?_
      exact ⟨rfl, rfl⟩
theorem c_wake {d n e : Nat} {C R : xM} {p : Int32} (h : Inv C R n) (hp : eo R p = some e) : Rn d 4 (0, xen 4 [vR 0 e], [], C) (fun r C' => r = none ∧ Inv C' (f_wake R p) n ∧ C'.1 14 = C.1 14) := by
  have he := eo_lt hp
  have hs : C.1 0 e 3 = R.1 28 0 e := f1 h.1.1 he (by decide)
  unfold f_wake
  rw [hp]
  by_cases h1 : rste R e = 1
  · simp only [if_pos h1]
    show Rn _ 4 (0, [some (vR 0 e)], [], _) _
    refine rn_aload_n (pc' := 1) rfl rfl rfl ?_
    refine rn_getI (N := 24) (pc' := 4) rfl rfl rfl rfl (by decide) rfl (by first | assumption | decide | omega) ?_
    refine rn_iconst (pc' := 5) (v := 1) rfl rfl (by decide) ?_
    refine rn_ic_ne (t := 13) (pc' := 8) rfl rfl rfl (fun h9 => ?_) (fun h9 => ?_)
    · refine rn_return rfl rfl ?_
      first | exact absurd (hs.trans h1) h9 | exact ⟨rfl, Inv_ste0 h (by rw [show R.1 28 0 e = 1 from h1]; decide), rfl⟩
    · refine rn_aload_n (pc' := 9) rfl rfl rfl ?_
      refine rn_iconst (pc' := 10) (v := 0) rfl rfl (by decide) ?_
      refine rn_putI (N := 24) (pc' := 13) rfl rfl rfl rfl rfl (by first | assumption | decide | omega) ?_
      refine rn_return rfl rfl ?_
      first | exact absurd (hs.trans h1) h9 | exact ⟨rfl, Inv_ste0 h (by rw [show R.1 28 0 e = 1 from h1]; decide), rfl⟩
  · simp only [if_neg h1]
    show Rn _ 4 (0, [some (vR 0 e)], [], _) _
    refine rn_aload_n (pc' := 1) rfl rfl rfl ?_
    refine rn_getI (N := 24) (pc' := 4) rfl rfl rfl rfl (by decide) rfl (by first | assumption | decide | omega) ?_
    refine rn_iconst (pc' := 5) (v := 1) rfl rfl (by decide) ?_
    refine rn_ic_ne (t := 13) (pc' := 8) rfl rfl rfl (fun h9 => ?_) (fun h9 => ?_)
    · refine rn_return rfl rfl ?_
      exact ⟨rfl, h, rfl⟩
    · exact absurd (hs.symm.trans h9) h1
theorem c_handles {d e s : Nat} {C : xM} (he : e < 24) (hs : s < 21) : Rn d 7 (0, xen 7 [vR 0 e, vI (nI s)], [], C) (fun r C' => r = some (vI (bI (decide (2 ≤ C.1 2 e s)))) ∧ C' = C) := by
  show Rn _ 7 (0, [some (vR 0 e), some (vI (nI s))], [], _) _
  refine rn_aload_n (pc' := 1) rfl rfl rfl ?_
  refine rn_getF (N := 24) (t' := 2) (pc' := 4) rfl rfl rfl rfl rfl (by first | assumption | decide | omega) ?_
  refine rn_iload_n (pc' := 5) rfl rfl rfl ?_
  refine rn_iald (N := 24) (K := 21) (pc' := 6) rfl rfl ⟨rfl, rfl⟩ rfl (by first | assumption | decide | omega) rfl (by decide) rfl (by first | assumption | decide | omega) ?_
  refine rn_iconst (pc' := 7) (v := 2) rfl rfl (by decide) ?_
  refine rn_ic_lt (t := 14) (pc' := 10) rfl rfl rfl (fun h1 => ?_) (fun h1 => ?_)
  · refine rn_iconst (pc' := 15) (v := 0) rfl rfl (by decide) ?_
    refine rn_zreturn rfl rfl (by decide) ?_
    refine ⟨?_, rfl⟩
    first | (rw [decide_eq_false (Int32.not_le.mpr h1)]; rfl) | (rw [decide_eq_true (Int32.not_lt.mp h1)]; rfl)
  · refine rn_iconst (pc' := 11) (v := 1) rfl rfl (by decide) ?_
    refine rn_goto (pc' := 15) rfl rfl ?_
    refine rn_zreturn rfl rfl (by decide) ?_
    refine ⟨?_, rfl⟩
    first | (rw [decide_eq_false (Int32.not_le.mpr h1)]; rfl) | (rw [decide_eq_true (Int32.not_lt.mp h1)]; rfl)
theorem c_blocks {d e s : Nat} {C : xM} (he : e < 24) : Rn d 8 (0, xen 8 [vR 0 e, vI (nI s)], [], C) (fun r C' => r = some (vI (bI (!decide (C.1 0 e 9 &&& ((1 : Int32) <<< (nI s &&& 31)) = 0)))) ∧ C' = C) := by
  show Rn _ 8 (0, [some (vR 0 e), some (vI (nI s))], [], _) _
  refine rn_aload_n (pc' := 1) rfl rfl rfl ?_
  refine rn_getI (N := 24) (pc' := 4) rfl rfl rfl rfl (by decide) rfl (by first | assumption | decide | omega) ?_
  refine rn_iconst (pc' := 5) (v := 1) rfl rfl (by decide) ?_
  refine rn_iload_n (pc' := 6) rfl rfl rfl ?_
  refine rn_ishl (pc' := 7) rfl rfl ?_
  refine rn_iand (pc' := 8) rfl rfl ?_
  refine rn_if_eq (t := 15) (pc' := 11) rfl rfl rfl (fun h1 => ?_) (fun h1 => ?_)
  · refine rn_iconst (pc' := 16) (v := 0) rfl rfl (by decide) ?_
    refine rn_zreturn rfl rfl (by decide) ?_
    refine ⟨?_, rfl⟩
    simp [bI, h1]
  · refine rn_iconst (pc' := 12) (v := 1) rfl rfl (by decide) ?_
    refine rn_goto (pc' := 16) rfl rfl ?_
    refine rn_zreturn rfl rfl (by decide) ?_
    refine ⟨?_, rfl⟩
    simp [bI, h1]
theorem Inv_send {C R : xM} {n e s : Nat} (h : Inv C R n) (hn : n < 1224) (he : e < 24) (hl : 0 < R.1 25 0 e) (hs1 : 1 ≤ s) (hs : s < 21) : Inv (mI (mI (mI (mR C 12 0 n (some e)) 13 0 n (nI s)) 9 0 4 (nI (n + 1))) 9 0 16 (C.1 9 0 16 + 1)) (f_send R e (nI s)) (n + 1) := by
  obtain ⟨⟨a1, a2, a3, a4, a5, a6, a7, a8, a9, a10, a11, a12⟩, ⟨c1, c2, c3, c4⟩, b1, b2, b3, b4, b5, b7, b9, b10, b11, b14⟩ := h
  have hc : (R.1 20 0 29).toNatClampNeg = n := by rw [show R.1 20 0 29 = nI n from c2]; exact nI_clamp (by omega)
  have hR : f_send R e (nI s) = mI (mI (mI (mI R 45 0 n (R.1 25 0 e)) 46 0 n (nI s)) 20 0 29 (R.1 20 0 29 + 1)) 20 0 37 (R.1 20 0 37 + 1) := by unfold f_send; rw [hc]
  rw [hR]
  refine ⟨⟨a1, a2, a3, a4, a5, a6, a7, a8, a9, ?_, a11, a12⟩, ⟨rfl, ?_, by omega, ?_⟩, b1, b2, b3, b4, b5, b7, b9, b10, b11, b14⟩
  · have h16 : C.1 9 0 16 = R.1 20 0 37 := A10_l.mp a10 (16, 37) (by decide)
    rw [h16]
    exact A10_set (C := mI (mI (mR C 12 0 n (some e)) 13 0 n (nI s)) 9 0 4 (nI (n + 1))) (R := mI (mI (mI R 45 0 n (R.1 25 0 e)) 46 0 n (nI s)) 20 0 29 (R.1 20 0 29 + 1)) (k := 16) (t := 37) a10 (by decide)
  · show R.1 20 0 29 + 1 = nI (n + 1)
    rw [show R.1 20 0 29 = nI n from c2]
    exact nI_1 n
  · intro i hi
    by_cases hin : i = n
    · subst hin
      refine ⟨e, s, he, hs1, hs, by simp [mI, mR, xu], by simp [mI, mR, xu], by simp [mI, xu], ?_, ?_, ?_⟩
      · have : (mI (mI (mI (mI R 45 0 i (R.1 25 0 e)) 46 0 i (nI s)) 20 0 29 (R.1 20 0 29 + 1)) 20 0 37 (R.1 20 0 37 + 1)).1 45 0 i = R.1 25 0 e := by simp [mI, xu]
        rw [this]; exact hl
      · intro e' he' q
        have : (mI (mI (mI (mI R 45 0 i (R.1 25 0 e)) 46 0 i (nI s)) 20 0 29 (R.1 20 0 29 + 1)) 20 0 37 (R.1 20 0 37 + 1)).1 45 0 i = R.1 25 0 e := by simp [mI, xu]
        rw [this] at q
        exact b2 e e' he he' hl q
      · left
        simp [mI, xu]
    · obtain ⟨e1, s1, w1, w2, w3, w4, w5, w6, w7, w8, w9⟩ := c4 i (by omega)
      have x1 : (mI (mI (mI (mI R 45 0 n (R.1 25 0 e)) 46 0 n (nI s)) 20 0 29 (R.1 20 0 29 + 1)) 20 0 37 (R.1 20 0 37 + 1)).1 45 0 i = R.1 45 0 i := by simp [mI, xu, hin]
      refine ⟨e1, s1, w1, w2, w3, by simp [mI, mR, xu, hin, w4], by simp [mI, mR, xu, hin, w5], by simp [mI, xu, hin, w6], ?_, ?_, ?_⟩
      · rw [x1]; exact w7
      · rw [x1]; exact w8
      · rw [x1]; exact w9
theorem c_send {d n e s : Nat} {C R : xM} (h : Inv C R n) (hn : n < 1224) (he : e < 24) (hl : 0 < R.1 25 0 e) (hs1 : 1 ≤ s) (hs : s < 21) : Rn d 23 (0, xen 23 [vR 9 0, vR 0 e, vI (nI s)], [], C) (fun r C' => r = none ∧ Inv C' (f_send R e (nI s)) (n + 1) ∧ C'.1 14 = C.1 14) := by
  have hr := h.2.1.1
  have hlt : C.1 9 0 4 < 1224 := by rw [hr]; exact (nI_ltI (a := n) (b := 1224) (by omega) (by decide)).mpr hn
  have e1 : C.1 9 0 4 + 1 = nI (n + 1) := by rw [hr]; exact nI_1 n
  show Rn _ 23 (0, [some (vR 9 0), some (vR 0 e), some (vI (nI s))], [], _) _
  refine rn_aload_n (pc' := 1) rfl rfl rfl ?_
  refine rn_ifnull (t := 14) (pc' := 4) rfl rfl rfl (fun h8 => ?_) (fun h8 => ?_)
  · refine rn_return rfl rfl ?_
    first | exact absurd hlt h9 | exact nomatch h8
  · refine rn_aload_n (pc' := 5) rfl rfl rfl ?_
    refine rn_getI (N := 1) (pc' := 8) rfl rfl rfl rfl (by decide) rfl (by first | assumption | decide | omega) ?_
    refine rn_sipush (pc' := 11) (v := 1224) rfl rfl (by decide) ?_
    refine rn_ic_lt (t := 15) (pc' := 14) rfl rfl rfl (fun h9 => ?_) (fun h9 => ?_)
    · refine rn_aload_n (pc' := 16) rfl rfl rfl ?_
      refine rn_getF (N := 1) (t' := 12) (pc' := 19) rfl rfl rfl rfl rfl (by first | assumption | decide | omega) ?_
      refine rn_aload_n (pc' := 20) rfl rfl rfl ?_
      refine rn_getI (N := 1) (pc' := 23) rfl rfl rfl rfl (by decide) rfl (by first | assumption | decide | omega) ?_
      refine rn_aload_n (pc' := 24) rfl rfl rfl ?_
      refine rn_aast (t' := 0) (k := n) (N := 1) (K := 1224) (pc' := 25) rfl rfl rfl rfl (by decide) rfl (by first | assumption | decide | omega) rfl (by first | assumption | decide | omega) rfl (by decide) (hr) (by first | assumption | decide | omega) ?_
      refine rn_aload_n (pc' := 26) rfl rfl rfl ?_
      refine rn_getF (N := 1) (t' := 13) (pc' := 29) rfl rfl rfl rfl rfl (by first | assumption | decide | omega) ?_
      refine rn_aload_n (pc' := 30) rfl rfl rfl ?_
      refine rn_getI (N := 1) (pc' := 33) rfl rfl rfl rfl (by decide) rfl (by first | assumption | decide | omega) ?_
      refine rn_iload_n (pc' := 34) rfl rfl rfl ?_
      refine rn_iast (k := n) (N := 1) (K := 1224) (pc' := 35) rfl rfl ⟨rfl, rfl⟩ rfl (by first | assumption | decide | omega) rfl (by decide) (hr) (by first | assumption | decide | omega) ?_
      refine rn_aload_n (pc' := 36) rfl rfl rfl ?_
      refine rn_dupA (pc' := 37) rfl rfl ?_
      refine rn_getI (N := 1) (pc' := 40) rfl rfl rfl rfl (by decide) rfl (by first | assumption | decide | omega) ?_
      refine rn_iconst (pc' := 41) (v := 1) rfl rfl (by decide) ?_
      refine rn_iadd (pc' := 42) rfl rfl ?_
      refine rn_topI (y := nI (n + 1)) e1 ?_
      refine rn_putI (N := 1) (pc' := 45) rfl rfl rfl rfl rfl (by first | assumption | decide | omega) ?_
      refine rn_aload_n (pc' := 46) rfl rfl rfl ?_
      refine rn_dupA (pc' := 47) rfl rfl ?_
      refine rn_getI (N := 1) (pc' := 50) rfl rfl rfl rfl (by decide) rfl (by first | assumption | decide | omega) ?_
      refine rn_iconst (pc' := 51) (v := 1) rfl rfl (by decide) ?_
      refine rn_iadd (pc' := 52) rfl rfl ?_
      refine rn_putI (N := 1) (pc' := 55) rfl rfl rfl rfl rfl (by first | assumption | decide | omega) ?_
      refine rn_return rfl rfl ?_
      exact ⟨rfl, Inv_send h hn he hl hs1 hs, rfl⟩
    · refine rn_return rfl rfl ?_
      first | exact absurd hlt h9 | exact nomatch h8
theorem oAll_false {R : xM} {g : Int32} {i : Nat} (h : oAll R g i = false) : ∀ m, oAll R g (i + m) = false := by
  intro m
  induction m with
  | zero => exact h
  | succ m ih => show (oAll R g (i + m) && _) = false; rw [ih]; rfl
theorem c_isOrphaned {d n : Nat} {C R : xM} (h : Inv C R n) (g : Int32) : Rn d 36 (0, xen 36 [vR 9 0, vI g], [], C) (fun r C' => r = some (vI (bI (orph R g))) ∧ C' = C) := by
  obtain ⟨⟨a1, a2, a3, a4, a5, a6, a7, a8, a9, a10, a11, a12⟩, a13, b1, b2, b3, b4, b5, b7, b9, b10, b11, b14⟩ := h
  have loop : ∀ (m i : Nat) (x6 : Option xV), i + m = 24 → oAll R g i = true → Rn d 36 (14, [some (vR 9 0), some (vI g), some (vI (bI (oAny R g i))), some (vR 11 0), some (vI 24), some (vI (nI i)), x6], [], C) (fun r C' => r = some (vI (bI (orph R g))) ∧ C' = C) := by
    intro m
    induction m with
    | zero =>
      intro i x6 hi ha
      obtain rfl : i = 24 := by omega
      refine rn_iload (pc' := 16) rfl rfl rfl ?_
      refine rn_iload (pc' := 18) rfl rfl rfl ?_
      refine rn_ic_ge (t := 98) (pc' := 21) rfl rfl rfl (fun h1 => ?_) (fun h1 => ?_)
      · refine rn_iload_n (pc' := 99) rfl rfl rfl ?_
        refine rn_zreturn rfl rfl (bI_01 _) ?_
        exact ⟨by unfold orph; rw [ha, Bool.and_true], rfl⟩
      · exact absurd ((lt24 (by omega)).mp h1) (by omega)
    | succ m ih =>
      intro i x6 hi ha
      have hi24 : i < 24 := by omega
      have v0 : C.1 0 i 0 = R.1 25 0 i := f1 a1 hi24 (by decide)
      have v2 : C.1 0 i 2 = R.1 27 0 i := f1 a1 hi24 (by decide)
      have v3 : C.1 0 i 3 = R.1 28 0 i := f1 a1 hi24 (by decide)
      have next : ∀ b, b = oAny R g (i + 1) → (oMem R g i = false ∨ oOk R g i = true) → Rn d 36 (92, [some (vR 9 0), some (vI g), some (vI (bI b)), some (vR 11 0), some (vI 24), some (vI (nI i)), some (vR 0 i)], [], C) (fun r C' => r = some (vI (bI (orph R g))) ∧ C' = C) := by
        intro b hb hc
        subst hb
        have ha' : oAll R g (i + 1) = true := by
          show (oAll R g i && (!oMem R g i || oOk R g i)) = true
          rw [ha]
          rcases hc with hc | hc <;> simp [hc]
        refine rn_iinc (pc' := 95) rfl rfl rfl (nI_inc _) rfl (Nat.le_of_ble_eq_true rfl) rfl ?_
        refine rn_goto (pc' := 14) rfl rfl ?_
        exact ih (i + 1) _ (by omega) ha'
      have skip_ : oMem R g i = false → Rn d 36 (92, [some (vR 9 0), some (vI g), some (vI (bI (oAny R g i))), some (vR 11 0), some (vI 24), some (vI (nI i)), some (vR 0 i)], [], C) (fun r C' => r = some (vI (bI (orph R g))) ∧ C' = C) := by
        intro hm
        refine next _ ?_ (Or.inl hm)
        show _ = (oAny R g i || oMem R g i)
        rw [hm, Bool.or_false]
      have mid : oMem R g i = true → 0 < R.1 25 0 i → Rn d 36 (56, [some (vR 9 0), some (vI g), some (vI (bI (oAny R g i))), some (vR 11 0), some (vI 24), some (vI (nI i)), some (vR 0 i)], [], C) (fun r C' => r = some (vI (bI (orph R g))) ∧ C' = C) := by
        intro hm hl
        have nx1 : oOk R g i = true → Rn d 36 (92, [some (vR 9 0), some (vI g), some (vI 1), some (vR 11 0), some (vI 24), some (vI (nI i)), some (vR 0 i)], [], C) (fun r C' => r = some (vI (bI (orph R g))) ∧ C' = C) := by
          intro ho
          refine next true ?_ (Or.inr ho)
          show _ = (oAny R g i || oMem R g i)
          rw [hm, Bool.or_true]
        have bad : oOk R g i = false → orph R g = false := by
          intro ho
          have h1 : oAll R g (i + 1) = false := by
            show (oAll R g i && (!oMem R g i || oOk R g i)) = false
            rw [ha, hm, ho]; rfl
          have := oAll_false h1 (24 - (i + 1))
          rw [show i + 1 + (24 - (i + 1)) = 24 by omega] at this
          unfold orph
          rw [this, Bool.and_false]
        rcases a9 i hi24 hl with ⟨h0, hp, hr⟩ | ⟨h0, q, hq, hqe, hp, hql, hqs, hr⟩
        · have ho : oOk R g i = false := by
            unfold oOk
            rw [show rpar R i = 0 from hr, eo_no (fun e he q => absurd q.1 (by decide))]
            rfl
          refine rn_iconst (pc' := 57) (v := 1) rfl rfl (by decide) ?_
          refine rn_istore_n (pc' := 58) rfl rfl rfl (Nat.le_of_ble_eq_true rfl) rfl ?_
          refine rn_aload (pc' := 60) rfl rfl rfl ?_
          refine rn_getV (N := 24) (t' := 0) (pc' := 63) rfl rfl rfl rfl (by decide) rfl (by first | assumption | decide | omega) ?_
          refine rn_topO hp ?_
          refine rn_ifnull (t := 90) (pc' := 66) rfl rfl rfl (fun h7 => ?_) (fun h7 => ?_)
          · refine rn_iconst (pc' := 91) (v := 0) rfl rfl (by decide) ?_
            refine rn_zreturn rfl rfl (by decide) ?_
            exact ⟨by rw [bad ho]; rfl, rfl⟩
          · exact absurd rfl h7
        · have g2 : C.1 0 q 2 = R.1 27 0 q := f1 a1 hq (by decide)
          have g0 : C.1 0 q 0 = R.1 25 0 q := f1 a1 hq (by decide)
          have ho : oOk R g i = (decide (R.1 25 0 q = 1) || decide (R.1 27 0 q = g)) := by
            unfold oOk
            rw [show rpar R i = R.1 25 0 q from hr, eo_is b2 hq hql rfl]
          refine rn_iconst (pc' := 57) (v := 1) rfl rfl (by decide) ?_
          refine rn_istore_n (pc' := 58) rfl rfl rfl (Nat.le_of_ble_eq_true rfl) rfl ?_
          refine rn_aload (pc' := 60) rfl rfl rfl ?_
          refine rn_getV (N := 24) (t' := 0) (pc' := 63) rfl rfl rfl rfl (by decide) rfl (by first | assumption | decide | omega) ?_
          refine rn_topO hp ?_
          refine rn_ifnull (t := 90) (pc' := 66) rfl rfl rfl (fun h7 => ?_) (fun h7 => ?_)
          · refine rn_iconst (pc' := 91) (v := 0) rfl rfl (by decide) ?_
            refine rn_zreturn rfl rfl (by decide) ?_
            first | (rw [g2] at h8; rw [g0] at h9; exact ⟨by rw [bad (by rw [ho]; simp [h8, h9])]; rfl, rfl⟩) | exact nomatch h7
          · refine rn_aload (pc' := 68) rfl rfl rfl ?_
            refine rn_getV (N := 24) (t' := 0) (pc' := 71) rfl rfl rfl rfl (by decide) rfl (by first | assumption | decide | omega) ?_
            refine rn_topO hp ?_
            refine rn_getI (N := 24) (pc' := 74) rfl rfl rfl rfl (by decide) rfl (by first | assumption | decide | omega) ?_
            refine rn_iload_n (pc' := 75) rfl rfl rfl ?_
            refine rn_ic_eq (t := 92) (pc' := 78) rfl rfl rfl (fun h8 => ?_) (fun h8 => ?_)
            · (refine nx1 ?_; first | (rw [g2] at h8; rw [ho]; simp [h8]; done) | (rw [g0] at h9; rw [ho]; simp [h9]))
            · refine rn_aload (pc' := 80) rfl rfl rfl ?_
              refine rn_getV (N := 24) (t' := 0) (pc' := 83) rfl rfl rfl rfl (by decide) rfl (by first | assumption | decide | omega) ?_
              refine rn_topO hp ?_
              refine rn_getI (N := 24) (pc' := 86) rfl rfl rfl rfl (by decide) rfl (by first | assumption | decide | omega) ?_
              refine rn_iconst (pc' := 87) (v := 1) rfl rfl (by decide) ?_
              refine rn_ic_eq (t := 92) (pc' := 90) rfl rfl rfl (fun h9 => ?_) (fun h9 => ?_)
              · (refine nx1 ?_; first | (rw [g2] at h8; rw [ho]; simp [h8]; done) | (rw [g0] at h9; rw [ho]; simp [h9]))
              · refine rn_iconst (pc' := 91) (v := 0) rfl rfl (by decide) ?_
                refine rn_zreturn rfl rfl (by decide) ?_
                first | (rw [g2] at h8; rw [g0] at h9; exact ⟨by rw [bad (by rw [ho]; simp [h8, h9])]; rfl, rfl⟩) | exact nomatch h7
      rcases lv_or b1 hi24 with hz | hl
      · refine rn_iload (pc' := 16) rfl rfl rfl ?_
        refine rn_iload (pc' := 18) rfl rfl rfl ?_
        refine rn_ic_ge (t := 98) (pc' := 21) rfl rfl rfl (fun h1 => ?_) (fun h1 => ?_)
        · exact absurd ((lt24 (by omega)).mpr hi24) h1
        · refine rn_aload_n (pc' := 22) rfl rfl rfl ?_
          refine rn_iload (pc' := 24) rfl rfl rfl ?_
          refine rn_aaldF (t' := 0) (N := 1) (K := 24) (pc' := 25) rfl rfl rfl rfl rfl (by first | assumption | decide | omega) rfl (by decide) rfl (by first | assumption | decide | omega) ?_
          refine rn_astore (pc' := 27) rfl rfl rfl (Nat.le_of_ble_eq_true rfl) rfl ?_
          refine rn_aload (pc' := 29) rfl rfl rfl ?_
          refine rn_getI (N := 24) (pc' := 32) rfl rfl rfl rfl (by decide) rfl (by first | assumption | decide | omega) ?_
          refine rn_if_eq (t := 92) (pc' := 35) rfl rfl rfl (fun h2 => ?_) (fun h2 => ?_)
          · exact skip_ (by unfold oMem; rw [show rpid R i = 0 from hz]; simp)
          · exact absurd (v0.trans hz) h2
      · have hne : ¬ C.1 0 i 0 = 0 := by rw [v0]; exact fun q => by rw [q] at hl; exact absurd hl (by decide)
        refine rn_iload (pc' := 16) rfl rfl rfl ?_
        refine rn_iload (pc' := 18) rfl rfl rfl ?_
        refine rn_ic_ge (t := 98) (pc' := 21) rfl rfl rfl (fun h1 => ?_) (fun h1 => ?_)
        · exact absurd ((lt24 (by omega)).mpr hi24) h1
        · refine rn_aload_n (pc' := 22) rfl rfl rfl ?_
          refine rn_iload (pc' := 24) rfl rfl rfl ?_
          refine rn_aaldF (t' := 0) (N := 1) (K := 24) (pc' := 25) rfl rfl rfl rfl rfl (by first | assumption | decide | omega) rfl (by decide) rfl (by first | assumption | decide | omega) ?_
          refine rn_astore (pc' := 27) rfl rfl rfl (Nat.le_of_ble_eq_true rfl) rfl ?_
          refine rn_aload (pc' := 29) rfl rfl rfl ?_
          refine rn_getI (N := 24) (pc' := 32) rfl rfl rfl rfl (by decide) rfl (by first | assumption | decide | omega) ?_
          refine rn_if_eq (t := 92) (pc' := 35) rfl rfl rfl (fun h2 => ?_) (fun h2 => ?_)
          · first | exact absurd h2 hne | (rw [v3] at h4; exact skip_ (by simp [oMem, rpid, rgrp, rste, *])) | (rw [v2] at h3; exact skip_ (by simp [oMem, rpid, rgrp, rste, *]))
          · refine rn_aload (pc' := 37) rfl rfl rfl ?_
            refine rn_getI (N := 24) (pc' := 40) rfl rfl rfl rfl (by decide) rfl (by first | assumption | decide | omega) ?_
            refine rn_iload_n (pc' := 41) rfl rfl rfl ?_
            refine rn_ic_ne (t := 92) (pc' := 44) rfl rfl rfl (fun h3 => ?_) (fun h3 => ?_)
            · first | exact absurd h2 hne | (rw [v3] at h4; exact skip_ (by simp [oMem, rpid, rgrp, rste, *])) | (rw [v2] at h3; exact skip_ (by simp [oMem, rpid, rgrp, rste, *]))
            · refine rn_aload (pc' := 46) rfl rfl rfl ?_
              refine rn_getI (N := 24) (pc' := 49) rfl rfl rfl rfl (by decide) rfl (by first | assumption | decide | omega) ?_
              refine rn_iconst (pc' := 50) (v := 4) rfl rfl (by decide) ?_
              refine rn_ic_ne (t := 56) (pc' := 53) rfl rfl rfl (fun h4 => ?_) (fun h4 => ?_)
              · (rw [v2] at h3; rw [v3] at h4; exact mid (by simp [oMem, rpid, rgrp, rste, *]) hl)
              · refine rn_goto (pc' := 92) rfl rfl ?_
                first | exact absurd h2 hne | (rw [v3] at h4; exact skip_ (by simp [oMem, rpid, rgrp, rste, *])) | (rw [v2] at h3; exact skip_ (by simp [oMem, rpid, rgrp, rste, *]))
  show Rn _ 36 (0, [some (vR 9 0), some (vI g), none, none, none, none, none], [], _) _
  refine rn_iconst (pc' := 1) (v := 0) rfl rfl (by decide) ?_
  refine rn_istore_n (pc' := 2) rfl rfl rfl (Nat.le_of_ble_eq_true rfl) rfl ?_
  refine rn_aload_n (pc' := 3) rfl rfl rfl ?_
  refine rn_getF (N := 1) (t' := 11) (pc' := 6) rfl rfl rfl rfl rfl (by first | assumption | decide | omega) ?_
  refine rn_astore_n (pc' := 7) rfl rfl rfl (Nat.le_of_ble_eq_true rfl) rfl ?_
  refine rn_aload_n (pc' := 8) rfl rfl rfl ?_
  refine rn_alen (N := 1) (K := 24) (pc' := 9) (v := 24) rfl rfl rfl rfl (by first | assumption | decide | omega) rfl rfl ?_
  refine rn_istore (pc' := 11) rfl rfl rfl (Nat.le_of_ble_eq_true rfl) rfl ?_
  refine rn_iconst (pc' := 12) (v := 0) rfl rfl (by decide) ?_
  refine rn_istore (pc' := 14) rfl rfl rfl (Nat.le_of_ble_eq_true rfl) rfl ?_
  exact loop 24 0 none rfl rfl
