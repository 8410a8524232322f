def SL (x y : Int32) : Prop := y = x ∨ (x = 1 ∧ y = 0)
theorem SL.refl (x : Int32) : SL x x := Or.inl rfl
theorem SL.trans {x y z : Int32} (h : SL x y) (k : SL y z) : SL x z := by
  rcases h with rfl | ⟨rfl, rfl⟩
  · exact k
  · rcases k with rfl | ⟨h, -⟩
    · exact Or.inr ⟨rfl, rfl⟩
    · exact absurd h (by decide)
theorem SL.of3 {x y v : Int32} (h : SL x y) (hv : ¬ v = 0) (hv1 : ¬ v = 1) : y = v ↔ x = v := by
  rcases h with rfl | ⟨rfl, rfl⟩
  · exact Iff.rfl
  · exact ⟨fun z => absurd z.symm hv, fun z => absurd z.symm hv1⟩
theorem wake_SL (M : xM) (p : Int32) (k : Nat) : SL (M.1 28 0 k) ((f_wake M p).1 28 0 k) := by
  unfold f_wake
  split
  · exact SL.refl _
  · rename_i e _
    split
    · rename_i h1
      by_cases hk : k = e
      · subst hk
        exact Or.inr ⟨h1, by simp [mI, xu]⟩
      · exact Or.inl (by simp [mI, xu, hk])
    · exact SL.refl _
theorem wake_2 (M : xM) (p : Int32) : (f_wake M p).2 = M.2 := by
  unfold f_wake
  split
  · rfl
  · split <;> rfl
theorem send_2 (M : xM) (e : Nat) (s : Int32) : (f_send M e s).2 = M.2 := rfl
theorem sendTo_row (M : xM) (p s : Int32) (t : Nat) (ht : ¬ (t = 45 ∨ t = 46 ∨ t = 20)) : (f_sendTo M p s).1 t = M.1 t := by
  unfold f_sendTo
  split
  · rfl
  · exact send_row M _ s t ht
theorem endB_row (M : xM) (e : Nat) (t : Nat) (h26 : ¬ t = 26) (h28 : ¬ t = 28) : (f_endB M e).1 t = M.1 t := by
  have e1 : (mRow M 26 0 (rpF M e 24)).1 t = M.1 t := by
    funext a b
    simp only [mRow]
    rw [if_neg (fun z => h26 z.1)]
  unfold f_endB
  split
  · rw [wake_25 _ _ t h28]; exact e1
  · exact e1
theorem endB_26 (M : xM) (e : Nat) : (f_endB M e).1 26 0 = rpF M e 24 := by
  unfold f_endB
  split
  · rw [wake_25 _ _ 26 (by decide)]; rfl
  · rfl
theorem endB_SL (M : xM) (e k : Nat) : SL (M.1 28 0 k) ((f_endB M e).1 28 0 k) := by
  unfold f_endB
  split
  · exact wake_SL (mRow M 26 0 (rpF M e 24)) 1 k
  · exact SL.refl _
theorem endC_row (M : xM) (e : Nat) (how : Int32) (t : Nat) (h1 : ¬ t = 28) (h2 : ¬ t = 33) (h3 : ¬ t = 39) : (f_endC M e how).1 t = M.1 t := by
  funext a b
  simp [f_endC, mI, mJ, xu, h1, h2, h3]
theorem endC_28 (M : xM) (e : Nat) (how : Int32) (k : Nat) : (f_endC M e how).1 28 0 k = if k = e then 4 else M.1 28 0 k := by simp [f_endC, mI, mJ, xu]
theorem endD_row (M : xM) (e : Nat) (u : Option Nat) (t : Nat) (h28 : ¬ t = 28) (h25 : ¬ t = 25) : (f_endD M e u).1 t = M.1 t := by
  unfold f_endD
  split
  · have : (mI (f_wake M (rpar M e)) 25 0 e 0).1 t = (f_wake M (rpar M e)).1 t := by funext a b; simp [mI, xu, h25]
    rw [this, wake_25 _ _ t h28]
  · rw [wake_25 _ _ t h28]
theorem endD_25 (M : xM) (e : Nat) (u : Option Nat) (k : Nat) : (f_endD M e u).1 25 0 k = M.1 25 0 k ∨ (k = e ∧ (f_endD M e u).1 25 0 k = 0) := by
  unfold f_endD
  split
  · by_cases hk : k = e
    · exact Or.inr ⟨hk, by simp [mI, xu, hk]⟩
    · left
      have : (mI (f_wake M (rpar M e)) 25 0 e 0).1 25 0 k = (f_wake M (rpar M e)).1 25 0 k := by simp [mI, xu, hk]
      rw [this, wake_25 _ _ 25 (by decide)]
  · left; rw [wake_25 _ _ 25 (by decide)]
theorem endD_SL (M : xM) (e : Nat) (u : Option Nat) (k : Nat) : SL (M.1 28 0 k) ((f_endD M e u).1 28 0 k) := by
  unfold f_endD
  split
  · exact wake_SL M (rpar M e) k
  · exact wake_SL M (rpar M e) k
theorem end0_facts (M : xM) (e : Nat) (how : Int32) : (∀ t, ¬ t = 49 → ¬ t = 26 → ¬ t = 28 → ¬ t = 33 → ¬ t = 39 → ¬ t = 25 → ¬ (t = 45 ∨ t = 46 ∨ t = 20) → (f_end0 M e how).1 t = M.1 t) ∧ (∀ k, (f_end0 M e how).1 25 0 k = M.1 25 0 k ∨ (k = e ∧ (f_end0 M e how).1 25 0 k = 0)) ∧ (∀ k, ¬ k = e → SL (M.1 28 0 k) ((f_end0 M e how).1 28 0 k)) ∧ (f_end0 M e how).1 28 0 e = 4 ∧ (f_end0 M e how).1 49 0 = woF M 24 := by
  have w28 : ¬ ((28 : Nat) = 45 ∨ (28 : Nat) = 46 ∨ (28 : Nat) = 20) := by decide
  refine ⟨?_, ?_, ?_, ?_, ?_⟩
  · intro t h1 h2 h3 h4 h5 h6 h7
    unfold f_end0 f_endE
    rw [sendTo_row _ _ _ t h7, endD_row _ _ _ t h3 h6, endC_row _ _ _ t h3 h4 h5, endB_row _ _ t h2 h3]
    funext a b
    simp only [f_endA, mRow]
    rw [if_neg (fun z => h1 z.1)]
  · intro k
    unfold f_end0 f_endE
    rw [sendTo_row _ _ _ 25 (by decide)]
    have e1 : ∀ X, (f_endC (f_endB (f_endA M) e) e X).1 25 0 k = M.1 25 0 k := fun X => by
      rw [endC_row _ _ _ 25 (by decide) (by decide) (by decide), endB_row _ _ 25 (by decide) (by decide)]
      rfl
    have := endD_25 (f_endC (f_endB (f_endA M) e) e how) e (eo (f_endB (f_endA M) e) (rpar (f_endB (f_endA M) e) e)) k
    rw [e1] at this
    exact this
  · intro k hk
    unfold f_end0 f_endE
    rw [sendTo_row _ _ _ 28 w28]
    have h2 := endD_SL (f_endC (f_endB (f_endA M) e) e how) e (eo (f_endB (f_endA M) e) (rpar (f_endB (f_endA M) e) e)) k
    rw [endC_28, if_neg hk] at h2
    exact (endB_SL (f_endA M) e k).trans h2
  · unfold f_end0 f_endE
    rw [sendTo_row _ _ _ 28 w28]
    have h2 := endD_SL (f_endC (f_endB (f_endA M) e) e how) e (eo (f_endB (f_endA M) e) (rpar (f_endB (f_endA M) e) e)) e
    rw [endC_28, if_pos rfl] at h2
    exact (h2.of3 (v := 4) (by decide) (by decide)).mpr rfl
  · unfold f_end0 f_endE
    rw [sendTo_row _ _ _ 49 (by decide), endD_row _ _ _ 49 (by decide) (by decide), endC_row _ _ _ 49 (by decide) (by decide) (by decide), endB_row _ _ 49 (by decide) (by decide)]
    rfl
theorem stp_iff (M : xM) (g : Int32) : ∀ k, stpF M g k = true ↔ ∃ j, j < k ∧ 0 < M.1 25 0 j ∧ M.1 27 0 j = g ∧ M.1 28 0 j = 3 := by
  intro k
  induction k with
  | zero => exact ⟨fun h => (by cases h), fun ⟨j, h, _⟩ => absurd h (Nat.not_lt_zero j)⟩
  | succ k ih =>
    unfold stpF
    rw [Bool.or_eq_true, ih, Bool.and_eq_true, Bool.and_eq_true, decide_eq_true_eq, decide_eq_true_eq, decide_eq_true_eq]
    constructor
    · rintro (⟨j, h1, h2⟩ | h)
      · exact ⟨j, by omega, h2⟩
      · exact ⟨k, by omega, h⟩
    · rintro ⟨j, h1, h2⟩
      by_cases hj : j = k
      · subst hj; exact Or.inr h2
      · exact Or.inl ⟨j, by omega, h2⟩
theorem wo_iff (M : xM) {g : Nat} (hg1 : 1 ≤ g) (hg : g < 1000) (hG : gOk M) : ∀ i, i ≤ 24 → (woF M i g = 0 ↔ ∃ k, k < i ∧ 0 < M.1 25 0 k ∧ M.1 27 0 k = nI g ∧ orph M (nI g) = false) := by
  intro i
  induction i with
  | zero =>
    intro _
    constructor
    · intro h
      have : woF M 0 g = 1 := by show (if 1 ≤ g ∧ g < 1000 then (1 : Int32) else _) = 1; rw [if_pos ⟨hg1, hg⟩]
      rw [this] at h; exact absurd h (by decide)
    · rintro ⟨k, h, _⟩; exact absurd h (Nat.not_lt_zero k)
  | succ i ih =>
    intro hi
    have ih := ih (by omega)
    by_cases hl : 0 < rpid M i
    · obtain ⟨g', hg', hgr⟩ := hG i (by omega) hl
      have e1 : woF M (i + 1) g = upd (woF M i) g' (bI (orph M (nI g'))) g := by
        show (if 0 < rpid M i then upd (woF M i) (rgrp M i).toNatClampNeg (bI (orph M (rgrp M i))) else _) g = _
        rw [if_pos hl, hgr, nI_clamp (by omega)]
      rw [e1]
      unfold upd
      by_cases hgg : g = g'
      · subst hgg
        rw [if_pos rfl, bI_0]
        constructor
        · intro h; exact ⟨i, by omega, hl, hgr, h⟩
        · rintro ⟨k, _, _, _, h⟩; exact h
      · rw [if_neg hgg, ih]
        constructor
        · rintro ⟨k, h1, h2⟩; exact ⟨k, by omega, h2⟩
        · rintro ⟨k, h1, h2, h3, h4⟩
          by_cases hk : k = i
          · subst hk
            exact absurd ((nI_eq (by omega) (by omega)).mp (hgr.symm.trans h3)) (fun z => hgg z.symm)
          · exact ⟨k, by omega, h2, h3, h4⟩
    · have e1 : woF M (i + 1) g = woF M i g := by
        show (if 0 < rpid M i then upd (woF M i) (rgrp M i).toNatClampNeg (bI (orph M (rgrp M i))) else woF M i) g = _
        rw [if_neg hl]
      rw [e1, ih]
      constructor
      · rintro ⟨k, h1, h2⟩; exact ⟨k, by omega, h2⟩
      · rintro ⟨k, h1, h2, h3, h4⟩
        by_cases hk : k = i
        · subst hk; exact absurd h2 hl
        · exact ⟨k, by omega, h2, h3, h4⟩
theorem told_iff (M : xM) {e : Nat} (how : Int32) (hG : gOk M) {g : Nat} (hg1 : 1 ≤ g) (hg : g < 1000) : ((f_end0 M e how).1 49 0 g = 0 ∧ stpF (f_end0 M e how) (nI g) 24 = true) ↔ wantd (care M e) (f_end0 M e how) g := by
  obtain ⟨f1, f2, f3, f4, f5⟩ := end0_facts M e how
  have f27 := f1 27 (by decide) (by decide) (by decide) (by decide) (by decide) (by decide) (by decide)
  rw [f5, wo_iff M hg1 hg hG 24 (by omega), stp_iff]
  constructor
  · rintro ⟨⟨k, a1, a2, a3, a4⟩, j, b1, b2, b3, b4⟩
    have hje : ¬ j = e := fun z => by subst z; rw [f4] at b4; exact absurd b4 (by decide)
    rcases f2 j with q | ⟨q, -⟩
    · refine ⟨j, b1, ?_, b3⟩
      rw [q] at b2
      rw [f27] at b3
      have b4' := ((f3 j hje).of3 (v := 3) (by decide) (by decide)).mp b4
      unfold care
      simp [hje, b2, b3, b4', a4]
    · exact absurd q hje
  · rintro ⟨k, a1, a2, a3⟩
    unfold care at a2
    simp only [Bool.and_eq_true, Bool.not_eq_true', decide_eq_false_iff_not, decide_eq_true_eq] at a2
    obtain ⟨q1, q2, q3, q4⟩ := a2
    rw [f27] at a3
    rw [a3] at q4
    refine ⟨⟨k, a1, q2, a3, q4⟩, k, a1, ?_, by rw [f27]; exact a3, ((f3 k q1).of3 (v := 3) (by decide) (by decide)).mpr q3⟩
    rcases f2 k with q | ⟨q, -⟩
    · rw [q]; exact q2
    · exact absurd q q1
