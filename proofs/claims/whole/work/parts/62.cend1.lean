theorem mI_comm (M : xM) {t t' : Nat} (a b a' b' : Nat) (v w : Int32) (h : ¬ t = t') : mI (mI M t a b v) t' a' b' w = mI (mI M t' a' b' w) t a b v := by
  refine xM_ext (fun x y z => ?_) rfl
  simp only [mI, xu]
  by_cases h1 : x = t' ∧ y = a' ∧ z = b'
  · rw [if_pos h1, if_neg (fun q => h (q.1.symm.trans h1.1)), if_pos h1]
  · rw [if_neg h1]
    by_cases h2 : x = t ∧ y = a ∧ z = b
    · rw [if_pos h2, if_pos h2]
    · rw [if_neg h2, if_neg h2, if_neg h1]
theorem B3_0 {R : xM} (b1 : B1 R) (b3 : B3 R) {e : Nat} (he : e < 24) (hl : 0 < R.1 25 0 e) : R.1 25 0 0 = 1 := by
  rcases b3 with h | h
  · exact h
  · rw [h e he] at hl; exact absurd hl (by decide)
theorem Inv_par0 {C R : xM} {n i : Nat} (h : Inv C R n) (hi : i < 24) (hi0 : ¬ i = 0) (hl : 0 < R.1 25 0 i) : Inv (mR C 0 i 1 (some 0)) (mI R 26 0 i 1) n := by
  obtain ⟨⟨a1, a2, a3, a4, a5, a6, a7, a8, a9, a10, a11, a12⟩, a13, b1, b2, b3, b4, b5, b7, b9, b10, b11, b14⟩ := h
  have p0 := B3_0 b1 b3 hi hl
  refine ⟨⟨a1, a2, a3, a4, a5, a6, a7, a8, ?_, a10, a11, a12⟩, a13, b1, b2, b3, b4, b5, b7, b9, b10, b11, b14⟩
  intro e' he' hl'
  by_cases hc : e' = i
  · subst hc
    refine Or.inr ⟨hi0, 0, by omega, fun q => hi0 q.symm, by simp [mR, xu], ?_, b10.2, ?_⟩
    · show 0 < R.1 25 0 0
      rw [p0]; decide
    · show (mI R 26 0 e' 1).1 26 0 e' = R.1 25 0 0
      rw [p0]; simp [mI, xu]
  · have x1 : (mR C 0 i 1 (some 0)).2.2 0 e' 1 = C.2.2 0 e' 1 := by simp [mR, xu, hc]
    have x2 : (mI R 26 0 i 1).1 26 0 e' = R.1 26 0 e' := by simp [mI, xu, hc]
    rcases a9 e' he' hl' with ⟨q1, q2, q3⟩ | ⟨q1, q, q2, q3, q4, q5, q6, q7⟩
    · exact Or.inl ⟨q1, x1.trans q2, x2.trans q3⟩
    · exact Or.inr ⟨q1, q, q2, q3, x1.trans q4, q5, q6, x2.trans q7⟩
theorem Inv_endC {C R : xM} {n e : Nat} {how : Int32} (h : Inv C R n) (he : e < 24) (he0 : ¬ e = 0) (hch : ∀ k, k < 24 → 0 < R.1 25 0 k → ¬ C.2.2 0 k 1 = some e) : Inv (mI (mJ (mI (mI C 0 e 3 4) 0 e 14 how) 0 e 13 0) 0 e 8 0) (f_endC R e how) n := by
  obtain ⟨⟨a1, a2, a3, a4, a5, a6, a7, a8, a9, a10, a11, a12⟩, a13, b1, b2, b3, b4, b5, b7, b9, b10, b11, b14⟩ := h
  have hs : ∀ e', (f_endC R e how).1 28 0 e' = if e' = e then 4 else R.1 28 0 e' := fun e' => by simp [f_endC, mI, mJ, xu]
  have hp : ∀ e', (f_endC R e how).1 33 0 e' = if e' = e then 0 else R.1 33 0 e' := fun e' => by simp [f_endC, mI, mJ, xu]
  have hw : ∀ e', (f_endC R e how).1 39 0 e' = if e' = e then how else R.1 39 0 e' := fun e' => by simp [f_endC, mI, mJ, xu]
  refine ⟨⟨?_, a2, a3, a4, ?_, ?_, ?_, ?_, ?_, a10, a11, a12⟩, a13, b1, b2, b3, b4, b5, ?_, ?_, ?_, b11, b14⟩
  · intro e' he'
    have := a1 e' he'
    by_cases hc : e' = e
    · subst hc
      obtain ⟨x1, x2, x3, x4, x5, x6, x7, x8, x9, x10⟩ := this
      simp [f_endC, mI, mJ, xu, *]
    · simpa [f_endC, mI, mJ, xu, hc] using this
  · intro e' he'
    have := a5 e' he'
    by_cases hc : e' = e
    · subst hc
      simp [f_endC, mI, mJ, xu]
    · simpa [f_endC, mI, mJ, xu, hc] using this
  · intro e' he'
    have := a6 e' he'
    rw [hp]
    by_cases hc : e' = e
    · subst hc
      simp [mI, mJ, xu]
    · rw [if_neg hc]
      refine ⟨fun q => ?_, fun q => ?_⟩
      · have := this.1 q
        simpa [mI, mJ, xu, hc] using this
      · have := this.2 q
        simpa [mI, mJ, xu, hc] using this
  · intro e' he' hl h3
    rw [hs] at h3
    by_cases hc : e' = e
    · rw [if_pos hc] at h3; exact absurd h3 (by decide)
    · rw [if_neg hc] at h3
      have := a7 e' he' hl h3
      simpa [f_endC, mI, mJ, xu, hc] using this
  · intro e' he' hl h3
    rw [hs] at h3
    by_cases hc : e' = e
    · rw [if_pos hc] at h3; exact absurd h3 (by decide)
    · rw [if_neg hc] at h3
      have := a8 e' he' hl h3
      simpa [f_endC, mI, mJ, xu, hc] using this
  · intro e' he' hl
    rcases a9 e' he' hl with h | ⟨h1, q, h2, h3, h5, h6, h7, h8⟩
    · exact Or.inl h
    · refine Or.inr ⟨h1, q, h2, h3, h5, h6, ?_, h8⟩
      rw [hs]
      split
      · rename_i hq
        subst hq
        exact absurd h5 (hch e' he' hl)
      · exact h7
  · intro e' he' hl
    rw [hp]
    split
    · decide
    · exact b7 e' he' hl
  · intro e' he' h3
    rw [hs] at h3
    by_cases hc : e' = e
    · rw [if_pos hc] at h3; exact absurd h3 (by decide)
    · rw [if_neg hc] at h3
      exact b9 e' he' h3
  · refine ⟨?_, ?_⟩
    · intro e' he' hl h3
      rw [hs] at h3
      by_cases hc : e' = e
      · rw [if_pos hc] at h3; exact absurd rfl h3
      · rw [if_neg hc] at h3
        rw [hw, if_neg hc]
        exact b10.1 e' he' hl h3
    · rw [hs, if_neg (fun q => he0 q.symm)]
      exact b10.2
theorem Inv_free {C R : xM} {n e : Nat} (h : Inv C R n) (he0 : ¬ e = 0) (hch : ∀ k, k < 24 → 0 < R.1 25 0 k → ¬ C.2.2 0 k 1 = some e) : Inv (mI (mR (mI C 0 e 0 0) 0 e 1 none) 0 e 8 0) (mI R 25 0 e 0) n := by
  obtain ⟨⟨a1, a2, a3, a4, a5, a6, a7, a8, a9, a10, a11, a12⟩, ⟨c1, c2, c3, c4⟩, b1, b2, b3, b4, b5, b7, b9, b10, b11, b14⟩ := h
  have hp : ∀ e', (mI R 25 0 e 0).1 25 0 e' = if e' = e then 0 else R.1 25 0 e' := fun e' => by simp [mI, xu]
  have hl' : ∀ e', 0 < (mI R 25 0 e 0).1 25 0 e' → ¬ e' = e ∧ 0 < R.1 25 0 e' := fun e' q => by
    rw [hp] at q
    split at q
    · exact absurd q (by decide)
    · exact ⟨‹_›, q⟩
  refine ⟨⟨?_, a2, a3, a4, a5, ?_, ?_, ?_, ?_, a10, a11, a12⟩, ⟨c1, c2, c3, ?_⟩, ?_, ?_, ?_, ?_, b5, ?_, b9, ?_, b11, b14⟩
  · intro e' he'
    have := a1 e' he'
    by_cases hc : e' = e
    · subst hc
      simpa [mI, mR, xu] using this.2
    · simpa [mI, mR, xu, hc] using this
  · intro e' he'
    have := a6 e' he'
    by_cases hc : e' = e
    · subst hc
      simp [mI, mR, xu]
    · rw [hp, if_neg hc]
      refine ⟨fun q => ?_, fun q => ?_⟩
      · have := this.1 q
        simpa [mI, mR, xu, hc] using this
      · have := this.2 q
        simpa [mI, mR, xu, hc] using this
  · intro e' he' hl h3
    obtain ⟨hc, hl⟩ := hl' e' hl
    have := a7 e' he' hl h3
    simpa [mI, mR, xu, hc] using this
  · intro e' he' hl h3
    obtain ⟨hc, hl⟩ := hl' e' hl
    have := a8 e' he' hl h3
    simpa [mI, mR, xu, hc] using this
  · intro e' he' hl
    obtain ⟨hc, hl⟩ := hl' e' hl
    have x1 : (mI (mR (mI C 0 e 0 0) 0 e 1 none) 0 e 8 0).2.2 0 e' 1 = C.2.2 0 e' 1 := by simp [mI, mR, xu, hc]
    rcases a9 e' he' hl with ⟨q1, q2, q3⟩ | ⟨q1, q, q2, q3, q4, q5, q6, q7⟩
    · exact Or.inl ⟨q1, x1.trans q2, q3⟩
    · have hqe : ¬ q = e := fun z => hch e' he' hl (by rw [← z]; exact q4)
      refine Or.inr ⟨q1, q, q2, q3, x1.trans q4, ?_, q6, ?_⟩
      · rw [hp, if_neg hqe]; exact q5
      · rw [hp, if_neg hqe]; exact q7
  · intro i hi
    obtain ⟨e1, s1, w1, w2, w3, w4, w5, w6, w7, w8, w9⟩ := c4 i hi
    refine ⟨e1, s1, w1, w2, w3, ?_, w5, w6, w7, ?_, ?_⟩
    · simpa [mI, mR, xu] using w4
    · intro e' he' q
      rw [hp] at q
      split at q
      · exact absurd w7 (by rw [show R.1 45 0 i = 0 from q.symm]; decide)
      · exact w8 e' he' q
    · rw [hp]
      split
      · exact Or.inr rfl
      · exact w9
  · intro e' he'
    rw [hp]
    split
    · exact Or.inl rfl
    · exact b1 e' he'
  · intro x y hx hy hl q
    obtain ⟨hc, hl⟩ := hl' x hl
    rw [hp, hp, if_neg hc] at q
    split at q
    · rw [← q] at hl; exact absurd hl (by decide)
    · exact b2 x y hx hy hl q
  · rcases b3 with h | h
    · left
      rw [hp, if_neg (fun q => he0 q.symm)]
      exact h
    · right
      intro e' he'
      rw [hp]
      split
      · rfl
      · exact h e' he'
  · intro e' he' hl
    obtain ⟨hc, hl⟩ := hl' e' hl
    exact b4 e' he' hl
  · intro e' he' hl
    obtain ⟨hc, hl⟩ := hl' e' hl
    exact b7 e' he' hl
  · refine ⟨?_, b10.2⟩
    intro e' he' hl h3
    obtain ⟨hc, hl⟩ := hl' e' hl
    exact b10.1 e' he' hl h3
theorem c_leave {d e : Nat} (C : xM) (he : e < 24) : Rn d 3 (0, xen 3 [vR 0 e], [], C) (fun r C' => r = none ∧ C' = mI (mR (mI C 0 e 0 0) 0 e 1 none) 0 e 8 0) := by
  show Rn _ 3 (0, [some (vR 0 e)], [], _) _
  refine rn_aload_n (pc' := 1) rfl rfl rfl ?_
  refine rn_iconst (pc' := 2) (v := 0) rfl rfl (by decide) ?_
  refine rn_putI (N := 24) (pc' := 5) rfl rfl rfl rfl rfl (by first | assumption | decide | omega) ?_
  refine rn_aload_n (pc' := 6) rfl rfl rfl ?_
  refine rn_aconst_null (pc' := 7) rfl rfl ?_
  refine rn_putV (N := 24) (t' := 0) (o := none) (pc' := 10) rfl rfl rfl rfl (by decide) rfl (by first | assumption | decide | omega) ?_
  refine rn_aload_n (pc' := 11) rfl rfl rfl ?_
  refine rn_iconst (pc' := 12) (v := 0) rfl rfl (by decide) ?_
  refine rn_putI (N := 24) (pc' := 15) rfl rfl rfl rfl rfl (by first | assumption | decide | omega) ?_
  refine rn_return rfl rfl ?_
  exact ⟨rfl, rfl⟩
def wk (b : Bool) (X : xM) : xM := if b = true then f_wake X 1 else X
theorem eo_row {X Y : xM} (h : ∀ e, X.1 25 0 e = Y.1 25 0 e) (p : Int32) : eo X p = eo Y p := eo_congr h p
theorem wake_25 (M : xM) (p : Int32) (t : Nat) (ht : ¬ t = 28) : (f_wake M p).1 t = M.1 t := by
  unfold f_wake
  split
  · rfl
  · split
    · funext a b; simp [mI, xu, ht]
    · rfl
theorem wk_25 (b : Bool) (M : xM) (t : Nat) (ht : ¬ t = 28) : (wk b M).1 t = M.1 t := by
  unfold wk
  split
  · exact wake_25 M 1 t ht
  · rfl
theorem wake_eq {M : xM} {p : Int32} {e : Nat} (h : eo M p = some e) : f_wake M p = if rste M e = 1 then mI M 28 0 e 0 else M := by unfold f_wake; rw [h]
theorem wake_no {M : xM} {p : Int32} (h : eo M p = none) : f_wake M p = M := by unfold f_wake; rw [h]
theorem wk_step (b : Bool) (X : xM) (i : Nat) (v : Int32) : f_wake (mI (wk b X) 26 0 i v) 1 = f_wake (mI X 26 0 i v) 1 := by
  cases b with
  | false => rfl
  | true =>
    have e1 : eo (mI (f_wake X 1) 26 0 i v) 1 = eo X 1 := eo_row (fun e => by show (f_wake X 1).1 25 0 e = _; rw [wake_25 X 1 25 (by decide)]) 1
    have e2 : eo (mI X 26 0 i v) 1 = eo X 1 := eo_row (fun e => rfl) 1
    show f_wake (mI (f_wake X 1) 26 0 i v) 1 = _
    cases h : eo X 1 with
    | none => rw [wake_no h]
    | some e =>
      rw [wake_eq (e1.trans h), wake_eq (e2.trans h)]
      by_cases h1 : rste X e = 1
      · have hw : f_wake X 1 = mI X 28 0 e 0 := by rw [wake_eq h, if_pos h1]
        have s1 : ¬ rste (mI (f_wake X 1) 26 0 i v) e = 1 := by
          rw [hw]
          show ¬ (mI X 28 0 e 0).1 28 0 e = 1
          simp [mI, xu]
        have s2 : rste (mI X 26 0 i v) e = 1 := h1
        rw [if_neg s1, if_pos s2, hw]
        exact mI_comm X 0 e 0 i 0 v (by decide)
      · have hw : f_wake X 1 = X := by rw [wake_eq h, if_neg h1]
        rw [hw]
theorem ch_iff {C R : xM} {n e k : Nat} (h : Inv C R n) (he : e < 24) (hl : 0 < R.1 25 0 e) (hk : k < 24) (hlk : 0 < R.1 25 0 k) : C.2.2 0 k 1 = some e ↔ R.1 26 0 k = R.1 25 0 e := by
  obtain ⟨⟨a1, a2, a3, a4, a5, a6, a7, a8, a9, a10, a11, a12⟩, a13, b1, b2, b3, b4, b5, b7, b9, b10, b11, b14⟩ := h
  rcases a9 k hk hlk with ⟨q1, q2, q3⟩ | ⟨q1, q, q2, q3, q4, q5, q6, q7⟩
  · rw [q2, q3]
    constructor
    · intro z; cases z
    · intro z; rw [← z] at hl; exact absurd hl (by decide)
  · rw [q4, q7]
    constructor
    · intro z; cases z; rfl
    · intro z; rw [b2 e q he q2 hl z]
theorem c_leaveChildren {d n e : Nat} {C R : xM} (h : Inv C R n) (he : e < 24) (hl : 0 < R.1 25 0 e) (he0 : ¬ e = 0) : Rn (d + 1) 32 (0, xen 32 [vR 9 0, vR 0 e], [], C) (fun r C' => r = none ∧ Inv C' (f_endB R e) n ∧ C'.1 14 = C.1 14) := by
  have ef : f_endB R e = wk (acF R e 24) (mRow R 26 0 (rpF R e 24)) := by unfold f_endB wk; rfl
  rw [ef]
  have b1 := h.2.2.1
  have p25 : ∀ b i, (wk b (mRow R 26 0 (rpF R e i))).1 25 = R.1 25 := fun b i => by rw [wk_25 _ _ _ (by decide)]; rfl
  have p26 : ∀ b i k, (wk b (mRow R 26 0 (rpF R e i))).1 26 0 k = rpF R e i k := fun b i k => by rw [wk_25 _ _ _ (by decide)]; rfl
  have loop : ∀ (m i : Nat) (D : xM) (x6 : Option xV), i + m = 24 → Inv D (wk (acF R e i) (mRow R 26 0 (rpF R e i))) n → D.1 14 = C.1 14 → Rn (d + 1) 32 (19, [some (vR 9 0), some (vR 0 e), some (vR 0 0), some (vR 11 0), some (vI 24), some (vI (nI i)), x6], [], D) (fun r C' => r = none ∧ Inv C' (wk (acF R e 24) (mRow R 26 0 (rpF R e 24))) n ∧ C'.1 14 = C.1 14) := by
    intro m
    induction m with
    | zero =>
      intro i D x6 hi hD h14
      obtain rfl : i = 24 := by omega
      refine rn_iload (pc' := 21) rfl rfl rfl ?_
      refine rn_iload (pc' := 23) rfl rfl rfl ?_
      refine rn_ic_ge (t := 65) (pc' := 26) rfl rfl rfl (fun h1 => ?_) (fun h1 => ?_)
      · refine rn_return rfl rfl ?_
        exact ⟨rfl, hD, h14⟩
      · exact absurd ((lt24 (by omega)).mp h1) (by omega)
    | succ m ih =>
      intro i D x6 hi hD h14
      have hi24 : i < 24 := by omega
      have v0 : D.1 0 i 0 = R.1 25 0 i := by
        have := f1 hD.1.1 hi24 (k := 0) (t := 25) (by decide)
        rw [this, p25]
      have rpi : rpF R e i i = R.1 26 0 i := by unfold rpF; rw [if_neg (fun q => absurd q.1 (Nat.lt_irrefl _))]
      have cf : 0 < R.1 25 0 i → (D.2.2 0 i 1 = some e ↔ R.1 26 0 i = R.1 25 0 e) := fun hli => by
        have := ch_iff hD he (by rw [p25]; exact hl) hi24 (by rw [p25]; exact hli)
        rw [p25, p26, rpi] at this
        exact this
      have skip_ : ¬ (0 < R.1 25 0 i ∧ R.1 26 0 i = R.1 25 0 e) → Rn (d + 1) 32 (59, [some (vR 9 0), some (vR 0 e), some (vR 0 0), some (vR 11 0), some (vI 24), some (vI (nI i)), some (vR 0 i)], [], D) (fun r C' => r = none ∧ Inv C' (wk (acF R e 24) (mRow R 26 0 (rpF R e 24))) n ∧ C'.1 14 = C.1 14) := by
        intro hc
        have e1 : acF R e (i + 1) = acF R e i := by
          show (acF R e i || (decide (0 < rpid R i) && decide (rpar R i = rpid R e))) = acF R e i
          have : (decide (0 < rpid R i) && decide (rpar R i = rpid R e)) = false := by simp; exact fun q1 q2 => hc ⟨q1, q2⟩
          rw [this, Bool.or_false]
        have e2 : rpF R e (i + 1) = rpF R e i := by
          funext k
          unfold rpF
          by_cases hk : k = i
          · subst hk
            rw [if_neg (fun q => hc q.2), if_neg (fun q => hc q.2)]
          · by_cases hk2 : k < i ∧ 0 < rpid R k ∧ rpar R k = rpid R e
            · rw [if_pos ⟨by omega, hk2.2⟩, if_pos hk2]
            · rw [if_neg (fun q => hk2 ⟨by omega, q.2⟩), if_neg hk2]
        have := ih (i + 1) D (some (vR 0 i)) (by omega) (by rw [e1, e2]; exact hD) h14
        refine rn_iinc (pc' := 62) rfl rfl rfl (nI_inc _) rfl (Nat.le_of_ble_eq_true rfl) rfl ?_
        refine rn_goto (pc' := 19) rfl rfl ?_
        exact this
      rcases lv_or b1 hi24 with hz | hli
      · refine rn_iload (pc' := 21) rfl rfl rfl ?_
        refine rn_iload (pc' := 23) rfl rfl rfl ?_
        refine rn_ic_ge (t := 65) (pc' := 26) rfl rfl rfl (fun h1 => ?_) (fun h1 => ?_)
        · exact absurd ((lt24 (by omega)).mpr hi24) h1
        · refine rn_aload_n (pc' := 27) rfl rfl rfl ?_
          refine rn_iload (pc' := 29) rfl rfl rfl ?_
          refine rn_aaldF (t' := 0) (N := 1) (K := 24) (pc' := 30) rfl rfl rfl rfl rfl (by first | assumption | decide | omega) rfl (by decide) rfl (by first | assumption | decide | omega) ?_
          refine rn_astore (pc' := 32) rfl rfl rfl (Nat.le_of_ble_eq_true rfl) rfl ?_
          refine rn_aload (pc' := 34) rfl rfl rfl ?_
          refine rn_getI (N := 24) (pc' := 37) rfl rfl rfl rfl (by decide) rfl (by first | assumption | decide | omega) ?_
          refine rn_if_eq (t := 59) (pc' := 40) rfl rfl rfl (fun h2 => ?_) (fun h2 => ?_)
          · exact skip_ (fun q => by rw [hz] at q; exact absurd q.1 (by decide))
          · exact absurd (v0.trans hz) h2
      · have hne : ¬ D.1 0 i 0 = 0 := by rw [v0]; exact fun q => by rw [q] at hli; exact absurd hli (by decide)
        by_cases hc : R.1 26 0 i = R.1 25 0 e
        · have hpe : D.2.2 0 i 1 = some e := (cf hli).mpr hc
          have hi0 : ¬ i = 0 := fun q => by
            subst q
            rcases hD.1.2.2.2.2.2.2.2.2.1 0 (by omega) (by rw [p25]; exact hli) with ⟨q1, q2, q3⟩ | ⟨q1, -⟩
            · rw [q2] at hpe; cases hpe
            · exact q1 rfl
          have hD2 := Inv_par0 hD hi24 hi0 (by rw [p25]; exact hli)
          have p0 : R.1 25 0 0 = 1 := B3_0 b1 h.2.2.2.2.1 hi24 hli
          have heo : eo (mI (wk (acF R e i) (mRow R 26 0 (rpF R e i))) 26 0 i 1) 1 = some 0 := by
            refine eo_is (e := 0) ?_ (by omega) (by decide) ?_
            · exact hD2.2.2.2.1
            · show (wk (acF R e i) (mRow R 26 0 (rpF R e i))).1 25 0 0 = 1
              rw [p25]; exact p0
          have hw := c_wake (d := d) hD2 heo
          have e1 : acF R e (i + 1) = true := by
            show (acF R e i || (decide (0 < rpid R i) && decide (rpar R i = rpid R e))) = true
            simp [rpid, rpar, hli, hc]
          have e2 : upd (rpF R e i) i 1 = rpF R e (i + 1) := by
            funext k
            unfold upd rpF
            by_cases hk : k = i
            · subst hk
              simp only [if_true]
              rw [if_pos ⟨Nat.lt_succ_self _, hli, hc⟩]
            · by_cases hk2 : k < i ∧ 0 < rpid R k ∧ rpar R k = rpid R e
              · rw [if_neg hk, if_pos hk2, if_pos ⟨by omega, hk2.2⟩]
              · rw [if_neg hk, if_neg hk2, if_neg (fun q => hk2 ⟨by omega, q.2⟩)]
          have e3 : f_wake (mI (wk (acF R e i) (mRow R 26 0 (rpF R e i))) 26 0 i 1) 1 = wk (acF R e (i + 1)) (mRow R 26 0 (rpF R e (i + 1))) := by
            rw [wk_step, mRow_put, e2, e1]
            rfl
          rw [e3] at hw
          have fin : ∀ E : xM, Inv E (wk (acF R e (i + 1)) (mRow R 26 0 (rpF R e (i + 1)))) n → E.1 14 = C.1 14 → Rn (d + 1) 32 (59, [some (vR 9 0), some (vR 0 e), some (vR 0 0), some (vR 11 0), some (vI 24), some (vI (nI i)), some (vR 0 i)], [], E) (fun r C' => r = none ∧ Inv C' (wk (acF R e 24) (mRow R 26 0 (rpF R e 24))) n ∧ C'.1 14 = C.1 14) := by
            intro E hE hE14
            have := ih (i + 1) E (some (vR 0 i)) (by omega) hE hE14
            refine rn_iinc (pc' := 62) rfl rfl rfl (nI_inc _) rfl (Nat.le_of_ble_eq_true rfl) rfl ?_
            refine rn_goto (pc' := 19) rfl rfl ?_
            exact this
          refine rn_iload (pc' := 21) rfl rfl rfl ?_
          refine rn_iload (pc' := 23) rfl rfl rfl ?_
          refine rn_ic_ge (t := 65) (pc' := 26) rfl rfl rfl (fun h1 => ?_) (fun h1 => ?_)
          · exact absurd ((lt24 (by omega)).mpr hi24) h1
          · refine rn_aload_n (pc' := 27) rfl rfl rfl ?_
            refine rn_iload (pc' := 29) rfl rfl rfl ?_
            refine rn_aaldF (t' := 0) (N := 1) (K := 24) (pc' := 30) rfl rfl rfl rfl rfl (by first | assumption | decide | omega) rfl (by decide) rfl (by first | assumption | decide | omega) ?_
            refine rn_astore (pc' := 32) rfl rfl rfl (Nat.le_of_ble_eq_true rfl) rfl ?_
            refine rn_aload (pc' := 34) rfl rfl rfl ?_
            refine rn_getI (N := 24) (pc' := 37) rfl rfl rfl rfl (by decide) rfl (by first | assumption | decide | omega) ?_
            refine rn_if_eq (t := 59) (pc' := 40) rfl rfl rfl (fun h2 => ?_) (fun h2 => ?_)
            · first | exact fin _ hI (h149.trans h14) | exact absurd h2 hne | exact absurd rfl h3
            · refine rn_aload (pc' := 42) rfl rfl rfl ?_
              refine rn_getV (N := 24) (t' := 0) (pc' := 45) rfl rfl rfl rfl (by decide) rfl (by first | assumption | decide | omega) ?_
              refine rn_topO hpe ?_
              refine rn_aload_n (pc' := 46) rfl rfl rfl ?_
              refine rn_ac_ne (t := 59) (pc' := 49) rfl rfl rfl (decide_eq_true he) (decide_eq_true he) (fun h3 => ?_) (fun h3 => ?_)
              · first | exact fin _ hI (h149.trans h14) | exact absurd h2 hne | exact absurd rfl h3
              · refine rn_aload (pc' := 51) rfl rfl rfl ?_
                refine rn_aload_n (pc' := 52) rfl rfl rfl ?_
                refine rn_putV (N := 24) (t' := 0) (o := (some 0)) (pc' := 55) rfl rfl rfl rfl (by decide) rfl (by first | assumption | decide | omega) ?_
                refine rn_aload_n (pc' := 56) rfl rfl rfl ?_
                refine rn_callV (pc' := 59) (as := []) rfl rfl rfl ⟨Nat.le_of_ble_eq_true rfl, rfl, rfl⟩ rfl (by first | assumption | decide | omega) (Nat.le_of_ble_eq_true rfl) (Nat.le_of_ble_eq_true rfl) rfl hw (fun r9 D9 hz9 => ?_)
                obtain ⟨rfl, hI, h149⟩ := hz9
                first | exact fin _ hI (h149.trans h14) | exact absurd h2 hne | exact absurd rfl h3
        · rcases hD.1.2.2.2.2.2.2.2.2.1 i hi24 (by rw [p25]; exact hli) with ⟨q1, q2, q3⟩ | ⟨q1, q, q2, q3, q4, q5, q6, q7⟩
          · refine rn_iload (pc' := 21) rfl rfl rfl ?_
            refine rn_iload (pc' := 23) rfl rfl rfl ?_
            refine rn_ic_ge (t := 65) (pc' := 26) rfl rfl rfl (fun h1 => ?_) (fun h1 => ?_)
            · exact absurd ((lt24 (by omega)).mpr hi24) h1
            · refine rn_aload_n (pc' := 27) rfl rfl rfl ?_
              refine rn_iload (pc' := 29) rfl rfl rfl ?_
              refine rn_aaldF (t' := 0) (N := 1) (K := 24) (pc' := 30) rfl rfl rfl rfl rfl (by first | assumption | decide | omega) rfl (by decide) rfl (by first | assumption | decide | omega) ?_
              refine rn_astore (pc' := 32) rfl rfl rfl (Nat.le_of_ble_eq_true rfl) rfl ?_
              refine rn_aload (pc' := 34) rfl rfl rfl ?_
              refine rn_getI (N := 24) (pc' := 37) rfl rfl rfl rfl (by decide) rfl (by first | assumption | decide | omega) ?_
              refine rn_if_eq (t := 59) (pc' := 40) rfl rfl rfl (fun h2 => ?_) (fun h2 => ?_)
              · exact skip_ (fun q => hc q.2)
              · refine rn_aload (pc' := 42) rfl rfl rfl ?_
                refine rn_getV (N := 24) (t' := 0) (pc' := 45) rfl rfl rfl rfl (by decide) rfl (by first | assumption | decide | omega) ?_
                refine rn_topO q2 ?_
                refine rn_aload_n (pc' := 46) rfl rfl rfl ?_
                refine rn_ac_ne (t := 59) (pc' := 49) rfl rfl rfl rfl (decide_eq_true he) (fun h3 => ?_) (fun h3 => ?_)
                · exact skip_ (fun q => hc q.2)
                · exact nomatch h3
          · have hqe : ¬ q = e := fun z => hc ((cf hli).mp (by rw [← z]; exact q4))
            refine rn_iload (pc' := 21) rfl rfl rfl ?_
            refine rn_iload (pc' := 23) rfl rfl rfl ?_
            refine rn_ic_ge (t := 65) (pc' := 26) rfl rfl rfl (fun h1 => ?_) (fun h1 => ?_)
            · exact absurd ((lt24 (by omega)).mpr hi24) h1
            · refine rn_aload_n (pc' := 27) rfl rfl rfl ?_
              refine rn_iload (pc' := 29) rfl rfl rfl ?_
              refine rn_aaldF (t' := 0) (N := 1) (K := 24) (pc' := 30) rfl rfl rfl rfl rfl (by first | assumption | decide | omega) rfl (by decide) rfl (by first | assumption | decide | omega) ?_
              refine rn_astore (pc' := 32) rfl rfl rfl (Nat.le_of_ble_eq_true rfl) rfl ?_
              refine rn_aload (pc' := 34) rfl rfl rfl ?_
              refine rn_getI (N := 24) (pc' := 37) rfl rfl rfl rfl (by decide) rfl (by first | assumption | decide | omega) ?_
              refine rn_if_eq (t := 59) (pc' := 40) rfl rfl rfl (fun h2 => ?_) (fun h2 => ?_)
              · exact skip_ (fun q => hc q.2)
              · refine rn_aload (pc' := 42) rfl rfl rfl ?_
                refine rn_getV (N := 24) (t' := 0) (pc' := 45) rfl rfl rfl rfl (by decide) rfl (by first | assumption | decide | omega) ?_
                refine rn_topO q4 ?_
                refine rn_aload_n (pc' := 46) rfl rfl rfl ?_
                refine rn_ac_ne (t := 59) (pc' := 49) rfl rfl rfl (decide_eq_true q2) (decide_eq_true he) (fun h3 => ?_) (fun h3 => ?_)
                · exact skip_ (fun q => hc q.2)
                · (have hh := Option.some.inj h3; exact absurd (congrArg Prod.snd hh) hqe)
  have l0 := loop 24 0 C none rfl (by
    have e0 : rpF R e 0 = R.1 26 0 := by
      funext k
      unfold rpF
      rw [if_neg (fun q => absurd q.1 (Nat.not_lt_zero _))]
    show Inv C (wk (acF R e 0) (mRow R 26 0 (rpF R e 0))) n
    rw [e0, mRow_id]
    exact h) rfl
  show Rn _ 32 (0, [some (vR 9 0), some (vR 0 e), none, none, none, none, none], [], _) _
  refine rn_aload_n (pc' := 1) rfl rfl rfl ?_
  refine rn_getF (N := 1) (t' := 11) (pc' := 4) rfl rfl rfl rfl rfl (by first | assumption | decide | omega) ?_
  refine rn_iconst (pc' := 5) (v := 0) rfl rfl (by decide) ?_
  refine rn_aaldF (t' := 0) (k := 0) (N := 1) (K := 24) (pc' := 6) rfl rfl rfl rfl rfl (by first | assumption | decide | omega) rfl (by decide) (by decide) (by first | assumption | decide | omega) ?_
  refine rn_astore_n (pc' := 7) rfl rfl rfl (Nat.le_of_ble_eq_true rfl) rfl ?_
  refine rn_aload_n (pc' := 8) rfl rfl rfl ?_
  refine rn_getF (N := 1) (t' := 11) (pc' := 11) rfl rfl rfl rfl rfl (by first | assumption | decide | omega) ?_
  refine rn_astore_n (pc' := 12) rfl rfl rfl (Nat.le_of_ble_eq_true rfl) rfl ?_
  refine rn_aload_n (pc' := 13) rfl rfl rfl ?_
  refine rn_alen (N := 1) (K := 24) (pc' := 14) (v := 24) rfl rfl rfl rfl (by first | assumption | decide | omega) rfl rfl ?_
  refine rn_istore (pc' := 16) rfl rfl rfl (Nat.le_of_ble_eq_true rfl) rfl ?_
  refine rn_iconst (pc' := 17) (v := 0) rfl rfl (by decide) ?_
  refine rn_istore (pc' := 19) rfl rfl rfl (Nat.le_of_ble_eq_true rfl) rfl ?_
  exact l0
def care (R : xM) (e k : Nat) : Bool := !decide (k = e) && (decide (0 < R.1 25 0 k) && (decide (R.1 28 0 k = 3) && !orph R (R.1 27 0 k)))
theorem Inv_14 {C R : xM} {n : Nat} (h : Inv C R n) (f : Nat → Int32) : Inv (mRow C 14 0 f) R n := h
theorem c_note {d n e : Nat} {C R : xM} (h : Inv C R n) (he : e < 24) : Rn (d + 1) 33 (0, xen 33 [vR 9 0, vR 0 e], [], C) (fun r C' => r = none ∧ Inv C' R n ∧ ∀ k, k < 24 → C'.1 14 0 k = bI (care R e k)) := by
  have a1 := h.1.1
  have b1 := h.2.2.1
  have loop : ∀ (m i : Nat) (D : xM) (x3 : Option xV), i + m = 24 → Inv D R n → (∀ k, k < i → D.1 14 0 k = bI (care R e k)) → Rn (d + 1) 33 (2, [some (vR 9 0), some (vR 0 e), some (vI (nI i)), x3], [], D) (fun r C' => r = none ∧ Inv C' R n ∧ ∀ k, k < 24 → C'.1 14 0 k = bI (care R e k)) := by
    intro m
    induction m with
    | zero =>
      intro i D x3 hi hD hq
      obtain rfl : i = 24 := by omega
      refine rn_iload_n (pc' := 3) rfl rfl rfl ?_
      refine rn_bipush (pc' := 5) (v := 24) rfl rfl (by decide) ?_
      refine rn_ic_ge (t := 63) (pc' := 8) rfl rfl rfl (fun h1 => ?_) (fun h1 => ?_)
      · refine rn_return rfl rfl ?_
        exact ⟨rfl, hD, hq⟩
      · exact absurd ((lt24 (by omega)).mp h1) (by omega)
    | succ m ih =>
      intro i D x3 hi hD hq
      have hi24 : i < 24 := by omega
      have v0 : D.1 0 i 0 = R.1 25 0 i := f1 hD.1.1 hi24 (by decide)
      have v2 : D.1 0 i 2 = R.1 27 0 i := f1 hD.1.1 hi24 (by decide)
      have v3 : D.1 0 i 3 = R.1 28 0 i := f1 hD.1.1 hi24 (by decide)
      have key : ∀ x, x = bI (care R e i) → Rn (d + 1) 33 (56, [some (vR 9 0), some (vR 0 e), some (vI (nI i)), some (vR 0 i)], [vI x, vI (nI i), vR 14 0], D) (fun r C' => r = none ∧ Inv C' R n ∧ ∀ k, k < 24 → C'.1 14 0 k = bI (care R e k)) := by
        intro x hx
        subst hx
        have := ih (i + 1) (mI D 14 0 i (bI (care R e i))) (some (vR 0 i)) (by omega) hD (fun k hk => by
          by_cases hki : k = i
          · subst hki; simp [mI, xu]
          · have := hq k (by omega)
            simpa [mI, xu, hki] using this)
        refine rn_bast (N := 1) (K := 24) (pc' := 57) rfl rfl ⟨rfl, rfl⟩ rfl (by first | assumption | decide | omega) rfl (by decide) rfl (by first | assumption | decide | omega) (bI_01 _) ?_
        refine rn_iinc (pc' := 60) rfl rfl rfl (nI_inc _) rfl (Nat.le_of_ble_eq_true rfl) rfl ?_
        refine rn_goto (pc' := 2) rfl rfl ?_
        exact this
      have hio := c_isOrphaned (d := d) hD (R.1 27 0 i)
      have ho5 : ¬ bI (orph R (R.1 27 0 i)) = 0 → orph R (R.1 27 0 i) = true := fun q => by simpa [bI_0] using q
      have hzero : ∀ x : Int32, x = 0 → ¬ 0 < x := fun x hx => by rw [hx]; decide
      have hpos : ¬ R.1 25 0 i = 0 → 0 < R.1 25 0 i := fun q => (lv_or b1 hi24).resolve_left q
      refine rn_iload_n (pc' := 3) rfl rfl rfl ?_
      refine rn_bipush (pc' := 5) (v := 24) rfl rfl (by decide) ?_
      refine rn_ic_ge (t := 63) (pc' := 8) rfl rfl rfl (fun h1 => ?_) (fun h1 => ?_)
      · exact absurd ((lt24 (by omega)).mpr hi24) h1
      · refine rn_aload_n (pc' := 9) rfl rfl rfl ?_
        refine rn_getF (N := 1) (t' := 11) (pc' := 12) rfl rfl rfl rfl rfl (by first | assumption | decide | omega) ?_
        refine rn_iload_n (pc' := 13) rfl rfl rfl ?_
        refine rn_aaldF (t' := 0) (N := 1) (K := 24) (pc' := 14) rfl rfl rfl rfl rfl (by first | assumption | decide | omega) rfl (by decide) rfl (by first | assumption | decide | omega) ?_
        refine rn_astore_n (pc' := 15) rfl rfl rfl (Nat.le_of_ble_eq_true rfl) rfl ?_
        refine rn_aload_n (pc' := 16) rfl rfl rfl ?_
        refine rn_getF (N := 1) (t' := 14) (pc' := 19) rfl rfl rfl rfl rfl (by first | assumption | decide | omega) ?_
        refine rn_iload_n (pc' := 20) rfl rfl rfl ?_
        refine rn_aload_n (pc' := 21) rfl rfl rfl ?_
        refine rn_aload_n (pc' := 22) rfl rfl rfl ?_
        refine rn_ac_eq (t := 55) (pc' := 25) rfl rfl rfl (decide_eq_true hi24) (decide_eq_true he) (fun h2 => ?_) (fun h2 => ?_)
        · refine rn_iconst (pc' := 56) (v := 0) rfl rfl (by decide) ?_
          (refine key _ ?_; first | (have ho := (bI_0 _).mp h5; rw [v0] at h3; rw [v3] at h4; have h2' : ¬ i = e := fun z => h2 (by rw [z]); simp [care, bI, ho, h2', hpos h3, h4]; done) | (have ho := ho5 h5; simp [care, bI, ho]; done) | (have h2' : i = e := congrArg Prod.snd (Option.some.inj h2); simp [care, bI, h2']; done) | (rw [v3] at h4; simp [care, bI, h4]; done) | (rw [v0] at h3; simp [care, bI, hzero _ h3]; done))
        · refine rn_aload_n (pc' := 26) rfl rfl rfl ?_
          refine rn_getI (N := 24) (pc' := 29) rfl rfl rfl rfl (by decide) rfl (by first | assumption | decide | omega) ?_
          refine rn_if_eq (t := 55) (pc' := 32) rfl rfl rfl (fun h3 => ?_) (fun h3 => ?_)
          · refine rn_iconst (pc' := 56) (v := 0) rfl rfl (by decide) ?_
            (refine key _ ?_; first | (have ho := (bI_0 _).mp h5; rw [v0] at h3; rw [v3] at h4; have h2' : ¬ i = e := fun z => h2 (by rw [z]); simp [care, bI, ho, h2', hpos h3, h4]; done) | (have ho := ho5 h5; simp [care, bI, ho]; done) | (have h2' : i = e := congrArg Prod.snd (Option.some.inj h2); simp [care, bI, h2']; done) | (rw [v3] at h4; simp [care, bI, h4]; done) | (rw [v0] at h3; simp [care, bI, hzero _ h3]; done))
          · refine rn_aload_n (pc' := 33) rfl rfl rfl ?_
            refine rn_getI (N := 24) (pc' := 36) rfl rfl rfl rfl (by decide) rfl (by first | assumption | decide | omega) ?_
            refine rn_iconst (pc' := 37) (v := 3) rfl rfl (by decide) ?_
            refine rn_ic_ne (t := 55) (pc' := 40) rfl rfl rfl (fun h4 => ?_) (fun h4 => ?_)
            · refine rn_iconst (pc' := 56) (v := 0) rfl rfl (by decide) ?_
              (refine key _ ?_; first | (have ho := (bI_0 _).mp h5; rw [v0] at h3; rw [v3] at h4; have h2' : ¬ i = e := fun z => h2 (by rw [z]); simp [care, bI, ho, h2', hpos h3, h4]; done) | (have ho := ho5 h5; simp [care, bI, ho]; done) | (have h2' : i = e := congrArg Prod.snd (Option.some.inj h2); simp [care, bI, h2']; done) | (rw [v3] at h4; simp [care, bI, h4]; done) | (rw [v0] at h3; simp [care, bI, hzero _ h3]; done))
            · refine rn_aload_n (pc' := 41) rfl rfl rfl ?_
              refine rn_aload_n (pc' := 42) rfl rfl rfl ?_
              refine rn_getI (N := 24) (pc' := 45) rfl rfl rfl rfl (by decide) rfl (by first | assumption | decide | omega) ?_
              refine rn_topI v2 ?_
              refine rn_callV (pc' := 48) (as := [_]) rfl rfl rfl ⟨Nat.le_of_ble_eq_true rfl, rfl, rfl⟩ rfl (by first | assumption | decide | omega) (Nat.le_of_ble_eq_true rfl) (Nat.le_of_ble_eq_true rfl) rfl hio (fun r5 M5 hz => ?_)
              obtain ⟨rfl, hm_⟩ := hz
              refine rn_mem hm_ ?_
              clear hm_
              refine rn_if_ne (t := 55) (pc' := 51) rfl rfl rfl (fun h5 => ?_) (fun h5 => ?_)
              · refine rn_iconst (pc' := 56) (v := 0) rfl rfl (by decide) ?_
                (refine key _ ?_; first | (have ho := (bI_0 _).mp h5; rw [v0] at h3; rw [v3] at h4; have h2' : ¬ i = e := fun z => h2 (by rw [z]); simp [care, bI, ho, h2', hpos h3, h4]; done) | (have ho := ho5 h5; simp [care, bI, ho]; done) | (have h2' : i = e := congrArg Prod.snd (Option.some.inj h2); simp [care, bI, h2']; done) | (rw [v3] at h4; simp [care, bI, h4]; done) | (rw [v0] at h3; simp [care, bI, hzero _ h3]; done))
              · refine rn_iconst (pc' := 52) (v := 1) rfl rfl (by decide) ?_
                refine rn_goto (pc' := 56) rfl rfl ?_
                (refine key _ ?_; first | (have ho := (bI_0 _).mp h5; rw [v0] at h3; rw [v3] at h4; have h2' : ¬ i = e := fun z => h2 (by rw [z]); simp [care, bI, ho, h2', hpos h3, h4]; done) | (have ho := ho5 h5; simp [care, bI, ho]; done) | (have h2' : i = e := congrArg Prod.snd (Option.some.inj h2); simp [care, bI, h2']; done) | (rw [v3] at h4; simp [care, bI, h4]; done) | (rw [v0] at h3; simp [care, bI, hzero _ h3]; done))
  show Rn _ 33 (0, [some (vR 9 0), some (vR 0 e), none, none], [], _) _
  refine rn_iconst (pc' := 1) (v := 0) rfl rfl (by decide) ?_
  refine rn_istore_n (pc' := 2) rfl rfl rfl (Nat.le_of_ble_eq_true rfl) rfl ?_
  exact loop 24 0 C none rfl h (fun k hk => absurd hk (Nat.not_lt_zero k))
