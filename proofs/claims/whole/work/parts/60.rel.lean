def fp : List (Nat × Nat) := [(0, 25), (2, 27), (3, 28), (4, 29), (5, 30), (9, 34), (12, 35), (14, 39), (16, 41), (17, 42)]
def sp : List (Nat × Nat) := [(10, 26), (11, 25), (12, 24), (13, 34), (14, 35), (15, 36), (16, 37), (17, 38), (18, 39)]
def A1l (C R : xM) : Prop := ∀ e, e < 24 → ∀ q ∈ fp, C.1 0 e q.1 = R.1 q.2 0 e
def A1 (C R : xM) : Prop := ∀ e, e < 24 → C.1 0 e 0 = R.1 25 0 e ∧ C.1 0 e 2 = R.1 27 0 e ∧ C.1 0 e 3 = R.1 28 0 e ∧ C.1 0 e 4 = R.1 29 0 e ∧ C.1 0 e 5 = R.1 30 0 e ∧ C.1 0 e 9 = R.1 34 0 e ∧ C.1 0 e 12 = R.1 35 0 e ∧ C.1 0 e 14 = R.1 39 0 e ∧ C.1 0 e 16 = R.1 41 0 e ∧ C.1 0 e 17 = R.1 42 0 e
theorem A1_l {C R : xM} : A1 C R ↔ A1l C R := by
  constructor
  · intro h e he q hq
    obtain ⟨h1, h2, h3, h4, h5, h6, h7, h8, h9, h10⟩ := h e he
    simp only [fp, List.mem_cons, List.not_mem_nil, or_false] at hq
    rcases hq with rfl | rfl | rfl | rfl | rfl | rfl | rfl | rfl | rfl | rfl <;> assumption
  · intro h e he
    exact ⟨h e he (0, 25) (by decide), h e he (2, 27) (by decide), h e he (3, 28) (by decide), h e he (4, 29) (by decide), h e he (5, 30) (by decide), h e he (9, 34) (by decide), h e he (12, 35) (by decide), h e he (14, 39) (by decide), h e he (16, 41) (by decide), h e he (17, 42) (by decide)⟩
def A2 (C R : xM) : Prop := ∀ e, e < 24 → ∀ r, r < 8 → C.1 1 e r = R.1 31 0 (8 * e + r)
def A3 (C R : xM) : Prop := ∀ e, e < 24 → ∀ s, s < 21 → C.1 2 e s = R.1 32 0 (21 * e + s)
def A4 (C R : xM) : Prop := ∀ e, e < 24 → ∀ k, k < 4 → C.1 3 e k = R.1 36 0 (4 * e + k) ∧ C.1 4 e k = R.1 37 0 (4 * e + k)
def A5 (C R : xM) : Prop := ∀ e, e < 24 → C.2.1 0 e 13 = R.2.1 38 0 e
def A6 (C R : xM) : Prop := ∀ e, e < 24 → (0 < R.1 25 0 e → C.1 0 e 8 = R.1 33 0 e) ∧ (R.1 25 0 e = 0 → C.1 0 e 8 = 0)
def A7 (C R : xM) : Prop := ∀ e, e < 24 → 0 < R.1 25 0 e → R.1 28 0 e = 3 → C.1 0 e 15 = R.1 40 0 e
def A8 (C R : xM) : Prop := ∀ e, e < 24 → 0 < R.1 25 0 e → (R.1 28 0 e = 1 ∨ R.1 28 0 e = 2) → C.1 0 e 18 = R.1 43 0 e ∧ R.1 30 0 e + 1 = R.1 44 0 e
def PR (C R : xM) (e : Nat) : Prop := (e = 0 ∧ C.2.2 0 e 1 = none ∧ R.1 26 0 e = 0) ∨ (¬ e = 0 ∧ ∃ q, q < 24 ∧ ¬ q = e ∧ C.2.2 0 e 1 = some q ∧ 0 < R.1 25 0 q ∧ ¬ R.1 28 0 q = 4 ∧ R.1 26 0 e = R.1 25 0 q)
def A9 (C R : xM) : Prop := ∀ e, e < 24 → 0 < R.1 25 0 e → PR C R e
def A10l (C R : xM) : Prop := ∀ q ∈ sp, C.1 9 0 q.1 = R.1 20 0 q.2
def A10 (C R : xM) : Prop := C.1 9 0 10 = R.1 20 0 26 ∧ C.1 9 0 11 = R.1 20 0 25 ∧ C.1 9 0 12 = R.1 20 0 24 ∧ C.1 9 0 13 = R.1 20 0 34 ∧ C.1 9 0 14 = R.1 20 0 35 ∧ C.1 9 0 15 = R.1 20 0 36 ∧ C.1 9 0 16 = R.1 20 0 37 ∧ C.1 9 0 17 = R.1 20 0 38 ∧ C.1 9 0 18 = R.1 20 0 39
theorem A10_l {C R : xM} : A10 C R ↔ A10l C R := by
  constructor
  · intro h q hq
    obtain ⟨h1, h2, h3, h4, h5, h6, h7, h8, h9⟩ := h
    simp only [sp, List.mem_cons, List.not_mem_nil, or_false] at hq
    rcases hq with rfl | rfl | rfl | rfl | rfl | rfl | rfl | rfl | rfl <;> assumption
  · intro h
    exact ⟨h (10, 26) (by decide), h (11, 25) (by decide), h (12, 24) (by decide), h (13, 34) (by decide), h (14, 35) (by decide), h (15, 36) (by decide), h (16, 37) (by decide), h (17, 38) (by decide), h (18, 39) (by decide)⟩
def A11 (C R : xM) : Prop := ∃ g, g < 2 ^ 31 ∧ R.1 20 0 31 = nI g ∧ C.1 9 0 9 = nI (g % 40) ∧ C.1 9 0 8 = nI (lgN g) ∧ ∀ i, i < 40 → C.1 15 0 i = R.1 47 0 i ∧ C.1 16 0 i = R.1 48 0 i
def A12 (C R : xM) : Prop := ∀ p, p < 16 → C.1 5 p 3 = R.1 21 0 p ∧ ∀ i, i < 60 → C.1 6 p i = R.1 22 0 (60 * p + i) ∧ C.1 7 p i = R.1 23 0 (60 * p + i) ∧ C.1 8 p i = R.1 24 0 (60 * p + i)
def RW (C R : xM) (i : Nat) : Prop := ∃ e s, e < 24 ∧ 1 ≤ s ∧ s < 21 ∧ C.2.2 12 0 i = some e ∧ C.1 13 0 i = nI s ∧ R.1 46 0 i = nI s ∧ 0 < R.1 45 0 i ∧ (∀ e', e' < 24 → R.1 25 0 e' = R.1 45 0 i → e' = e) ∧ (R.1 25 0 e = R.1 45 0 i ∨ R.1 25 0 e = 0)
def A13 (C R : xM) (n : Nat) : Prop := C.1 9 0 4 = nI n ∧ rok R n ∧ n ≤ 1224 ∧ ∀ i, i < n → RW C R i
def B1 (R : xM) : Prop := ∀ e, e < 24 → R.1 25 0 e = 0 ∨ ∃ p, 1 ≤ p ∧ p ≤ 999 ∧ R.1 25 0 e = nI p
def B2 (R : xM) : Prop := ∀ e e', e < 24 → e' < 24 → 0 < R.1 25 0 e → R.1 25 0 e' = R.1 25 0 e → e' = e
def B3 (R : xM) : Prop := R.1 25 0 0 = 1 ∨ ∀ e, e < 24 → R.1 25 0 e = 0
def B4 (R : xM) : Prop := ∀ e, e < 24 → 0 < R.1 25 0 e → ∃ g, 1 ≤ g ∧ g < 1000 ∧ R.1 27 0 e = nI g
def B5 (R : xM) : Prop := ∀ e, e < 24 → (∃ p, p < 16 ∧ R.1 29 0 e = nI p) ∧ (∃ h, h ≤ 4 ∧ R.1 35 0 e = nI h)
def B7 (R : xM) : Prop := ∀ e, e < 24 → 0 < R.1 25 0 e → R.1 33 0 e &&& 2097150 = R.1 33 0 e
def B8 (R : xM) (t : Nat) : Prop := R.1 20 0 26 = nI t ∧ t < 2 ^ 30 ∧ ∀ e, e < 24 → 0 < R.1 25 0 e → R.2.1 38 0 e = 0 ∨ (nI t).toInt64 < R.2.1 38 0 e
def B9 (R : xM) : Prop := ∀ e, e < 24 → (R.1 28 0 e = 1 ∨ R.1 28 0 e = 2) → ∃ w, w < 8 ∧ R.1 43 0 e = nI w
def B10 (R : xM) : Prop := (∀ e, e < 24 → 0 < R.1 25 0 e → ¬ R.1 28 0 e = 4 → R.1 39 0 e = 0) ∧ ¬ R.1 28 0 0 = 4
def B11 (R : xM) : Prop := (∃ l, l ≤ 999 ∧ R.1 20 0 24 = nI l) ∧ (∃ t, t < 24 ∧ R.1 20 0 25 = nI t) ∧ R.1 20 0 30 = nI (R.1 20 0 30).toNatClampNeg
def B14 (R : xM) : Prop := (∀ p, p < 16 → ∃ n, n ≤ 60 ∧ R.1 21 0 p = nI n) ∧ ∀ e, e < 24 → R.1 32 0 (21 * e) = 0
def IC (C R : xM) : Prop := A1 C R ∧ A2 C R ∧ A3 C R ∧ A4 C R ∧ A5 C R ∧ A6 C R ∧ A7 C R ∧ A8 C R ∧ A9 C R ∧ A10 C R ∧ A11 C R ∧ A12 C R
def IR (R : xM) : Prop := B1 R ∧ B2 R ∧ B3 R ∧ B4 R ∧ B5 R ∧ B7 R ∧ B9 R ∧ B10 R ∧ B11 R ∧ B14 R
def Inv (C R : xM) (n : Nat) : Prop := IC C R ∧ A13 C R n ∧ IR R
theorem fp_in {k t : Nat} (h : (k, t) ∈ fp) : ∀ q ∈ fp, (q.1 = k ↔ q.2 = t) := by
  have h0 : ∀ a ∈ fp, ∀ q ∈ fp, (q.1 = a.1 ↔ q.2 = a.2) := by decide
  exact h0 (k, t) h
theorem sp_in {k t : Nat} (h : (k, t) ∈ sp) : ∀ q ∈ sp, (q.1 = k ↔ q.2 = t) := by
  have h0 : ∀ a ∈ sp, ∀ q ∈ sp, (q.1 = a.1 ↔ q.2 = a.2) := by decide
  exact h0 (k, t) h
theorem A1_set {C R : xM} {e k t : Nat} {v : Int32} (h : A1 C R) (hk : (k, t) ∈ fp) : A1 (mI C 0 e k v) (mI R t 0 e v) := by
  rw [A1_l] at h ⊢
  intro e' he' q hq
  have hi := fp_in hk q hq
  simp only [mI, xu, true_and]
  by_cases h1 : e' = e ∧ q.1 = k
  · rw [if_pos h1, if_pos ⟨hi.mp h1.2, h1.1⟩]
  · rw [if_neg h1, if_neg (fun z => h1 ⟨z.2, hi.mpr z.1⟩)]
    exact h e' he' q hq
theorem A2_set {C R : xM} {e r : Nat} {v : Int32} (h : A2 C R) (hr : r < 8) : A2 (mI C 1 e r v) (mI R 31 0 (8 * e + r) v) := by
  intro e' he' r' hr'
  simp only [mI, xu, true_and]
  by_cases h1 : e' = e ∧ r' = r
  · rw [if_pos h1, if_pos (by omega)]
  · rw [if_neg h1, if_neg (by omega)]
    exact h e' he' r' hr'
theorem A3_set {C R : xM} {e r : Nat} {v : Int32} (h : A3 C R) (hr : r < 21) : A3 (mI C 2 e r v) (mI R 32 0 (21 * e + r) v) := by
  intro e' he' r' hr'
  simp only [mI, xu, true_and]
  by_cases h1 : e' = e ∧ r' = r
  · rw [if_pos h1, if_pos (by omega)]
  · rw [if_neg h1, if_neg (by omega)]
    exact h e' he' r' hr'
theorem A10_set {C R : xM} {k t : Nat} {v : Int32} (h : A10 C R) (hk : (k, t) ∈ sp) : A10 (mI C 9 0 k v) (mI R 20 0 t v) := by
  rw [A10_l] at h ⊢
  intro q hq
  have hi := sp_in hk q hq
  simp only [mI, xu, true_and]
  by_cases h1 : q.1 = k
  · rw [if_pos h1, if_pos (hi.mp h1)]
  · rw [if_neg h1, if_neg (fun z => h1 (hi.mpr z))]
    exact h q hq
theorem f1 {C R : xM} (h : A1 C R) {e : Nat} (he : e < 24) {k t : Nat} (hk : (k, t) ∈ fp) : C.1 0 e k = R.1 t 0 e := A1_l.mp h e he (k, t) hk
theorem lv_or {R : xM} (h : B1 R) {e : Nat} (he : e < 24) : R.1 25 0 e = 0 ∨ 0 < R.1 25 0 e := by
  rcases h e he with h | ⟨p, h1, h2, h3⟩
  · exact Or.inl h
  · right
    rw [h3]
    exact nI_lt (a := 0) (by omega) (by omega)
theorem Inv_ste0 {C R : xM} {n e : Nat} (h : Inv C R n) (h4 : ¬ R.1 28 0 e = 4) : Inv (mI C 0 e 3 0) (mI R 28 0 e 0) n := by
  obtain ⟨⟨a1, a2, a3, a4, a5, a6, a7, a8, a9, a10, a11, a12⟩, a13, b1, b2, b3, b4, b5, b7, b9, b10, b11, b14⟩ := h
  have hs : ∀ e', (mI R 28 0 e 0).1 28 0 e' = if e' = e then 0 else R.1 28 0 e' := fun e' => by simp [mI, xu]
  refine ⟨⟨A1_set a1 (by decide), a2, a3, a4, a5, ?_, ?_, ?_, ?_, a10, a11, a12⟩, a13, b1, b2, b3, b4, b5, b7, ?_, ?_, b11, b14⟩
  · intro e' he'
    have := a6 e' he'
    exact ⟨fun q => by simpa [mI, xu] using this.1 q, fun q => by simpa [mI, xu] using this.2 q⟩
  · intro e' he' hl h3
    rw [hs] at h3
    by_cases hc : e' = e
    · rw [if_pos hc] at h3; exact absurd h3 (by decide)
    · rw [if_neg hc] at h3
      have := a7 e' he' hl h3
      simpa [mI, xu] using this
  · intro e' he' hl h3
    rw [hs] at h3
    by_cases hc : e' = e
    · rw [if_pos hc] at h3; exact absurd h3 (by decide)
    · rw [if_neg hc] at h3
      have := a8 e' he' hl h3
      simpa [mI, xu] using this
  · intro e' he' hl
    rcases a9 e' he' hl with h | ⟨h1, q, h2, h3, h5, h6, h7, h8⟩
    · exact Or.inl h
    · refine Or.inr ⟨h1, q, h2, h3, h5, h6, ?_, h8⟩
      rw [hs]
      split
      · decide
      · exact h7
  · intro e' he' h3
    rw [hs] at h3
    by_cases hc : e' = e
    · rw [if_pos hc] at h3; exact absurd h3 (by decide)
    · rw [if_neg hc] at h3
      exact b9 e' he' h3
  · refine ⟨?_, ?_⟩
    · intro e' he' hl h3
      rw [hs] at h3
      by_cases hc : e' = e
      · subst hc
        exact b10.1 e' he' hl h4
      · rw [if_neg hc] at h3
        exact b10.1 e' he' hl h3
    · rw [hs]
      split
      · decide
      · exact b10.2
