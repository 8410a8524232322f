theorem Rn.ex {d j : Nat} {c : xC} {Z : Option xV → xM → Prop} (h : Rn d j c Z) : ∃ r M, Z r M := by
  obtain ⟨n, r, M, _, h⟩ := h
  exact ⟨r, M, h⟩
def lvB (M : xM) (k : Nat) : Bool := decide (0 < M.1 25 0 k) && (!decide (M.1 25 0 k = 1) && !decide (M.1 28 0 k = 4))
theorem lvB_iff (M : xM) (k : Nat) : lvB M k = true ↔ 0 < M.1 25 0 k ∧ ¬ M.1 25 0 k = 1 ∧ ¬ M.1 28 0 k = 4 := by simp [lvB]
def NS (M : xM) (w n : Nat) : Prop := ∀ i, w ≤ i → i < n → ¬ M.1 46 0 i = 19 ∧ ¬ M.1 46 0 i = 20
def Pt (M : xM) (n w g : Nat) : Prop := rok M n ∧ NS M w n ∧ n + 49 * cnt (lvB M) 24 + g ≤ 1224
def Ext (M N : xM) (n n' : Nat) : Prop := rok N n' ∧ n ≤ n' ∧ (∀ i, i < n → N.1 46 0 i = M.1 46 0 i) ∧ NS N n n'
theorem Ext.refl {M : xM} {n : Nat} (h : rok M n) : Ext M M n n := ⟨h, Nat.le_refl _, fun _ _ => rfl, fun i h1 h2 => absurd h2 (by omega)⟩
theorem Ext.of {M N : xM} {n : Nat} (h : rok M n) (h20 : N.1 20 = M.1 20) (h46 : N.1 46 = M.1 46) : Ext M N n n := ⟨by unfold rok; rw [h20]; exact h, Nat.le_refl _, fun _ _ => by rw [h46], fun i h1 h2 => absurd h2 (by omega)⟩
theorem Ext.trans {M N P : xM} {n n' n'' : Nat} (h : Ext M N n n') (k : Ext N P n' n'') : Ext M P n n'' := by
  obtain ⟨h1, h2, h3, h4⟩ := h
  obtain ⟨k1, k2, k3, k4⟩ := k
  refine ⟨k1, by omega, fun i hi => by rw [k3 i (by omega), h3 i hi], fun i q1 q2 => ?_⟩
  by_cases hi : i < n'
  · rw [k3 i hi]; exact h4 i q1 hi
  · exact k4 i (by omega) q2
theorem Ext.send {M : xM} {n : Nat} (h : rok M n) (hn : n < 2 ^ 31) (e : Nat) (s : Int32) (h1 : ¬ s = 19) (h2 : ¬ s = 20) : Ext M (f_send M e s) n (n + 1) := by
  have hc : (M.1 20 0 29).toNatClampNeg = n := by rw [show M.1 20 0 29 = nI n from h]; exact nI_clamp hn
  have e46 : ∀ i, (f_send M e s).1 46 0 i = if i = n then s else M.1 46 0 i := fun i => by
    unfold f_send
    rw [hc]
    simp [mI, xu]
  refine ⟨rok_send h e s, by omega, fun i hi => by rw [e46, if_neg (by omega)], fun i q1 q2 => ?_⟩
  rw [e46, if_pos (by omega)]
  exact ⟨h1, h2⟩
theorem Ext.sa {g s : Int32} (h1 : ¬ s = 19) (h2 : ¬ s = 20) : ∀ (m i n : Nat) (M : xM), rok M n → n + m < 2 ^ 31 → ∃ n', n' ≤ n + m ∧ Ext M (saF g s m i M) n n' := by
  intro m
  induction m with
  | zero => intro i n M h _; exact ⟨n, by omega, Ext.refl h⟩
  | succ m ih =>
    intro i n M h hm
    unfold saF
    split
    · obtain ⟨n', q1, q2⟩ := ih (i + 1) (n + 1) _ (rok_send h i s) (by omega)
      exact ⟨n', by omega, (Ext.send h (by omega) i s h1 h2).trans q2⟩
    · obtain ⟨n', q1, q2⟩ := ih (i + 1) n _ h (by omega)
      exact ⟨n', by omega, q2⟩
theorem Ext.tell {M : xM} {n : Nat} (g : Int32) (h : rok M n) (hn : n + 48 < 2 ^ 31) : ∃ n', n' ≤ n + 48 ∧ Ext M (f_tell M g) n n' := by
  unfold f_tell
  split
  · obtain ⟨n1, a1, a2⟩ := Ext.sa (g := g) (s := 1) (by decide) (by decide) 24 0 n M h (by omega)
    obtain ⟨n2, b1, b2⟩ := Ext.sa (g := g) (s := 18) (by decide) (by decide) 24 0 n1 _ a2.1 (by omega)
    exact ⟨n2, by omega, a2.trans b2⟩
  · exact ⟨n, by omega, Ext.refl h⟩
theorem Ext.tl : ∀ (m g n : Nat) (M : xM), rok M n → n + 48 * m < 2 ^ 31 → ∃ n', n' ≤ n + 48 * m ∧ Ext M (tlF m g M) n n' := by
  intro m
  induction m with
  | zero => intro g n M h _; exact ⟨n, by omega, Ext.refl h⟩
  | succ m ih =>
    intro g n M h hm
    unfold tlF
    split
    · obtain ⟨n1, a1, a2⟩ := Ext.tell (nI g) h (by omega)
      obtain ⟨n2, b1, b2⟩ := ih (g + 1) n1 _ a2.1 (by omega)
      exact ⟨n2, by omega, a2.trans b2⟩
    · obtain ⟨n2, b1, b2⟩ := ih (g + 1) n _ h (by omega)
      exact ⟨n2, by omega, b2⟩
theorem Ext.sendTo {M : xM} {n : Nat} (p : Int32) (h : rok M n) (hn : n < 2 ^ 31) : ∃ n', n' ≤ n + 1 ∧ Ext M (f_sendTo M p 17) n n' := by
  unfold f_sendTo
  split
  · exact ⟨n, by omega, Ext.refl h⟩
  · exact ⟨n + 1, by omega, Ext.send h hn _ _ (by decide) (by decide)⟩
theorem Ext.end_ {M : xM} {n e : Nat} (how : Int32) (h : rok M n) (hn : n < 2000) (hp : ¬ M.1 25 0 e = 1) : ∃ n', n' < 2 ^ 30 ∧ Ext M (f_end M e how) n n' := by
  have ef : f_end M e how = tlF 999 1 (f_end0 (mI M 20 0 36 (M.1 20 0 36 + 1)) e how) := by unfold f_end; rw [if_neg hp]
  rw [ef]
  have e0 : Ext M (mI M 20 0 36 (M.1 20 0 36 + 1)) n n := ⟨h, Nat.le_refl _, fun _ _ => rfl, fun i h1 h2 => absurd h2 (by omega)⟩
  generalize mI M 20 0 36 (M.1 20 0 36 + 1) = N at e0 ⊢
  have hN := e0.1
  have e1 : Ext N (f_endD (f_endC (f_endB (f_endA N) e) e how) e (eo (f_endB (f_endA N) e) (rpar (f_endB (f_endA N) e) e))) n n := by
    refine Ext.of hN ?_ ?_
    · rw [endD_row _ _ _ 20 (by decide) (by decide), endC_row _ _ _ 20 (by decide) (by decide) (by decide), endB_row _ _ 20 (by decide) (by decide)]; rfl
    · rw [endD_row _ _ _ 46 (by decide) (by decide), endC_row _ _ _ 46 (by decide) (by decide) (by decide), endB_row _ _ 46 (by decide) (by decide)]; rfl
  obtain ⟨n1, a1, a2⟩ := Ext.sendTo (rpar (f_endD (f_endC (f_endB (f_endA N) e) e how) e (eo (f_endB (f_endA N) e) (rpar (f_endB (f_endA N) e) e))) e) e1.1 (by omega)
  obtain ⟨n2, b1, b2⟩ := Ext.tl 999 1 n1 _ a2.1 (by omega)
  exact ⟨n2, by omega, e0.trans (e1.trans (a2.trans b2))⟩
theorem end_rows {M : xM} {e : Nat} (how : Int32) (hp : ¬ M.1 25 0 e = 1) : (∀ k, (f_end M e how).1 25 0 k = M.1 25 0 k ∨ (k = e ∧ (f_end M e how).1 25 0 k = 0)) ∧ (∀ k, ¬ k = e → SL (M.1 28 0 k) ((f_end M e how).1 28 0 k)) ∧ (f_end M e how).1 28 0 e = 4 := by
  have ef : f_end M e how = tlF 999 1 (f_end0 (mI M 20 0 36 (M.1 20 0 36 + 1)) e how) := by unfold f_end; rw [if_neg hp]
  obtain ⟨-, f2, f3, f4, -⟩ := end0_facts (mI M 20 0 36 (M.1 20 0 36 + 1)) e how
  rw [ef, tlF_row 25 (by decide), tlF_row 28 (by decide)]
  exact ⟨f2, f3, f4⟩
theorem end_lv {M : xM} {e : Nat} (how : Int32) (he : e < 24) (hl : 0 < M.1 25 0 e) (hp : ¬ M.1 25 0 e = 1) (h4 : ¬ M.1 28 0 e = 4) : cnt (lvB (f_end M e how)) 24 + 1 ≤ cnt (lvB M) 24 := by
  obtain ⟨f2, f3, f4⟩ := end_rows (M := M) (e := e) how hp
  refine cnt_lt (j0 := e) (fun j _ z => ?_) he ((lvB_iff _ _).mpr ⟨hl, hp, h4⟩) (fun z => ((lvB_iff _ _).mp z).2.2 f4)
  obtain ⟨z1, z2, z3⟩ := (lvB_iff _ _).mp z
  have hje : ¬ j = e := fun q => by subst q; exact z3 f4
  rcases f2 j with q | ⟨q, -⟩
  · rw [q] at z1 z2
    exact (lvB_iff _ _).mpr ⟨z1, z2, fun q4 => z3 (((f3 j hje).of3 (v := 4) (by decide) (by decide)).mpr q4)⟩
  · exact absurd q hje
theorem lv_pos {M : xM} {e : Nat} (he : e < 24) (hl : 0 < M.1 25 0 e) (hp : ¬ M.1 25 0 e = 1) (h4 : ¬ M.1 28 0 e = 4) : 1 ≤ cnt (lvB M) 24 := cnt_pos he ((lvB_iff _ _).mpr ⟨hl, hp, h4⟩)
theorem NS_ext {M N : xM} {n n' w : Nat} (h : NS M w n) (k : Ext M N n n') : NS N w n' := fun i q1 q2 => by
  by_cases hi : i < n
  · rw [k.2.2.1 i hi]; exact h i q1 hi
  · exact k.2.2.2 i (by omega) q2
theorem panic_pt (M : xM) {w g : Nat} (hg : g ≤ 1224) : Pt (f_panic M) 0 w g := by
  refine ⟨rfl, fun i _ h => absurd h (Nat.not_lt_zero i), ?_⟩
  have : cnt (lvB (f_panic M)) 24 = 0 := by
    have h0 : ∀ k, k ≤ 24 → cnt (lvB (f_panic M)) k = 0 := by
      intro k
      induction k with
      | zero => intro _; rfl
      | succ k ih =>
        intro hk
        unfold cnt
        rw [ih (by omega), if_neg]
        intro z
        have hz : (f_panic M).1 25 0 k = 0 := by
          show (if k < 24 then (0 : Int32) else M.1 25 0 k) = 0
          rw [if_pos (by omega)]
        have := ((lvB_iff _ _).mp z).1
        rw [hz] at this
        exact absurd this (by decide)
    exact h0 24 (Nat.le_refl _)
  rw [this]
  omega
theorem end_pt {C R : xM} {n e w g : Nat} (how : Int32) (h : Inv C R n) (he : e < 24) (hl : 0 < R.1 25 0 e) (h4 : ¬ R.1 28 0 e = 4) (hp : Pt R n w g) : ∃ n', Pt (f_end R e how) n' w g := by
  by_cases hp1 : R.1 25 0 e = 1
  · have ef : f_end R e how = f_panic (mI R 20 0 36 (R.1 20 0 36 + 1)) := by unfold f_end; rw [if_pos hp1]
    rw [ef]
    exact ⟨0, panic_pt _ (by have := hp.2.2; omega)⟩
  · obtain ⟨p1, p2, p3⟩ := hp
    have hlv := lv_pos he hl hp1 h4
    obtain ⟨r, C', -, n', hn', hI⟩ := (c_end (d := 0) how h he hl (fun _ => by omega)).ex
    obtain ⟨n2, b0, b1⟩ := Ext.end_ (e := e) how p1 (by omega) hp1
    have hr : rok (f_end R e how) n' := hI.2.1.2.1
    have := rok_inj hr b1.1 (by have := hI.2.1.2.2.1; omega) (by omega)
    subst this
    refine ⟨n', hr, NS_ext p2 b1, ?_⟩
    have := end_lv (M := R) how he hl hp1 h4
    omega
theorem Ext.stop {M : xM} {n e s : Nat} (h : rok M n) (hn : n < 2000) : ∃ n', n' ≤ n + 1 ∧ Ext M (f_stop M e s) n n' := by
  unfold f_stop
  have e1 : Ext M (f_wake (f_stop1 M e s) (rpar (f_stop1 M e s) e)) n n := by
    refine Ext.of h ?_ ?_
    · rw [wake_25 _ _ 20 (by decide)]; rfl
    · rw [wake_25 _ _ 46 (by decide)]; rfl
  obtain ⟨n1, a1, a2⟩ := Ext.sendTo (rpar (f_wake (f_stop1 M e s) (rpar (f_stop1 M e s) e)) e) e1.1 (by omega)
  exact ⟨n1, a1, e1.trans a2⟩
theorem stop_rows (M : xM) (e s : Nat) : (f_stop M e s).1 25 = M.1 25 ∧ (∀ k, ¬ k = e → SL (M.1 28 0 k) ((f_stop M e s).1 28 0 k)) ∧ (f_stop M e s).1 28 0 e = 3 := by
  unfold f_stop
  refine ⟨?_, fun k hk => ?_, ?_⟩
  · rw [sendTo_row _ _ _ 25 (by decide), wake_25 _ _ 25 (by decide)]; rfl
  · rw [sendTo_row _ _ _ 28 (by decide)]
    have h1 := wake_SL (f_stop1 M e s) (rpar (f_stop1 M e s) e) k
    have h2 : (f_stop1 M e s).1 28 0 k = M.1 28 0 k := by simp [f_stop1, mI, xu, hk]
    rw [h2] at h1
    exact h1
  · rw [sendTo_row _ _ _ 28 (by decide)]
    have h1 := wake_SL (f_stop1 M e s) (rpar (f_stop1 M e s) e) e
    have h2 : (f_stop1 M e s).1 28 0 e = 3 := by simp [f_stop1, mI, xu]
    rw [h2] at h1
    exact (h1.of3 (v := 3) (by decide) (by decide)).mpr rfl
theorem cnt_lv {M N : xM} (h25 : N.1 25 = M.1 25) (h28 : ∀ k, k < 24 → M.1 28 0 k = 4 → N.1 28 0 k = 4) : cnt (lvB N) 24 ≤ cnt (lvB M) 24 := by
  refine cnt_mono 24 (fun j hj z => ?_)
  obtain ⟨z1, z2, z3⟩ := (lvB_iff _ _).mp z
  rw [h25] at z1 z2
  exact (lvB_iff _ _).mpr ⟨z1, z2, fun q => z3 (h28 j hj q)⟩
theorem happen_pt {C R : xM} {n e s w g : Nat} (h : Inv C R n) (he : e < 24) (hs : s < 21) (hl : 0 < R.1 25 0 e) (h4 : ¬ R.1 28 0 e = 4) (hp : Pt R n w (g + if s = 19 ∨ s = 20 then 1 else 0)) : ∃ n', Pt (f_happen R e s) n' w g := by
  have hp' : Pt R n w g := ⟨hp.1, hp.2.1, by have := hp.2.2; omega⟩
  unfold f_happen
  split
  · exact ⟨n, hp'⟩
  · split
    · exact end_pt (nI s) h he hl h4 hp'
    · rename_i q1 q2
      split
      · exact ⟨n, hp'⟩
      · have hs : s = 19 ∨ s = 20 := by
          by_cases hs : s = 19 ∨ s = 20
          · exact hs
          · exfalso
            refine q2 ⟨fun z => ?_, fun z => ?_⟩
            · exact hs (Or.inl ((nI_eq (by omega) (by decide)).mp (z : nI s = nI 19)))
            · exact hs (Or.inr ((nI_eq (by omega) (by decide)).mp (z : nI s = nI 20)))
        obtain ⟨p1, p2, p3⟩ := hp
        rw [if_pos hs] at p3
        obtain ⟨n1, a1, a2⟩ := Ext.stop (e := e) (s := s) p1 (by omega)
        refine ⟨n1, a2.1, NS_ext p2 a2, ?_⟩
        obtain ⟨s1, s2, s3⟩ := stop_rows R e s
        have := cnt_lv (M := R) (N := f_stop R e s) s1 (fun k _ q => by
          by_cases hk : k = e
          · subst hk; exact absurd q h4
          · exact ((s2 k hk).of3 (v := 4) (by decide) (by decide)).mpr q)
        omega
