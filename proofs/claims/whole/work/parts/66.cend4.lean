theorem Inv_panic {C D R : xM} {n : Nat} (h : Inv C R n) (p1 : ∀ t e k, D.1 t e k = if t = 0 ∧ e < 24 ∧ (k = 0 ∨ k = 8) then 0 else C.1 t e k) (p2 : D.2.1 = C.2.1) (_p3 : ∀ t e k, D.2.2 t e k = if t = 0 ∧ e < 24 ∧ k = 1 then none else C.2.2 t e k) : Inv (mI (mI D 9 0 4 0) 9 0 18 (C.1 9 0 18 + 1)) (f_panic R) 0 := by
  obtain ⟨⟨a1, a2, a3, a4, a5, a6, a7, a8, a9, a10, a11, a12⟩, ⟨c1, c2, c3, c4⟩, b1, b2, b3, b4, b5, b7, b9, b10, b11, b14⟩ := h
  have dn : ∀ t e k, ¬ t = 0 → D.1 t e k = C.1 t e k := fun t e k ht => by rw [p1, if_neg (fun z => ht z.1)]
  have hz : ∀ e, e < 24 → (f_panic R).1 25 0 e = 0 := fun e he => by
    show (if e < 24 then (0 : Int32) else R.1 25 0 e) = 0
    rw [if_pos he]
  have nl : ∀ e, e < 24 → ¬ 0 < (f_panic R).1 25 0 e := fun e he => by rw [hz e he]; decide
  have D0 : ∀ e k, ¬ k = 0 → ¬ k = 8 → (mI (mI D 9 0 4 0) 9 0 18 (C.1 9 0 18 + 1)).1 0 e k = C.1 0 e k := fun e k q1 q2 => by
    show D.1 0 e k = _
    rw [p1, if_neg (fun z => z.2.2.elim q1 q2)]
  have Dt : ∀ t e k, ¬ t = 0 → ¬ t = 9 → (mI (mI D 9 0 4 0) 9 0 18 (C.1 9 0 18 + 1)).1 t e k = C.1 t e k := fun t e k q1 q2 => by
    simp only [mI, xu]
    rw [if_neg (fun z => q2 z.1), if_neg (fun z => q2 z.1)]
    exact dn t e k q1
  refine ⟨⟨?_, ?_, ?_, ?_, ?_, ?_, ?_, ?_, ?_, ?_, ?_, ?_⟩, ⟨rfl, rfl, by omega, fun i hi => absurd hi (Nat.not_lt_zero i)⟩, ?_, ?_, ?_, ?_, b5, ?_, b9, ?_, ?_, b14⟩
  · intro e he
    have := a1 e he
    refine ⟨?_, ?_⟩
    · rw [hz e he]
      show D.1 0 e 0 = 0
      rw [p1, if_pos ⟨rfl, he, Or.inl rfl⟩]
    · rw [D0 e 2 (by decide) (by decide), D0 e 3 (by decide) (by decide), D0 e 4 (by decide) (by decide), D0 e 5 (by decide) (by decide), D0 e 9 (by decide) (by decide), D0 e 12 (by decide) (by decide), D0 e 14 (by decide) (by decide), D0 e 16 (by decide) (by decide), D0 e 17 (by decide) (by decide)]
      exact this.2
  · intro e he r hr; rw [Dt _ _ _ (by decide) (by decide)]; exact a2 e he r hr
  · intro e he r hr; rw [Dt _ _ _ (by decide) (by decide)]; exact a3 e he r hr
  · intro e he r hr; rw [Dt _ _ _ (by decide) (by decide), Dt _ _ _ (by decide) (by decide)]; exact a4 e he r hr
  · intro e he
    show D.2.1 0 e 13 = _
    rw [p2]
    exact a5 e he
  · intro e he
    refine ⟨fun q => absurd q (nl e he), fun _ => ?_⟩
    show D.1 0 e 8 = 0
    rw [p1, if_pos ⟨rfl, he, Or.inr rfl⟩]
  · intro e he q; exact absurd q (nl e he)
  · intro e he q; exact absurd q (nl e he)
  · intro e he q; exact absurd q (nl e he)
  · obtain ⟨h1, h2, h3, h4, h5, h6, h7, h8, h9⟩ := a10
    have s9 : ∀ k, D.1 9 0 k = C.1 9 0 k := fun k => dn 9 0 k (by decide)
    refine ⟨?_, ?_, ?_, ?_, ?_, ?_, ?_, ?_, ?_⟩
    · show D.1 9 0 10 = _; rw [s9]; exact h1
    · show D.1 9 0 11 = _; rw [s9]; exact h2
    · show D.1 9 0 12 = _; rw [s9]; exact h3
    · show D.1 9 0 13 = _; rw [s9]; exact h4
    · show D.1 9 0 14 = _; rw [s9]; exact h5
    · show D.1 9 0 15 = _; rw [s9]; exact h6
    · show D.1 9 0 16 = _; rw [s9]; exact h7
    · show D.1 9 0 17 = _; rw [s9]; exact h8
    · show C.1 9 0 18 + 1 = R.1 20 0 39 + 1; rw [h9]
  · obtain ⟨g, g0, g1, g2, g3, g4⟩ := a11
    have s9 : ∀ k, D.1 9 0 k = C.1 9 0 k := fun k => dn 9 0 k (by decide)
    refine ⟨g, g0, g1, ?_, ?_, fun i hi => ?_⟩
    · show D.1 9 0 9 = _; rw [s9]; exact g2
    · show D.1 9 0 8 = _; rw [s9]; exact g3
    · rw [Dt _ _ _ (by decide) (by decide), Dt _ _ _ (by decide) (by decide)]; exact g4 i hi
  · intro p hp
    rw [Dt _ _ _ (by decide) (by decide)]
    refine ⟨(a12 p hp).1, fun i hi => ?_⟩
    rw [Dt _ _ _ (by decide) (by decide), Dt _ _ _ (by decide) (by decide), Dt _ _ _ (by decide) (by decide)]
    exact (a12 p hp).2 i hi
  · intro e he; exact Or.inl (hz e he)
  · intro e e' he he' q; exact absurd q (nl e he)
  · exact Or.inr hz
  · intro e he q; exact absurd q (nl e he)
  · intro e he q; exact absurd q (nl e he)
  · exact ⟨fun e he q => absurd q (nl e he), b10.2⟩
  · exact ⟨b11.1, b11.2.1, rfl⟩
theorem c_panic {d n : Nat} {C R : xM} (h : Inv C R n) : Rn (d + 1) 31 (0, xen 31 [vR 9 0], [], C) (fun r C' => r = none ∧ Inv C' (f_panic R) 0) := by
  have loop : ∀ (m i : Nat) (D : xM) (x4 : Option xV), i + m = 24 → (∀ t e k, D.1 t e k = if t = 0 ∧ e < i ∧ (k = 0 ∨ k = 8) then 0 else C.1 t e k) → D.2.1 = C.2.1 → (∀ t e k, D.2.2 t e k = if t = 0 ∧ e < i ∧ k = 1 then none else C.2.2 t e k) → Rn (d + 1) 31 (10, [some (vR 9 0), some (vR 11 0), some (vI 24), some (vI (nI i)), x4], [], D) (fun r C' => r = none ∧ Inv C' (f_panic R) 0) := by
    intro m
    induction m with
    | zero =>
      intro i D x4 hi p1 p2 p3
      obtain rfl : i = 24 := by omega
      have e1 : D.1 9 0 18 + 1 = C.1 9 0 18 + 1 := by rw [p1, if_neg (fun z => absurd z.1 (by decide))]
      refine rn_iload_n (pc' := 11) rfl rfl rfl ?_
      refine rn_iload_n (pc' := 12) rfl rfl rfl ?_
      refine rn_ic_ge (t := 31) (pc' := 15) rfl rfl rfl (fun h1 => ?_) (fun h1 => ?_)
      · refine rn_aload_n (pc' := 32) rfl rfl rfl ?_
        refine rn_iconst (pc' := 33) (v := 0) rfl rfl (by decide) ?_
        refine rn_putI (N := 1) (pc' := 36) rfl rfl rfl rfl rfl (by first | assumption | decide | omega) ?_
        refine rn_aload_n (pc' := 37) rfl rfl rfl ?_
        refine rn_dupA (pc' := 38) rfl rfl ?_
        refine rn_getI (N := 1) (pc' := 41) rfl rfl rfl rfl (by decide) rfl (by first | assumption | decide | omega) ?_
        refine rn_iconst (pc' := 42) (v := 1) rfl rfl (by decide) ?_
        refine rn_iadd (pc' := 43) rfl rfl ?_
        refine rn_topI e1 ?_
        refine rn_putI (N := 1) (pc' := 46) rfl rfl rfl rfl rfl (by first | assumption | decide | omega) ?_
        refine rn_return rfl rfl ?_
        exact ⟨rfl, Inv_panic h p1 p2 p3⟩
      · exact absurd ((lt24 (by omega)).mp h1) (by omega)
    | succ m ih =>
      intro i D x4 hi p1 p2 p3
      have hi24 : i < 24 := by omega
      have := ih (i + 1) (mI (mR (mI D 0 i 0 0) 0 i 1 none) 0 i 8 0) (some (vR 0 i)) (by omega) (fun t e k => by
        simp only [mI, mR, xu]
        by_cases q : t = 0 ∧ e = i ∧ (k = 0 ∨ k = 8)
        · obtain ⟨rfl, rfl, q3⟩ := q
          rcases q3 with rfl | rfl <;> simp
        · rw [if_neg (fun z => q ⟨z.1, z.2.1, Or.inr z.2.2⟩), if_neg (fun z => q ⟨z.1, z.2.1, Or.inl z.2.2⟩), p1]
          by_cases q2 : t = 0 ∧ e < i ∧ (k = 0 ∨ k = 8)
          · rw [if_pos q2, if_pos ⟨q2.1, by omega, q2.2.2⟩]
          · rw [if_neg q2, if_neg (fun z => ?_)]
            by_cases hei : e = i
            · exact q ⟨z.1, hei, z.2.2⟩
            · exact q2 ⟨z.1, by omega, z.2.2⟩) p2 (fun t e k => by
        simp only [mI, mR, xu]
        by_cases q : t = 0 ∧ e = i ∧ k = 1
        · rw [if_pos q, if_pos ⟨q.1, by omega, q.2.2⟩]
        · rw [if_neg q, p3]
          by_cases q2 : t = 0 ∧ e < i ∧ k = 1
          · rw [if_pos q2, if_pos ⟨q2.1, by omega, q2.2.2⟩]
          · rw [if_neg q2, if_neg (fun z => ?_)]
            by_cases hei : e = i
            · exact q ⟨z.1, hei, z.2.2⟩
            · exact q2 ⟨z.1, by omega, z.2.2⟩)
      refine rn_iload_n (pc' := 11) rfl rfl rfl ?_
      refine rn_iload_n (pc' := 12) rfl rfl rfl ?_
      refine rn_ic_ge (t := 31) (pc' := 15) rfl rfl rfl (fun h1 => ?_) (fun h1 => ?_)
      · exact absurd ((lt24 (by omega)).mpr hi24) h1
      · refine rn_aload_n (pc' := 16) rfl rfl rfl ?_
        refine rn_iload_n (pc' := 17) rfl rfl rfl ?_
        refine rn_aaldF (t' := 0) (N := 1) (K := 24) (pc' := 18) rfl rfl rfl rfl rfl (by first | assumption | decide | omega) rfl (by decide) rfl (by first | assumption | decide | omega) ?_
        refine rn_astore (pc' := 20) rfl rfl rfl (Nat.le_of_ble_eq_true rfl) rfl ?_
        refine rn_aload (pc' := 22) rfl rfl rfl ?_
        refine rn_callV (pc' := 25) (as := []) rfl rfl rfl ⟨Nat.le_of_ble_eq_true rfl, rfl, rfl⟩ rfl (by first | assumption | decide | omega) (Nat.le_of_ble_eq_true rfl) (Nat.le_of_ble_eq_true rfl) rfl (c_leave (d := d) D hi24) (fun r2 M2 hz => ?_)
        obtain ⟨rfl, hm_⟩ := hz
        refine rn_mem hm_ ?_
        clear hm_
        refine rn_iinc (pc' := 28) rfl rfl rfl (nI_inc _) rfl (Nat.le_of_ble_eq_true rfl) rfl ?_
        refine rn_goto (pc' := 10) rfl rfl ?_
        exact this
  show Rn _ 31 (0, [some (vR 9 0), none, none, none, none], [], _) _
  refine rn_aload_n (pc' := 1) rfl rfl rfl ?_
  refine rn_getF (N := 1) (t' := 11) (pc' := 4) rfl rfl rfl rfl rfl (by first | assumption | decide | omega) ?_
  refine rn_astore_n (pc' := 5) rfl rfl rfl (Nat.le_of_ble_eq_true rfl) rfl ?_
  refine rn_aload_n (pc' := 6) rfl rfl rfl ?_
  refine rn_alen (N := 1) (K := 24) (pc' := 7) (v := 24) rfl rfl rfl rfl (by first | assumption | decide | omega) rfl rfl ?_
  refine rn_istore_n (pc' := 8) rfl rfl rfl (Nat.le_of_ble_eq_true rfl) rfl ?_
  refine rn_iconst (pc' := 9) (v := 0) rfl rfl (by decide) ?_
  refine rn_istore_n (pc' := 10) rfl rfl rfl (Nat.le_of_ble_eq_true rfl) rfl ?_
  exact loop 24 0 C none rfl (fun t e k => by rw [if_neg (fun z => absurd z.2.1 (Nat.not_lt_zero e))]) rfl (fun t e k => by rw [if_neg (fun z => absurd z.2.1 (Nat.not_lt_zero e))])
theorem Inv_ended {C R : xM} {n : Nat} (h : Inv C R n) : Inv (mI C 9 0 15 (C.1 9 0 15 + 1)) (mI R 20 0 36 (R.1 20 0 36 + 1)) n := by
  obtain ⟨⟨a1, a2, a3, a4, a5, a6, a7, a8, a9, a10, a11, a12⟩, a13, b1, b2, b3, b4, b5, b7, b9, b10, b11, b14⟩ := h
  have e1 : C.1 9 0 15 = R.1 20 0 36 := A10_l.mp a10 (15, 36) (by decide)
  rw [e1]
  exact ⟨⟨a1, a2, a3, a4, a5, a6, a7, a8, a9, A10_set a10 (by decide), a11, a12⟩, a13, b1, b2, b3, b4, b5, b7, b9, b10, b11, b14⟩
theorem wake_free {M : xM} {p : Int32} {e q : Nat} (hq : eo M p = some q) (hq' : eo (mI M 25 0 e 0) p = some q) : mI (f_wake M p) 25 0 e 0 = f_wake (mI M 25 0 e 0) p := by
  rw [wake_eq hq, wake_eq hq']
  by_cases h1 : rste M q = 1
  · have h2 : rste (mI M 25 0 e 0) q = 1 := h1
    rw [if_pos h1, if_pos h2]
    exact mI_comm M 0 q 0 e 0 0 (by decide)
  · have h2 : ¬ rste (mI M 25 0 e 0) q = 1 := h1
    rw [if_neg h1, if_neg h2]
theorem Inv_gOk {C R : xM} {n : Nat} (h : Inv C R n) : gOk R := fun k hk hl => by
  obtain ⟨g, _, h2, h3⟩ := h.2.2.2.2.2.1 k hk hl
  exact ⟨g, h2, h3⟩
theorem c_end {d n e : Nat} {C R : xM} (how : Int32) (h : Inv C R n) (he : e < 24) (hl : 0 < R.1 25 0 e) (hn : ¬ R.1 25 0 e = 1 → n + 49 ≤ 1224) : Rn (d + 3) 30 (0, xen 30 [vR 9 0, vR 0 e, vI how], [], C) (fun r C' => r = none ∧ ∃ n', n' ≤ n + 49 ∧ Inv C' (f_end R e how) n') := by
  have v0 : C.1 0 e 0 = R.1 25 0 e := f1 h.1.1 he (by decide)
  have h0 := Inv_ended h
  by_cases hp1 : R.1 25 0 e = 1
  · have ef : f_end R e how = f_panic (mI R 20 0 36 (R.1 20 0 36 + 1)) := by unfold f_end; rw [if_pos hp1]
    rw [ef]
    show Rn _ 30 (0, [some (vR 9 0), some (vR 0 e), some (vI how), none], [], _) _
    refine rn_aload_n (pc' := 1) rfl rfl rfl ?_
    refine rn_dupA (pc' := 2) rfl rfl ?_
    refine rn_getI (N := 1) (pc' := 5) rfl rfl rfl rfl (by decide) rfl (by first | assumption | decide | omega) ?_
    refine rn_iconst (pc' := 6) (v := 1) rfl rfl (by decide) ?_
    refine rn_iadd (pc' := 7) rfl rfl ?_
    refine rn_putI (N := 1) (pc' := 10) rfl rfl rfl rfl rfl (by first | assumption | decide | omega) ?_
    refine rn_aload_n (pc' := 11) rfl rfl rfl ?_
    refine rn_getI (N := 24) (pc' := 14) rfl rfl rfl rfl (by decide) rfl (by first | assumption | decide | omega) ?_
    refine rn_iconst (pc' := 15) (v := 1) rfl rfl (by decide) ?_
    refine rn_ic_ne (t := 23) (pc' := 18) rfl rfl rfl (fun h1 => ?_) (fun h1 => ?_)
    · exact absurd (v0.trans hp1) h1
    · refine rn_aload_n (pc' := 19) rfl rfl rfl ?_
      refine rn_callV (pc' := 22) (as := []) rfl rfl rfl ⟨Nat.le_of_ble_eq_true rfl, rfl, rfl⟩ rfl (by first | assumption | decide | omega) (Nat.le_of_ble_eq_true rfl) (Nat.le_of_ble_eq_true rfl) rfl (c_panic (d := d + 1) h0) (fun r9 D9 hz9 => ?_)
      obtain ⟨rfl, hI⟩ := hz9
      refine rn_return rfl rfl ?_
      exact ⟨rfl, 0, by omega, hI⟩
  have hn := hn hp1
  have ef : f_end R e how = tlF 999 1 (f_end0 (mI R 20 0 36 (R.1 20 0 36 + 1)) e how) := by unfold f_end; rw [if_neg hp1]
  rw [ef]
  have he0 : ¬ e = 0 := fun z => by
    have := B3_0 h.2.2.1 h.2.2.2.2.1 he hl
    rw [z] at hp1
    exact hp1 this
  generalize hR0 : mI R 20 0 36 (R.1 20 0 36 + 1) = R0 at h0 ⊢
  have hl0 : 0 < R0.1 25 0 e := by rw [← hR0]; exact hl
  have hp0 : ¬ R0.1 25 0 e = 1 := by rw [← hR0]; exact hp1
  have facts := end0_facts R0 e how
  have tiff := fun {g : Nat} => told_iff R0 (e := e) how (Inv_gOk h0) (g := g)
  have hgrp : ∀ k, k < 24 → care R0 e k = true → ∃ g, 1 ≤ g ∧ g < 1000 ∧ (f_end0 R0 e how).1 27 0 k = nI g := fun k hk hc => by
    rw [facts.1 27 (by decide) (by decide) (by decide) (by decide) (by decide) (by decide) (by decide)]
    refine h0.2.2.2.2.2.1 k hk ?_
    unfold care at hc
    simp only [Bool.and_eq_true, Bool.not_eq_true', decide_eq_false_iff_not, decide_eq_true_eq] at hc
    exact hc.2.1
  have s5 : ∀ D, Inv D (f_end0 R0 e how) (n + 1) → (∀ k, k < 24 → D.1 14 0 k = bI (care R0 e k)) → ∀ x3, Rn (d + 3) 30 (88, [some (vR 9 0), some (vR 0 e), some (vI how), x3], [], D) (fun r C' => r = none ∧ ∃ n', n' ≤ n + 49 ∧ Inv C' (tlF 999 1 (f_end0 R0 e how)) n') := by
    intro D hD h14 x3
    have := c_sendToOrphaned (d := d) (care R0 e) hD (by omega) h14 hgrp (fun g q1 q2 => tiff q1 q2)
    refine rn_aload_n (pc' := 89) rfl rfl rfl ?_
    refine rn_callV (pc' := 92) (as := []) rfl rfl rfl ⟨Nat.le_of_ble_eq_true rfl, rfl, rfl⟩ rfl (by first | assumption | decide | omega) (Nat.le_of_ble_eq_true rfl) (Nat.le_of_ble_eq_true rfl) rfl this (fun r9 D9 hz9 => ?_)
    obtain ⟨rfl, n', hn', hI⟩ := hz9
    refine rn_return rfl rfl ?_
    exact ⟨rfl, n', by omega, hI⟩
  have s4 : ∀ D, Inv D (f_endB (f_endA R0) e) n → (∀ k, k < 24 → D.1 14 0 k = bI (care R0 e k)) → Rn (d + 3) 30 (33, [some (vR 9 0), some (vR 0 e), some (vI how), none], [], D) (fun r C' => r = none ∧ ∃ n', n' ≤ n + 49 ∧ Inv C' (tlF 999 1 (f_end0 R0 e how)) n') := by
    intro D hD h14
    have fe : f_end0 R0 e how = f_endE (f_endD (f_endC (f_endB (f_endA R0) e) e how) e (eo (f_endB (f_endA R0) e) (rpar (f_endB (f_endA R0) e) e))) e := rfl
    have B25 : (f_endB (f_endA R0) e).1 25 = R0.1 25 := by rw [endB_row _ _ 25 (by decide) (by decide)]; rfl
    have B26 := endB_26 (f_endA R0) e
    generalize hB : f_endB (f_endA R0) e = B at hD fe B25 B26
    have hlB : 0 < B.1 25 0 e := by rw [B25]; exact hl0
    have hch : ∀ k, k < 24 → 0 < B.1 25 0 k → ¬ D.2.2 0 k 1 = some e := fun k hk hlk z => by
      have := (ch_iff hD he hlB hk hlk).mp z
      rw [show B.1 26 0 k = rpF (f_endA R0) e 24 k from congrFun B26 k, B25] at this
      rw [B25] at hlk
      unfold rpF at this
      split at this
      · exact hp0 this.symm
      · rename_i hc
        exact hc ⟨hk, hlk, this⟩
    obtain ⟨q, hq, hqe, hpq, hql, hqs, hqp⟩ : ∃ q, q < 24 ∧ ¬ q = e ∧ D.2.2 0 e 1 = some q ∧ 0 < B.1 25 0 q ∧ ¬ B.1 28 0 q = 4 ∧ B.1 26 0 e = B.1 25 0 q := by
      rcases hD.1.2.2.2.2.2.2.2.2.1 e he hlB with ⟨z, -⟩ | ⟨-, q, z⟩
      · exact absurd z he0
      · exact ⟨q, z⟩
    have eu : eo B (rpar B e) = some q := eo_is hD.2.2.2.1 hq (by rw [show rpar B e = B.1 25 0 q from hqp]; exact hql) hqp.symm
    rw [eu] at fe
    have hC := Inv_endC (how := how) hD he he0 hch
    generalize hCC : mI (mJ (mI (mI D 0 e 3 4) 0 e 14 how) 0 e 13 0) 0 e 8 0 = D3 at hC
    have D3p : D3.2.2 = D.2.2 := by rw [← hCC]; rfl
    have D314 : D3.1 14 = D.1 14 := by rw [← hCC]; rfl
    have C25 : (f_endC B e how).1 25 = B.1 25 := endC_row _ _ _ 25 (by decide) (by decide) (by decide)
    have C26 : (f_endC B e how).1 26 = B.1 26 := endC_row _ _ _ 26 (by decide) (by decide) (by decide)
    generalize hRC : f_endC B e how = RC at hC fe C25 C26
    have ep : rpar RC e = B.1 25 0 q := by show RC.1 26 0 e = _; rw [C26]; exact hqp
    have euC : eo RC (rpar RC e) = some q := by
      refine eo_is hC.2.2.2.1 hq ?_ ?_
      · rw [ep]; exact hql
      · rw [ep, C25]
    have euF : eo (mI RC 25 0 e 0) (rpar RC e) = some q := by
      have hchC : ∀ k, k < 24 → 0 < RC.1 25 0 k → ¬ D3.2.2 0 k 1 = some e := fun k hk hlk => by rw [D3p]; rw [C25] at hlk; exact hch k hk hlk
      refine eo_is (Inv_free hC he0 hchC).2.2.2.1 hq ?_ ?_
      · rw [ep]; exact hql
      · rw [ep, ← C25]; simp [mI, xu, hqe]
    have a3 : D3.1 2 q 17 = RC.1 32 0 (21 * q + 17) := hC.1.2.2.1 q hq 17 (by omega)
    have w32 : (f_wake RC (rpar RC e)).1 32 = RC.1 32 := wake_25 _ _ 32 (by decide)
    have fD : f_endD RC e (some q) = if RC.1 32 0 (21 * q + 17) = 1 then mI (f_wake RC (rpar RC e)) 25 0 e 0 else f_wake RC (rpar RC e) := by
      unfold f_endD upD
      rw [w32]
      by_cases h9 : RC.1 32 0 (21 * q + 17) = 1
      · simp [h9]
      · simp [h9]
    -- the sending of CHLD, behind the waking
    have s6 : ∀ E, Inv E (f_endD RC e (some q)) n → E.1 14 = D.1 14 → Rn (d + 3) 30 (81, [some (vR 9 0), some (vR 0 e), some (vI how), some (vR 0 q)], [], E) (fun r C' => r = none ∧ ∃ n', n' ≤ n + 49 ∧ Inv C' (tlF 999 1 (f_end0 R0 e how)) n') := by
      intro E hE hE14
      have p26 : rpar (f_endD RC e (some q)) e = B.1 25 0 q := by
        show (f_endD RC e (some q)).1 26 0 e = _
        rw [endD_row _ _ _ 26 (by decide) (by decide)]; exact ep
      have p25 : (f_endD RC e (some q)).1 25 0 q = B.1 25 0 q := by
        rcases endD_25 RC e (some q) q with z | ⟨z, -⟩
        · rw [z, C25]
        · exact absurd z hqe
      have fE : f_end0 R0 e how = f_send (f_endD RC e (some q)) q (nI 17) := by
        rw [fe]
        unfold f_endE f_sendTo
        rw [eo_is hE.2.2.2.1 hq (by rw [p26]; exact hql) (p25.trans p26.symm)]
        rfl
      have hs := c_send (d := d + 2) (s := 17) hE (by omega) hq (by rw [p25]; exact hql) (by omega) (by omega)
      rw [← fE] at hs
      refine rn_aload_n (pc' := 82) rfl rfl rfl ?_
      refine rn_aload_n (pc' := 83) rfl rfl rfl ?_
      refine rn_bipush (pc' := 85) (v := 17) rfl rfl (by decide) ?_
      refine rn_callV (pc' := 88) (as := [_, _]) rfl rfl rfl ⟨Nat.le_of_ble_eq_true rfl, rfl, rfl⟩ rfl (by first | assumption | decide | omega) (Nat.le_of_ble_eq_true rfl) (Nat.le_of_ble_eq_true rfl) rfl hs (fun r9 D9 hz9 => ?_)
      obtain ⟨rfl, hI, h149⟩ := hz9
      exact s5 _ hI (fun k hk => by rw [h149, hE14]; exact h14 k hk) _
    have hchC : ∀ k, k < 24 → 0 < RC.1 25 0 k → ¬ D3.2.2 0 k 1 = some e := fun k hk hlk => by rw [D3p]; rw [C25] at hlk; exact hch k hk hlk
    have s7 : Rn (d + 3) 30 (62, [some (vR 9 0), some (vR 0 e), some (vI how), some (vR 0 q)], [], D3) (fun r C' => r = none ∧ ∃ n', n' ≤ n + 49 ∧ Inv C' (tlF 999 1 (f_end0 R0 e how)) n') := by
      by_cases h9 : RC.1 32 0 (21 * q + 17) = 1
      · rw [if_pos h9] at fD
        have hF := Inv_free hC he0 hchC
        have hW := c_wake (d := d + 2) hF euF
        rw [← wake_free euC euF, ← fD] at hW
        have s8 : Rn (d + 3) 30 (77, [some (vR 9 0), some (vR 0 e), some (vI how), some (vR 0 q)], [], mI (mR (mI D3 0 e 0 0) 0 e 1 none) 0 e 8 0) (fun r C' => r = none ∧ ∃ n', n' ≤ n + 49 ∧ Inv C' (tlF 999 1 (f_end0 R0 e how)) n') := by
          refine rn_aload_n (pc' := 78) rfl rfl rfl ?_
          refine rn_callV (pc' := 81) (as := []) rfl rfl rfl ⟨Nat.le_of_ble_eq_true rfl, rfl, rfl⟩ rfl (by first | assumption | decide | omega) (Nat.le_of_ble_eq_true rfl) (Nat.le_of_ble_eq_true rfl) rfl hW (fun r9 D9 hz9 => ?_)
          obtain ⟨rfl, hI, h149⟩ := hz9
          exact s6 _ hI (h149.trans D314)
        refine rn_aload_n (pc' := 63) rfl rfl rfl ?_
        refine rn_getF (N := 24) (t' := 2) (pc' := 66) rfl rfl rfl rfl rfl (by first | assumption | decide | omega) ?_
        refine rn_bipush (pc' := 68) (v := 17) rfl rfl (by decide) ?_
        refine rn_iald (k := 17) (N := 24) (K := 21) (pc' := 69) rfl rfl ⟨rfl, rfl⟩ rfl (by first | assumption | decide | omega) rfl (by decide) (by decide) (by first | assumption | decide | omega) ?_
        refine rn_iconst (pc' := 70) (v := 1) rfl rfl (by decide) ?_
        refine rn_ic_ne (t := 77) (pc' := 73) rfl rfl rfl (fun h2 => ?_) (fun h2 => ?_)
        · first | exact absurd (a3.trans h9) h2 | exact s8
        · refine rn_aload_n (pc' := 74) rfl rfl rfl ?_
          refine rn_callV (pc' := 77) (as := []) rfl rfl rfl ⟨Nat.le_of_ble_eq_true rfl, rfl, rfl⟩ rfl (by first | assumption | decide | omega) (Nat.le_of_ble_eq_true rfl) (Nat.le_of_ble_eq_true rfl) rfl (c_leave (d := d + 2) D3 he) (fun r2 M2 hz => ?_)
          obtain ⟨rfl, hm_⟩ := hz
          refine rn_mem hm_ ?_
          clear hm_
          first | exact absurd (a3.trans h9) h2 | exact s8
      · rw [if_neg h9] at fD
        have hW := c_wake (d := d + 2) hC euC
        rw [← fD] at hW
        refine rn_aload_n (pc' := 63) rfl rfl rfl ?_
        refine rn_getF (N := 24) (t' := 2) (pc' := 66) rfl rfl rfl rfl rfl (by first | assumption | decide | omega) ?_
        refine rn_bipush (pc' := 68) (v := 17) rfl rfl (by decide) ?_
        refine rn_iald (k := 17) (N := 24) (K := 21) (pc' := 69) rfl rfl ⟨rfl, rfl⟩ rfl (by first | assumption | decide | omega) rfl (by decide) (by decide) (by first | assumption | decide | omega) ?_
        refine rn_iconst (pc' := 70) (v := 1) rfl rfl (by decide) ?_
        refine rn_ic_ne (t := 77) (pc' := 73) rfl rfl rfl (fun h2 => ?_) (fun h2 => ?_)
        · refine rn_aload_n (pc' := 78) rfl rfl rfl ?_
          refine rn_callV (pc' := 81) (as := []) rfl rfl rfl ⟨Nat.le_of_ble_eq_true rfl, rfl, rfl⟩ rfl (by first | assumption | decide | omega) (Nat.le_of_ble_eq_true rfl) (Nat.le_of_ble_eq_true rfl) rfl hW (fun r9 D9 hz9 => ?_)
          obtain ⟨rfl, hI, h149⟩ := hz9
          exact s6 _ hI (h149.trans D314)
        · exact absurd (a3.symm.trans h2) h9
    have hpq3 : D3.2.2 0 e 1 = some q := by rw [D3p]; exact hpq
    refine rn_aload_n (pc' := 34) rfl rfl rfl ?_
    refine rn_iconst (pc' := 35) (v := 4) rfl rfl (by decide) ?_
    refine rn_putI (N := 24) (pc' := 38) rfl rfl rfl rfl rfl (by first | assumption | decide | omega) ?_
    refine rn_aload_n (pc' := 39) rfl rfl rfl ?_
    refine rn_iload_n (pc' := 40) rfl rfl rfl ?_
    refine rn_putI (N := 24) (pc' := 43) rfl rfl rfl rfl rfl (by first | assumption | decide | omega) ?_
    refine rn_aload_n (pc' := 44) rfl rfl rfl ?_
    refine rn_lconst (pc' := 45) (v := 0) rfl rfl rfl ?_
    refine rn_putJ (N := 24) (pc' := 48) rfl rfl rfl rfl rfl (by first | assumption | decide | omega) ?_
    refine rn_aload_n (pc' := 49) rfl rfl rfl ?_
    refine rn_iconst (pc' := 50) (v := 0) rfl rfl (by decide) ?_
    refine rn_putI (N := 24) (pc' := 53) rfl rfl rfl rfl rfl (by first | assumption | decide | omega) ?_
    skip
    rw [hCC]
    refine rn_aload_n (pc' := 54) rfl rfl rfl ?_
    refine rn_getV (N := 24) (t' := 0) (pc' := 57) rfl rfl rfl rfl (by decide) rfl (by first | assumption | decide | omega) ?_
    refine rn_topO hpq3 ?_
    refine rn_astore_n (pc' := 58) rfl rfl rfl (Nat.le_of_ble_eq_true rfl) rfl ?_
    refine rn_aload_n (pc' := 59) rfl rfl rfl ?_
    refine rn_ifnull (t := 88) (pc' := 62) rfl rfl rfl (fun h2 => ?_) (fun h2 => ?_)
    · exact nomatch h2
    · exact s7
  show Rn _ 30 (0, [some (vR 9 0), some (vR 0 e), some (vI how), none], [], _) _
  refine rn_aload_n (pc' := 1) rfl rfl rfl ?_
  refine rn_dupA (pc' := 2) rfl rfl ?_
  refine rn_getI (N := 1) (pc' := 5) rfl rfl rfl rfl (by decide) rfl (by first | assumption | decide | omega) ?_
  refine rn_iconst (pc' := 6) (v := 1) rfl rfl (by decide) ?_
  refine rn_iadd (pc' := 7) rfl rfl ?_
  refine rn_putI (N := 1) (pc' := 10) rfl rfl rfl rfl rfl (by first | assumption | decide | omega) ?_
  refine rn_aload_n (pc' := 11) rfl rfl rfl ?_
  refine rn_getI (N := 24) (pc' := 14) rfl rfl rfl rfl (by decide) rfl (by first | assumption | decide | omega) ?_
  refine rn_iconst (pc' := 15) (v := 1) rfl rfl (by decide) ?_
  refine rn_ic_ne (t := 23) (pc' := 18) rfl rfl rfl (fun h1 => ?_) (fun h1 => ?_)
  · refine rn_aload_n (pc' := 24) rfl rfl rfl ?_
    refine rn_aload_n (pc' := 25) rfl rfl rfl ?_
    refine rn_callV (pc' := 28) (as := [_]) rfl rfl rfl ⟨Nat.le_of_ble_eq_true rfl, rfl, rfl⟩ rfl (by first | assumption | decide | omega) (Nat.le_of_ble_eq_true rfl) (Nat.le_of_ble_eq_true rfl) rfl (c_note (d := d + 1) h0 he) (fun r9 D9 hz9 => ?_)
    obtain ⟨rfl, hI, h14⟩ := hz9
    refine rn_aload_n (pc' := 29) rfl rfl rfl ?_
    refine rn_aload_n (pc' := 30) rfl rfl rfl ?_
    refine rn_callV (pc' := 33) (as := [_]) rfl rfl rfl ⟨Nat.le_of_ble_eq_true rfl, rfl, rfl⟩ rfl (by first | assumption | decide | omega) (Nat.le_of_ble_eq_true rfl) (Nat.le_of_ble_eq_true rfl) rfl (c_leaveChildren (d := d + 1) (R := f_endA R0) (hI : Inv D9 (f_endA R0) n) he hl0 he0) (fun r8 D8 hz8 => ?_)
    obtain ⟨rfl, hI8, h148⟩ := hz8
    exact s4 _ hI8 (fun k hk => by rw [h148]; exact h14 k hk)
  · exact absurd (v0.symm.trans h1) hp1
