def Calm (M N : xM) : Prop := N.1 20 0 26 = M.1 20 0 26 ∧ N.1 20 0 30 = M.1 20 0 30 ∧ N.1 20 0 31 = M.1 20 0 31 ∧ ∀ e, e < 24 → 0 < N.1 25 0 e → 0 < M.1 25 0 e ∧ (N.2.1 38 0 e = 0 ∨ N.2.1 38 0 e = M.2.1 38 0 e)
theorem Calm.refl (M : xM) : Calm M M := ⟨rfl, rfl, rfl, fun _ _ h => ⟨h, Or.inr rfl⟩⟩
theorem Calm.trans {M N P : xM} (h : Calm M N) (k : Calm N P) : Calm M P := by
  obtain ⟨h1, h2, h3, h4⟩ := h
  obtain ⟨k1, k2, k3, k4⟩ := k
  refine ⟨k1.trans h1, k2.trans h2, k3.trans h3, fun e he hl => ?_⟩
  obtain ⟨x1, x2⟩ := k4 e he hl
  obtain ⟨y1, y2⟩ := h4 e he x1
  refine ⟨y1, ?_⟩
  rcases x2 with x | x
  · exact Or.inl x
  · rw [x]; exact y2
theorem Calm.of {M N : xM} (h20 : N.1 20 = M.1 20) (h25 : N.1 25 = M.1 25) (h2 : N.2 = M.2) : Calm M N := ⟨by rw [h20], by rw [h20], by rw [h20], fun e _ hl => ⟨by rw [← h25]; exact hl, Or.inr (by rw [h2])⟩⟩
theorem Calm.send (M : xM) (e : Nat) (s : Int32) : Calm M (f_send M e s) := ⟨rfl, rfl, rfl, fun _ _ h => ⟨h, Or.inr rfl⟩⟩
theorem Calm.wake (M : xM) (p : Int32) : Calm M (f_wake M p) := Calm.of (wake_25 M p 20 (by decide)) (wake_25 M p 25 (by decide)) (wake_2 M p)
theorem Calm.sendTo (M : xM) (p s : Int32) : Calm M (f_sendTo M p s) := by
  unfold f_sendTo
  split
  · exact Calm.refl M
  · exact Calm.send M _ s
theorem Calm.sa (g s : Int32) : ∀ (m i : Nat) (M : xM), Calm M (saF g s m i M) := by
  intro m
  induction m with
  | zero => intro i M; exact Calm.refl M
  | succ m ih =>
    intro i M
    unfold saF
    split
    · exact (Calm.send M i s).trans (ih _ _)
    · exact ih _ _
theorem Calm.tell (M : xM) (g : Int32) : Calm M (f_tell M g) := by
  unfold f_tell
  split
  · exact (Calm.sa g 1 24 0 M).trans (Calm.sa g 18 24 0 _)
  · exact Calm.refl M
theorem Calm.tl : ∀ (m g : Nat) (M : xM), Calm M (tlF m g M) := by
  intro m
  induction m with
  | zero => intro g M; exact Calm.refl M
  | succ m ih =>
    intro g M
    unfold tlF
    split
    · exact (Calm.tell M _).trans (ih _ _)
    · exact ih _ _
theorem Calm.end_ {M : xM} {e : Nat} (how : Int32) (hp : ¬ M.1 25 0 e = 1) : Calm M (f_end M e how) := by
  have ef : f_end M e how = tlF 999 1 (f_end0 (mI M 20 0 36 (M.1 20 0 36 + 1)) e how) := by unfold f_end; rw [if_neg hp]
  rw [ef]
  have e0 : Calm M (mI M 20 0 36 (M.1 20 0 36 + 1)) := ⟨rfl, rfl, rfl, fun _ _ h => ⟨h, Or.inr rfl⟩⟩
  refine e0.trans (Calm.trans ?_ (Calm.tl 999 1 _))
  generalize mI M 20 0 36 (M.1 20 0 36 + 1) = N
  unfold f_end0 f_endE
  refine Calm.trans ?_ (Calm.sendTo _ _ _)
  have cA : Calm N (f_endA N) := Calm.of rfl rfl rfl
  have cB : Calm (f_endA N) (f_endB (f_endA N) e) := by
    generalize f_endA N = A
    unfold f_endB
    have c1 : Calm A (mRow A 26 0 (rpF A e 24)) := Calm.of rfl rfl rfl
    split
    · exact c1.trans (Calm.wake _ _)
    · exact c1
  generalize f_endB (f_endA N) e = B at cB ⊢
  have cC : Calm B (f_endC B e how) := by
    refine ⟨rfl, rfl, rfl, fun k _ hl => ⟨hl, ?_⟩⟩
    by_cases hk : k = e
    · left; simp [f_endC, mI, mJ, xu, hk]
    · right; simp [f_endC, mI, mJ, xu, hk]
  generalize f_endC B e how = D at cC ⊢
  have cD : Calm D (f_endD D e (eo B (rpar B e))) := by
    unfold f_endD
    split
    · refine (Calm.wake D (rpar D e)).trans ⟨rfl, rfl, rfl, fun k _ hl => ⟨?_, Or.inr rfl⟩⟩
      by_cases hk : k = e
      · rw [show (mI (f_wake D (rpar D e)) 25 0 e 0).1 25 0 k = 0 by simp [mI, xu, hk]] at hl
        exact absurd hl (by decide)
      · rw [show (mI (f_wake D (rpar D e)) 25 0 e 0).1 25 0 k = (f_wake D (rpar D e)).1 25 0 k by simp [mI, xu, hk]] at hl
        exact hl
    · exact Calm.wake _ _
  exact cA.trans (cB.trans (cC.trans cD))
theorem Calm.stop (M : xM) (e s : Nat) : Calm M (f_stop M e s) := by
  unfold f_stop
  have c1 : Calm M (f_stop1 M e s) := Calm.of rfl rfl rfl
  exact c1.trans ((Calm.wake _ _).trans (Calm.sendTo _ _ _))
theorem Calm.happen (M : xM) (e s : Nat) : Calm M (f_happen M e s) := by
  unfold f_happen
  split
  · exact Calm.refl M
  · rename_i h1
    split
    · exact Calm.end_ (nI s) (fun z => h1 (Or.inr (Or.inr (Or.inr z))))
    · split
      · exact Calm.refl M
      · exact Calm.stop M e s
theorem Calm.pre (M : xM) (e s : Nat) : Calm M (f_pre M e s) := by
  unfold f_pre
  split
  · exact Calm.of rfl rfl rfl
  · split
    · exact Calm.of rfl rfl rfl
    · exact Calm.refl M
theorem Calm.come (M : xM) (e s : Nat) : Calm M (f_come M e s) := by
  unfold f_come
  refine (Calm.pre M e s).trans ?_
  generalize f_pre M e s = N
  unfold f_come2
  split
  · exact Calm.happen N e s
  · split
    · exact Calm.of rfl rfl rfl
    · exact Calm.of rfl rfl rfl
def Tm (t b : Nat) (M : xM) : Prop := M.1 20 0 26 = nI t ∧ t < 2 ^ 30 ∧ (∃ g, g ≤ b ∧ M.1 20 0 31 = nI g) ∧ ∀ e, e < 24 → 0 < M.1 25 0 e → M.2.1 38 0 e = 0 ∨ (nI t).toInt64 < M.2.1 38 0 e
theorem Tm.calm {t b : Nat} {M N : xM} (h : Tm t b M) (k : Calm M N) : Tm t b N := by
  obtain ⟨h1, h2, h3, h4⟩ := h
  obtain ⟨k1, k2, k3, k4⟩ := k
  refine ⟨k1.trans h1, h2, by rw [k3]; exact h3, fun e he hl => ?_⟩
  obtain ⟨x1, x2⟩ := k4 e he hl
  rcases x2 with x | x
  · exact Or.inl x
  · rw [x]; exact h4 e he x1
theorem Ext.happen {M : xM} {n e s : Nat} (h : rok M n) (hn : n < 2000) : ∃ n', n' < 2 ^ 30 ∧ Ext M (f_happen M e s) n n' := by
  unfold f_happen
  split
  · exact ⟨n, by omega, Ext.refl h⟩
  · rename_i h1
    split
    · exact Ext.end_ (nI s) h hn (fun z => h1 (Or.inr (Or.inr (Or.inr z))))
    · split
      · exact ⟨n, by omega, Ext.refl h⟩
      · obtain ⟨n', a1, a2⟩ := Ext.stop (e := e) (s := s) h hn
        exact ⟨n', by omega, a2⟩
theorem Ext.come {M : xM} {n e s : Nat} (h : rok M n) (hn : n < 2000) : ∃ n', n' < 2 ^ 30 ∧ Ext M (f_come M e s) n n' := by
  obtain ⟨p25, p46, p20, p28⟩ := pre_facts M e s
  have e1 : Ext M (f_pre M e s) n n := Ext.of h p20 p46
  unfold f_come
  generalize f_pre M e s = N at e1 ⊢
  unfold f_come2
  split
  · obtain ⟨n', a1, a2⟩ := Ext.happen (e := e) (s := s) e1.1 hn
    exact ⟨n', a1, e1.trans a2⟩
  · split
    · exact ⟨n, by omega, e1.trans (Ext.of e1.1 rfl rfl)⟩
    · exact ⟨n, by omega, e1.trans (Ext.of e1.1 rfl rfl)⟩
theorem Pt.of {M N : xM} {n w g : Nat} (h : Pt M n w g) (h20 : N.1 20 0 29 = M.1 20 0 29) (h46 : N.1 46 = M.1 46) (h25 : N.1 25 = M.1 25) (h28 : ∀ k, k < 24 → M.1 28 0 k = 4 → N.1 28 0 k = 4) : Pt N n w g := by
  refine ⟨by unfold rok; rw [h20]; exact h.1, fun i q1 q2 => by rw [h46]; exact h.2.1 i q1 q2, ?_⟩
  have := cnt_lv (M := M) (N := N) h25 h28
  have := h.2.2
  omega
theorem come_pt {C R : xM} {n e s w g : Nat} (h : Inv C R n) (hpre : Inv C (f_pre R e s) n ∨ ∃ D, Inv D (f_pre R e s) n) (he : e < 24) (hs : s < 21) (hl : 0 < R.1 25 0 e) (h4 : ¬ R.1 28 0 e = 4) (hp : Pt R n w (g + if s = 19 ∨ s = 20 then 1 else 0)) : ∃ n', Pt (f_come R e s) n' w g := by
  obtain ⟨p25, p46, p20, p28⟩ := pre_facts R e s
  have hpN : Pt (f_pre R e s) n w (g + if s = 19 ∨ s = 20 then 1 else 0) := hp.of (by rw [p20]) p46 p25 (fun k _ q => (p28 k).mp q)
  obtain ⟨D, hD⟩ : ∃ D, Inv D (f_pre R e s) n := hpre.elim (fun z => ⟨C, z⟩) id
  have hlN : 0 < (f_pre R e s).1 25 0 e := by rw [p25]; exact hl
  have h4N : ¬ (f_pre R e s).1 28 0 e = 4 := fun z => h4 ((p28 e).mpr z)
  unfold f_come
  generalize f_pre R e s = N at hpN hD hlN h4N
  have hpN' : Pt N n w g := ⟨hpN.1, hpN.2.1, by have := hpN.2.2; omega⟩
  unfold f_come2
  split
  · exact happen_pt hD he hs hlN h4N hpN
  · split
    · refine ⟨n, hpN'.of rfl rfl rfl (fun k _ q => ?_)⟩
      rename_i hst
      by_cases hk : k = e
      · subst hk; exact absurd q h4N
      · show (f_intr (f_pend N e s) e).1 28 0 k = 4
        have : (f_intr (f_pend N e s) e).1 28 0 k = N.1 28 0 k := by simp [f_intr, f_pend, mI, xu, hk]
        rw [this]; exact q
    · exact ⟨n, hpN'.of rfl rfl rfl (fun k _ q => q)⟩
theorem Inv_pre {C R : xM} {n e s : Nat} (h : Inv C R n) (he : e < 24) (hl : 0 < R.1 25 0 e) : ∃ D, Inv D (f_pre R e s) n := by
  unfold f_pre
  split
  · obtain ⟨r, D, -, hD⟩ := (c_goOn (d := 0) h he hl).ex
    exact ⟨D, hD⟩
  · split
    · exact ⟨_, Inv_pend (v := rpnd R e &&& (-262145)) h hl (M_and (pnd_M h he hl) _)⟩
    · exact ⟨C, h⟩
theorem Inv_30 {C R : xM} {n : Nat} (k : Nat) (hk : k < 2 ^ 31) (h : Inv C R n) : Inv C (mI R 20 0 30 (nI k)) n := by
  obtain ⟨⟨a1, a2, a3, a4, a5, a6, a7, a8, a9, a10, a11, a12⟩, a13, b1, b2, b3, b4, b5, b7, b9, b10, b11, b14⟩ := h
  refine ⟨⟨a1, a2, a3, a4, a5, a6, a7, a8, a9, a10, a11, a12⟩, a13, b1, b2, b3, b4, b5, b7, b9, b10, ⟨b11.1, b11.2.1, ?_⟩, b14⟩
  show nI k = nI (nI k).toNatClampNeg
  rw [nI_clamp hk]
theorem Inv_row0 {C R : xM} {n : Nat} (h : Inv C R n) : Inv (mI C 9 0 4 0) (mI (mI R 20 0 29 0) 20 0 30 0) 0 := by
  obtain ⟨⟨a1, a2, a3, a4, a5, a6, a7, a8, a9, a10, a11, a12⟩, a13, b1, b2, b3, b4, b5, b7, b9, b10, b11, b14⟩ := h
  exact ⟨⟨a1, a2, a3, a4, a5, a6, a7, a8, a9, a10, a11, a12⟩, ⟨rfl, rfl, by omega, fun i hi => absurd hi (Nat.not_lt_zero i)⟩, b1, b2, b3, b4, b5, b7, b9, b10, ⟨b11.1, b11.2.1, rfl⟩, b14⟩
def Jr (C R : xM) (a n w t b : Nat) : Prop := Inv C R n ∧ R.1 20 0 30 = nI a ∧ a ≤ n ∧ Pt R n w (w - a) ∧ Tm t b R
theorem dr_run {d a n w t b : Nat} {C R : xM} (h : Jr C R a n w t b) (han : a < n) : ∃ e s, e < 24 ∧ 1 ≤ s ∧ s < 21 ∧ C.2.2 12 0 a = some e ∧ C.1 13 0 a = nI s ∧ R.1 46 0 a = nI s ∧ (∀ e', eo R (R.1 45 0 a) = some e' → ¬ rste R e' = 4 → ∃ n', rok (f_come (mI R 20 0 30 (nI (a + 1))) e' s) n' ∧ n' ≤ 4000) ∧ Rn (d + 5) 26 (0, xen 26 [vR 9 0, vR 0 e, vI (nI s)], [], C) (fun r C' => r = none ∧ ∃ n', Jr C' (drS R) (a + 1) n' w t b) := by
  obtain ⟨hI, h30, hle, hP, hT⟩ := h
  have hn1224 := hI.2.1.2.2.1
  obtain ⟨e, s, w1, w2, w3, w4, w5, w6, w7, w8, w9⟩ := hI.2.1.2.2.2 a han
  have v0 : C.1 0 e 0 = R.1 25 0 e := f1 hI.1.1 w1 (by decide)
  have v3 : C.1 0 e 3 = R.1 28 0 e := f1 hI.1.1 w1 (by decide)
  have hca : (R.1 20 0 30).toNatClampNeg = a := by rw [h30]; exact nI_clamp (by omega)
  have hcs : (R.1 46 0 a).toNatClampNeg = s := by rw [w6]; exact nI_clamp (by omega)
  have ea : R.1 20 0 30 + 1 = nI (a + 1) := by rw [h30]; exact nI_1 a
  have ed : drS R = match eo R (R.1 45 0 a) with
      | none => mI R 20 0 30 (nI (a + 1))
      | some e => if rste R e = 4 then mI R 20 0 30 (nI (a + 1)) else f_come (mI R 20 0 30 (nI (a + 1))) e s := by
    unfold drS
    rw [hca, hcs, ea]
    cases eo R (R.1 45 0 a) <;> rfl
  have hI1 := Inv_30 (a + 1) (by omega) hI
  have hT1 : Tm t b (mI R 20 0 30 (nI (a + 1))) := hT
  have hP1 : Pt (mI R 20 0 30 (nI (a + 1))) n w (w - a) := hP.of rfl rfl rfl (fun _ _ q => q)
  have still : drS R = mI R 20 0 30 (nI (a + 1)) → Jr C (drS R) (a + 1) n w t b := fun z => by
    rw [z]
    exact ⟨hI1, rfl, by omega, ⟨hP1.1, hP1.2.1, by have := hP1.2.2; omega⟩, hT1⟩
  rcases w9 with q | q
  · -- it lives
    have he : eo R (R.1 45 0 a) = some e := eo_is hI.2.2.2.1 w1 w7 q
    have hl : 0 < R.1 25 0 e := by rw [q]; exact w7
    rw [he] at ed
    simp only at ed
    by_cases h4 : rste R e = 4
    · rw [if_pos h4] at ed
      refine ⟨e, s, w1, w2, w3, w4, w5, w6, fun e' q1 q2 => ?_, ?_⟩
      · rw [he] at q1; cases q1; exact absurd h4 q2
      · exact (c_deliver0 (nI s) w1 (Or.inr (v3.trans h4))).imp (fun r C' hz => ⟨hz.1, n, by rw [hz.2]; exact still ed⟩)
    · rw [if_neg h4] at ed
      have hgs : s = 19 ∨ s = 20 → a < w := fun z => by
        by_cases haw : a < w
        · exact haw
        · have := hP.2.1 a (by omega) han
          rw [w6] at this
          rcases z with rfl | rfl
          · exact absurd rfl this.1
          · exact absurd rfl this.2
      have hPs : Pt (mI R 20 0 30 (nI (a + 1))) n w (w - (a + 1) + if s = 19 ∨ s = 20 then 1 else 0) := by
        refine ⟨hP1.1, hP1.2.1, ?_⟩
        have := hP1.2.2
        split
        · rename_i z
          have := hgs z
          omega
        · omega
      have hn49 : ¬ R.1 25 0 e = 1 → n + 49 ≤ 1224 := fun z => by
        have := lv_pos (M := R) w1 hl z h4
        have := hP.2.2
        omega
      obtain ⟨n2, hPc⟩ := come_pt (C := C) (R := mI R 20 0 30 (nI (a + 1))) hI1 (Or.inr (Inv_pre hI1 w1 hl)) w1 w3 hl h4 hPs
      obtain ⟨n3, b0, b1⟩ := Ext.come (M := mI R 20 0 30 (nI (a + 1))) (e := e) (s := s) hP1.1 (by omega)
      refine ⟨e, s, w1, w2, w3, w4, w5, w6, fun e' q1 q2 => ?_, ?_⟩
      · rw [he] at q1; cases q1
        exact ⟨n2, hPc.1, by have := hPc.2.2; omega⟩
      · refine (c_deliver (d := d) (R := mI R 20 0 30 (nI (a + 1))) hI1 w1 w2 w3 hl h4 hn49).imp (fun r C' hz => ⟨hz.1, ?_⟩)
        obtain ⟨-, n', hb, hI'⟩ := hz
        rw [ed]
        have x1 : n' = n2 := rok_inj hI'.2.1.2.1 hPc.1 (by have := hI'.2.1.2.2.1; omega) (by have := hPc.2.2; omega)
        have x2 : n' = n3 := rok_inj hI'.2.1.2.1 b1.1 (by have := hI'.2.1.2.2.1; omega) (by omega)
        subst x1
        subst x2
        have hc := Calm.come (mI R 20 0 30 (nI (a + 1))) e s
        refine ⟨n', hI', hc.2.1, by have := b1.2.1; omega, hPc, hT1.calm hc⟩
  · -- it is gone
    have he : eo R (R.1 45 0 a) = none := eo_no (fun e' he' z => by
      have := w8 e' he' z.2
      subst this
      rw [z.2] at q
      rw [q] at w7
      exact absurd w7 (by decide))
    rw [he] at ed
    simp only at ed
    refine ⟨e, s, w1, w2, w3, w4, w5, w6, fun e' q1 q2 => ?_, ?_⟩
    · rw [he] at q1; cases q1
    · exact (c_deliver0 (nI s) w1 (Or.inl (v0.trans q))).imp (fun r C' hz => ⟨hz.1, n, by rw [hz.2]; exact still ed⟩)
theorem c_row {d w t b : Nat} : ∀ (k a n : Nat) (C R : xM), Jr C R a n w t b → a + k = 1224 → Rn (d + 6) 25 (2, [some (vR 9 0), some (vI (nI a))], [], C) (fun r C' => r = none ∧ Inv C' (f_row k R) 0 ∧ Tm t b (f_row k R) ∧ (f_row k R).1 20 0 30 = 0) := by
  intro k
  induction k with
  | zero =>
    intro a n C R h hak
    have hn := h.1.2.1.2.2.1
    have hn4 : C.1 9 0 4 = nI n := h.1.2.1.1
    have han : ¬ nI a < C.1 9 0 4 := by rw [hn4]; exact nI_nlt (by omega) (by omega)
    have fin : Inv (mI C 9 0 4 0) (f_row 0 R) 0 := Inv_row0 h.1
    have hT : Tm t b (f_row 0 R) := h.2.2.2.2
    refine rn_iload_n (pc' := 3) rfl rfl rfl ?_
    refine rn_aload_n (pc' := 4) rfl rfl rfl ?_
    refine rn_getI (N := 1) (pc' := 7) rfl rfl rfl rfl (by decide) rfl (by first | assumption | decide | omega) ?_
    refine rn_ic_ge (t := 39) (pc' := 10) rfl rfl rfl (fun h1 => ?_) (fun h1 => ?_)
    · refine rn_aload_n (pc' := 40) rfl rfl rfl ?_
      refine rn_iconst (pc' := 41) (v := 0) rfl rfl (by decide) ?_
      refine rn_putI (N := 1) (pc' := 44) rfl rfl rfl rfl rfl (by first | assumption | decide | omega) ?_
      refine rn_return rfl rfl ?_
      exact ⟨rfl, fin, hT, rfl⟩
    · exact absurd h1 han
  | succ k ih =>
    intro a n C R h hak
    have hn := h.1.2.1.2.2.1
    have hn4 : C.1 9 0 4 = nI n := h.1.2.1.1
    have hrn : R.1 20 0 29 = nI n := h.1.2.1.2.1
    have hiff : nI a < C.1 9 0 4 ↔ a < n := by rw [hn4]; exact nI_ltI (by omega) (by omega)
    have hiffR : R.1 20 0 30 < R.1 20 0 29 ↔ a < n := by rw [h.2.1, hrn]; exact nI_ltI (by omega) (by omega)
    by_cases han : a < n
    · have ef : f_row (k + 1) R = f_row k (drS R) := by unfold f_row; rw [show drF (k + 1) R = if R.1 20 0 30 < R.1 20 0 29 then drF k (drS R) else R from rfl, if_pos (hiffR.mpr han)]
      rw [ef]
      obtain ⟨e, s, z1, z2, z3, z4, z5, z6, z7, hr⟩ := dr_run (d := d) h han
      have hlt : nI a < 1224 := (nI_ltI (b := 1224) (by omega) (by decide)).mpr (by omega)
      refine rn_iload_n (pc' := 3) rfl rfl rfl ?_
      refine rn_aload_n (pc' := 4) rfl rfl rfl ?_
      refine rn_getI (N := 1) (pc' := 7) rfl rfl rfl rfl (by decide) rfl (by first | assumption | decide | omega) ?_
      refine rn_ic_ge (t := 39) (pc' := 10) rfl rfl rfl (fun h1 => ?_) (fun h1 => ?_)
      · first | exact absurd (hiff.mpr han) h1 | exact absurd hlt h2
      · refine rn_iload_n (pc' := 11) rfl rfl rfl ?_
        refine rn_sipush (pc' := 14) (v := 1224) rfl rfl (by decide) ?_
        refine rn_ic_ge (t := 39) (pc' := 17) rfl rfl rfl (fun h2 => ?_) (fun h2 => ?_)
        · first | exact absurd (hiff.mpr han) h1 | exact absurd hlt h2
        · refine rn_aload_n (pc' := 18) rfl rfl rfl ?_
          refine rn_aload_n (pc' := 19) rfl rfl rfl ?_
          refine rn_getF (N := 1) (t' := 12) (pc' := 22) rfl rfl rfl rfl rfl (by first | assumption | decide | omega) ?_
          refine rn_iload_n (pc' := 23) rfl rfl rfl ?_
          refine rn_aaldV (t' := 0) (N := 1) (K := 1224) (pc' := 24) rfl rfl rfl rfl (by decide) rfl (by decide) rfl (by decide) rfl (by first | assumption | decide | omega) ?_
          refine rn_topO z4 ?_
          refine rn_aload_n (pc' := 25) rfl rfl rfl ?_
          refine rn_getF (N := 1) (t' := 13) (pc' := 28) rfl rfl rfl rfl rfl (by first | assumption | decide | omega) ?_
          refine rn_iload_n (pc' := 29) rfl rfl rfl ?_
          refine rn_iald (N := 1) (K := 1224) (pc' := 30) rfl rfl ⟨rfl, rfl⟩ rfl (by first | assumption | decide | omega) rfl (by decide) rfl (by first | assumption | decide | omega) ?_
          refine rn_topI z5 ?_
          refine rn_callV (pc' := 33) (as := [_, _]) rfl rfl rfl ⟨Nat.le_of_ble_eq_true rfl, rfl, rfl⟩ rfl (by first | assumption | decide | omega) (Nat.le_of_ble_eq_true rfl) (Nat.le_of_ble_eq_true rfl) rfl hr (fun r9 D9 hz9 => ?_)
          obtain ⟨rfl, n', hJ⟩ := hz9
          refine rn_iinc (pc' := 36) rfl rfl rfl (nI_inc _) rfl (Nat.le_of_ble_eq_true rfl) rfl ?_
          refine rn_goto (pc' := 2) rfl rfl ?_
          exact ih (a + 1) n' _ _ hJ (by omega)
    · have ef : f_row (k + 1) R = mI (mI R 20 0 29 0) 20 0 30 0 := by unfold f_row; rw [show drF (k + 1) R = if R.1 20 0 30 < R.1 20 0 29 then drF k (drS R) else R from rfl, if_neg (fun z => han (hiffR.mp z))]
      rw [ef]
      have fin := Inv_row0 h.1
      have hT : Tm t b (mI (mI R 20 0 29 0) 20 0 30 0) := h.2.2.2.2
      refine rn_iload_n (pc' := 3) rfl rfl rfl ?_
      refine rn_aload_n (pc' := 4) rfl rfl rfl ?_
      refine rn_getI (N := 1) (pc' := 7) rfl rfl rfl rfl (by decide) rfl (by first | assumption | decide | omega) ?_
      refine rn_ic_ge (t := 39) (pc' := 10) rfl rfl rfl (fun h1 => ?_) (fun h1 => ?_)
      · refine rn_aload_n (pc' := 40) rfl rfl rfl ?_
        refine rn_iconst (pc' := 41) (v := 0) rfl rfl (by decide) ?_
        refine rn_putI (N := 1) (pc' := 44) rfl rfl rfl rfl rfl (by first | assumption | decide | omega) ?_
        refine rn_return rfl rfl ?_
        exact ⟨rfl, fin, hT, rfl⟩
      · exact absurd (hiff.mp h1) han
def f_rw (R : xM) : xM := f_row 1224 R
theorem c_deliverRow {d n w t b : Nat} {C R : xM} (h : Inv C R n) (h30 : R.1 20 0 30 = 0) (hp : Pt R n w w) (hT : Tm t b R) : Rn (d + 6) 25 (0, xen 25 [vR 9 0], [], C) (fun r C' => r = none ∧ Inv C' (f_rw R) 0 ∧ Tm t b (f_rw R) ∧ (f_rw R).1 20 0 30 = 0) := by
  have := c_row (d := d) 1224 0 n C R ⟨h, h30, Nat.zero_le _, hp, hT⟩ rfl
  show Rn _ 25 (0, [some (vR 9 0), none], [], _) _
  refine rn_iconst (pc' := 1) (v := 0) rfl rfl (by decide) ?_
  refine rn_istore_n (pc' := 2) rfl rfl rfl (Nat.le_of_ble_eq_true rfl) rfl ?_
  exact this
theorem Inv_wOk {C R : xM} {n : Nat} (h : Inv C R n) : wOk R := fun e he hs => h.2.2.2.2.2.2.2.2.1 e he hs
theorem r_rowOk {d n w t b : Nat} {C R : xM} (h : Inv C R n) (h30 : R.1 20 0 30 = 0) (hp : Pt R n w w) (hT : Tm t b R) (x1 x2 : Option xV) : Rn (d + 5) 79 (0, [some (vR 20 0), x1, x2], [], R) (fun r M' => r = none ∧ M' = f_rw R) := by
  refine r_doRow (fun M k => ∃ C a n, Jr C M a n w t b ∧ a + k = 1224) ?_ 1224 R ⟨C, 0, n, ⟨h, h30, Nat.zero_le _, hp, hT⟩, rfl⟩ x1 x2
  rintro M k ⟨C, a, n, hJ, hak⟩
  have hn := hJ.1.2.1.2.2.1
  refine ⟨a, n, ⟨hJ.2.1, hJ.1.2.1.2.1, by omega, hJ.2.2.1, fun han => ?_⟩, fun han => ?_⟩
  · obtain ⟨e, s, z1, z2, z3, z4, z5, z6, z7, hr⟩ := dr_run (d := 0) hJ han
    refine ⟨⟨s, z3, z6⟩, Inv_gOk hJ.1, Inv_wOk hJ.1, fun e' s' q0 q1 q2 q3 => ?_⟩
    have : s' = s := (nI_eq (by omega) (by omega)).mp (q2.symm.trans z6)
    rw [this]
    exact z7 e' q1 q3
  · obtain ⟨e, s, z1, z2, z3, z4, z5, z6, z7, hr⟩ := dr_run (d := 0) hJ han
    obtain ⟨r, C', -, n', hJ'⟩ := hr.ex
    exact ⟨k - 1, by omega, C', a + 1, n', hJ', by omega⟩
