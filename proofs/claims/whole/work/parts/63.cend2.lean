def cnt (p : Nat → Bool) : Nat → Nat
  | 0 => 0
  | k + 1 => cnt p k + (if p k = true then 1 else 0)
theorem cnt_le (p : Nat → Bool) : ∀ k, cnt p k ≤ k := by
  intro k
  induction k with
  | zero => exact Nat.le_refl _
  | succ k ih => unfold cnt; split <;> omega
theorem cnt_add {p q r : Nat → Bool} : ∀ k, (∀ j, j < k → p j = true → r j = true) → (∀ j, j < k → q j = true → r j = true) → (∀ j, j < k → p j = true → q j = true → False) → cnt p k + cnt q k ≤ cnt r k := by
  intro k
  induction k with
  | zero => intro _ _ _; exact Nat.le_refl _
  | succ k ih =>
    intro h1 h2 h3
    have := ih (fun j hj => h1 j (by omega)) (fun j hj => h2 j (by omega)) (fun j hj => h3 j (by omega))
    unfold cnt
    by_cases hp : p k = true
    · have hq : ¬ q k = true := fun z => h3 k (by omega) hp z
      rw [if_pos hp, if_neg hq, if_pos (h1 k (by omega) hp)]
      omega
    · by_cases hq : q k = true
      · rw [if_neg hp, if_pos hq, if_pos (h2 k (by omega) hq)]
        omega
      · rw [if_neg hp, if_neg hq]
        split <;> omega
theorem cnt_mono {p r : Nat → Bool} (k : Nat) (h : ∀ j, j < k → p j = true → r j = true) : cnt p k ≤ cnt r k := by
  have := cnt_add (p := p) (q := fun _ => false) (r := r) k h (fun _ _ z => by cases z) (fun _ _ _ z => by cases z)
  omega
theorem cnt_pos {p : Nat → Bool} {j : Nat} : ∀ {k : Nat}, j < k → p j = true → 1 ≤ cnt p k := by
  intro k
  induction k with
  | zero => intro h; omega
  | succ k ih =>
    intro h hp
    unfold cnt
    by_cases hj : j = k
    · subst hj
      rw [if_pos hp]
      omega
    · have := ih (by omega) hp
      omega
def memB (R : xM) (g : Int32) (k : Nat) : Bool := decide (0 < R.1 25 0 k) && decide (R.1 27 0 k = g)
theorem c_sendToGroup {d n s : Nat} {C R : xM} (g : Int32) (h : Inv C R n) (hn : n + cnt (memB R g) 24 ≤ 1224) (hs1 : 1 ≤ s) (hs : s < 21) : Rn (d + 1) 24 (0, xen 24 [vR 9 0, vI g, vI (nI s)], [], C) (fun r C' => r = none ∧ Inv C' (f_sendAll R g (nI s)) (n + cnt (memB R g) 24) ∧ C'.1 14 = C.1 14) := by
  unfold f_sendAll
  obtain ⟨T, hT⟩ : ∃ T, T = saF g (nI s) 24 0 R := ⟨_, rfl⟩
  rw [← hT]
  have cm : ∀ i, i ≤ 24 → cnt (memB R g) i ≤ cnt (memB R g) 24 := by
    intro i hi
    have : ∀ m, cnt (memB R g) i ≤ cnt (memB R g) (i + m) := by
      intro m
      induction m with
      | zero => exact Nat.le_refl _
      | succ m ih => show _ ≤ cnt (memB R g) (i + m) + _; omega
    have := this (24 - i)
    rw [show i + (24 - i) = 24 by omega] at this
    exact this
  have loop : ∀ (m i : Nat) (D M : xM) (x6 : Option xV), i + m = 24 → Inv D M (n + cnt (memB R g) i) → M.1 25 = R.1 25 → M.1 27 = R.1 27 → saF g (nI s) m i M = T → D.1 14 = C.1 14 → Rn (d + 1) 24 (12, [some (vR 9 0), some (vI g), some (vI (nI s)), some (vR 11 0), some (vI 24), some (vI (nI i)), x6], [], D) (fun r C' => r = none ∧ Inv C' T (n + cnt (memB R g) 24) ∧ C'.1 14 = C.1 14) := by
    intro m
    induction m with
    | zero =>
      intro i D M x6 hi hD r25 r27 hq h14
      obtain rfl : i = 24 := by omega
      have hq : M = T := hq
      rw [hq] at hD
      refine rn_iload (pc' := 14) rfl rfl rfl ?_
      refine rn_iload (pc' := 16) rfl rfl rfl ?_
      refine rn_ic_ge (t := 55) (pc' := 19) rfl rfl rfl (fun h1 => ?_) (fun h1 => ?_)
      · refine rn_return rfl rfl ?_
        exact ⟨rfl, hD, h14⟩
      · exact absurd ((lt24 (by omega)).mp h1) (by omega)
    | succ m ih =>
      intro i D M x6 hi hD r25 r27 hq h14
      have hi24 : i < 24 := by omega
      have v0 : D.1 0 i 0 = R.1 25 0 i := by rw [f1 hD.1.1 hi24 (k := 0) (t := 25) (by decide), r25]
      have v2 : D.1 0 i 2 = R.1 27 0 i := by rw [f1 hD.1.1 hi24 (k := 2) (t := 27) (by decide), r27]
      unfold saF at hq
      have hcond : (0 < rpid M i ∧ rgrp M i = g) ↔ (0 < R.1 25 0 i ∧ R.1 27 0 i = g) := by unfold rpid rgrp; rw [r25, r27]
      have go_ : ∀ (E N : xM), Inv E N (n + cnt (memB R g) (i + 1)) → N.1 25 = R.1 25 → N.1 27 = R.1 27 → saF g (nI s) m (i + 1) N = T → E.1 14 = C.1 14 → Rn (d + 1) 24 (49, [some (vR 9 0), some (vI g), some (vI (nI s)), some (vR 11 0), some (vI 24), some (vI (nI i)), some (vR 0 i)], [], E) (fun r C' => r = none ∧ Inv C' T (n + cnt (memB R g) 24) ∧ C'.1 14 = C.1 14) := by
        intro E N hE n25 n27 hqN hE14
        have := ih (i + 1) E N (some (vR 0 i)) (by omega) hE n25 n27 hqN hE14
        refine rn_iinc (pc' := 52) rfl rfl rfl (nI_inc _) rfl (Nat.le_of_ble_eq_true rfl) rfl ?_
        refine rn_goto (pc' := 12) rfl rfl ?_
        exact this
      have hpos : ¬ R.1 25 0 i = 0 → 0 < R.1 25 0 i := fun q => by
        have := (lv_or hD.2.2.1 hi24)
        rw [r25] at this
        exact this.resolve_left q
      by_cases hc : 0 < R.1 25 0 i ∧ R.1 27 0 i = g
      · rw [if_pos (hcond.mpr hc)] at hq
        have ec : cnt (memB R g) (i + 1) = cnt (memB R g) i + 1 := by
          show cnt (memB R g) i + (if memB R g i = true then 1 else 0) = _
          rw [if_pos (by simp [memB, hc])]
        have hb := cm (i + 1) (by omega)
        have hsend := c_send (d := d) hD (by omega) hi24 (by rw [r25]; exact hc.1) hs1 hs
        refine rn_iload (pc' := 14) rfl rfl rfl ?_
        refine rn_iload (pc' := 16) rfl rfl rfl ?_
        refine rn_ic_ge (t := 55) (pc' := 19) rfl rfl rfl (fun h1 => ?_) (fun h1 => ?_)
        · exact absurd ((lt24 (by omega)).mpr hi24) h1
        · refine rn_aload_n (pc' := 20) rfl rfl rfl ?_
          refine rn_iload (pc' := 22) rfl rfl rfl ?_
          refine rn_aaldF (t' := 0) (N := 1) (K := 24) (pc' := 23) rfl rfl rfl rfl rfl (by first | assumption | decide | omega) rfl (by decide) rfl (by first | assumption | decide | omega) ?_
          refine rn_astore (pc' := 25) rfl rfl rfl (Nat.le_of_ble_eq_true rfl) rfl ?_
          refine rn_aload (pc' := 27) rfl rfl rfl ?_
          refine rn_getI (N := 24) (pc' := 30) rfl rfl rfl rfl (by decide) rfl (by first | assumption | decide | omega) ?_
          refine rn_if_eq (t := 49) (pc' := 33) rfl rfl rfl (fun h2 => ?_) (fun h2 => ?_)
          · first | exact go_ D9 (f_send M i (nI s)) (by rw [ec]; exact hI) r25 r27 hq (h149.trans h14) | exact absurd (v2.trans hc.2) h3 | exact absurd (v0.symm.trans h2 : R.1 25 0 i = 0) (fun z => by rw [z] at hc; exact absurd hc.1 (by decide))
          · refine rn_aload (pc' := 35) rfl rfl rfl ?_
            refine rn_getI (N := 24) (pc' := 38) rfl rfl rfl rfl (by decide) rfl (by first | assumption | decide | omega) ?_
            refine rn_iload_n (pc' := 39) rfl rfl rfl ?_
            refine rn_ic_ne (t := 49) (pc' := 42) rfl rfl rfl (fun h3 => ?_) (fun h3 => ?_)
            · first | exact go_ D9 (f_send M i (nI s)) (by rw [ec]; exact hI) r25 r27 hq (h149.trans h14) | exact absurd (v2.trans hc.2) h3 | exact absurd (v0.symm.trans h2 : R.1 25 0 i = 0) (fun z => by rw [z] at hc; exact absurd hc.1 (by decide))
            · refine rn_aload_n (pc' := 43) rfl rfl rfl ?_
              refine rn_aload (pc' := 45) rfl rfl rfl ?_
              refine rn_iload_n (pc' := 46) rfl rfl rfl ?_
              refine rn_callV (pc' := 49) (as := [_, _]) rfl rfl rfl ⟨Nat.le_of_ble_eq_true rfl, rfl, rfl⟩ rfl (by first | assumption | decide | omega) (Nat.le_of_ble_eq_true rfl) (Nat.le_of_ble_eq_true rfl) rfl hsend (fun r9 D9 hz9 => ?_)
              obtain ⟨rfl, hI, h149⟩ := hz9
              first | exact go_ D9 (f_send M i (nI s)) (by rw [ec]; exact hI) r25 r27 hq (h149.trans h14) | exact absurd (v2.trans hc.2) h3 | exact absurd (v0.symm.trans h2 : R.1 25 0 i = 0) (fun z => by rw [z] at hc; exact absurd hc.1 (by decide))
      · rw [if_neg (fun z => hc (hcond.mp z))] at hq
        have ec : cnt (memB R g) (i + 1) = cnt (memB R g) i := by
          show cnt (memB R g) i + (if memB R g i = true then 1 else 0) = _
          rw [if_neg (by simp only [memB, Bool.and_eq_true, decide_eq_true_eq]; exact hc)]
          rfl
        have go_ := go_ D M (by rw [ec]; exact hD) r25 r27 hq h14
        refine rn_iload (pc' := 14) rfl rfl rfl ?_
        refine rn_iload (pc' := 16) rfl rfl rfl ?_
        refine rn_ic_ge (t := 55) (pc' := 19) rfl rfl rfl (fun h1 => ?_) (fun h1 => ?_)
        · exact absurd ((lt24 (by omega)).mpr hi24) h1
        · refine rn_aload_n (pc' := 20) rfl rfl rfl ?_
          refine rn_iload (pc' := 22) rfl rfl rfl ?_
          refine rn_aaldF (t' := 0) (N := 1) (K := 24) (pc' := 23) rfl rfl rfl rfl rfl (by first | assumption | decide | omega) rfl (by decide) rfl (by first | assumption | decide | omega) ?_
          refine rn_astore (pc' := 25) rfl rfl rfl (Nat.le_of_ble_eq_true rfl) rfl ?_
          refine rn_aload (pc' := 27) rfl rfl rfl ?_
          refine rn_getI (N := 24) (pc' := 30) rfl rfl rfl rfl (by decide) rfl (by first | assumption | decide | omega) ?_
          refine rn_if_eq (t := 49) (pc' := 33) rfl rfl rfl (fun h2 => ?_) (fun h2 => ?_)
          · exact go_
          · refine rn_aload (pc' := 35) rfl rfl rfl ?_
            refine rn_getI (N := 24) (pc' := 38) rfl rfl rfl rfl (by decide) rfl (by first | assumption | decide | omega) ?_
            refine rn_iload_n (pc' := 39) rfl rfl rfl ?_
            refine rn_ic_ne (t := 49) (pc' := 42) rfl rfl rfl (fun h3 => ?_) (fun h3 => ?_)
            · exact go_
            · (rw [v0] at h2; rw [v2] at h3; exact absurd ⟨hpos h2, h3⟩ hc)
  show Rn _ 24 (0, [some (vR 9 0), some (vI g), some (vI (nI s)), none, none, none, none], [], _) _
  refine rn_aload_n (pc' := 1) rfl rfl rfl ?_
  refine rn_getF (N := 1) (t' := 11) (pc' := 4) rfl rfl rfl rfl rfl (by first | assumption | decide | omega) ?_
  refine rn_astore_n (pc' := 5) rfl rfl rfl (Nat.le_of_ble_eq_true rfl) rfl ?_
  refine rn_aload_n (pc' := 6) rfl rfl rfl ?_
  refine rn_alen (N := 1) (K := 24) (pc' := 7) (v := 24) rfl rfl rfl rfl (by first | assumption | decide | omega) rfl rfl ?_
  refine rn_istore (pc' := 9) rfl rfl rfl (Nat.le_of_ble_eq_true rfl) rfl ?_
  refine rn_iconst (pc' := 10) (v := 0) rfl rfl (by decide) ?_
  refine rn_istore (pc' := 12) rfl rfl rfl (Nat.le_of_ble_eq_true rfl) rfl ?_
  exact loop 24 0 C R none rfl h rfl rfl hT.symm rfl
def LG (cr : Nat → Bool) (R : xM) (a i : Nat) (v : Int32) : Prop := (v = -1 ∧ ∀ k, k < i → cr k = true → ∀ g, g < 1000 → R.1 27 0 k = nI g → g ≤ a) ∨ (∃ g k, k < 24 ∧ cr k = true ∧ R.1 27 0 k = nI g ∧ a < g ∧ g < 1000 ∧ v = nI g ∧ ∀ k', k' < i → cr k' = true → ∀ g', g' < 1000 → R.1 27 0 k' = nI g' → a < g' → g ≤ g')
theorem c_least {d a : Nat} {C R : xM} (cr : Nat → Bool) (a1 : A1 C R) (ha : a < 1000) (h14 : ∀ k, k < 24 → C.1 14 0 k = bI (cr k)) (hcr : ∀ k, k < 24 → cr k = true → ∃ g, 1 ≤ g ∧ g < 1000 ∧ R.1 27 0 k = nI g) : Rn d 35 (0, xen 35 [vR 9 0, vI (nI a)], [], C) (fun r C' => (∃ v, r = some (vI v) ∧ LG cr R a 24 v) ∧ C' = C) := by
  have loop : ∀ (m i : Nat) (v : Int32) (x4 : Option xV), i + m = 24 → LG cr R a i v → Rn d 35 (4, [some (vR 9 0), some (vI (nI a)), some (vI v), some (vI (nI i)), x4], [], C) (fun r C' => (∃ v, r = some (vI v) ∧ LG cr R a 24 v) ∧ C' = C) := by
    intro m
    induction m with
    | zero =>
      intro i v x4 hi hv
      obtain rfl : i = 24 := by omega
      refine rn_iload_n (pc' := 5) rfl rfl rfl ?_
      refine rn_bipush (pc' := 7) (v := 24) rfl rfl (by decide) ?_
      refine rn_ic_ge (t := 56) (pc' := 10) rfl rfl rfl (fun h1 => ?_) (fun h1 => ?_)
      · refine rn_iload_n (pc' := 57) rfl rfl rfl ?_
        refine rn_ireturn rfl rfl ?_
        exact ⟨⟨v, rfl, hv⟩, rfl⟩
      · exact absurd ((lt24 (by omega)).mp h1) (by omega)
    | succ m ih =>
      intro i v x4 hi hv
      have hi24 : i < 24 := by omega
      have v2 : C.1 0 i 2 = R.1 27 0 i := f1 a1 hi24 (by decide)
      have hc14 := h14 i hi24
      have tl : ∀ (w : Int32) (y : Int32), LG cr R a (i + 1) w → Rn d 35 (50, [some (vR 9 0), some (vI (nI a)), some (vI w), some (vI (nI i)), some (vI y)], [], C) (fun r C' => (∃ v, r = some (vI v) ∧ LG cr R a 24 v) ∧ C' = C) := by
        intro w y hw
        refine rn_iinc (pc' := 53) rfl rfl rfl (nI_inc _) rfl (Nat.le_of_ble_eq_true rfl) rfl ?_
        refine rn_goto (pc' := 4) rfl rfl ?_
        exact ih (i + 1) w _ (by omega) hw
      cases hcri : cr i with
      | false =>
        have hv' : LG cr R a (i + 1) v := by
          rcases hv with ⟨q1, q2⟩ | ⟨g, k, q1, q2, q3, q4, q5, q6, q7⟩
          · refine Or.inl ⟨q1, fun k hk hck => ?_⟩
            by_cases hki : k = i
            · subst hki; rw [hcri] at hck; cases hck
            · exact q2 k (by omega) hck
          · refine Or.inr ⟨g, k, q1, q2, q3, q4, q5, q6, fun k' hk' hck' => ?_⟩
            by_cases hki : k' = i
            · subst hki; rw [hcri] at hck'; cases hck'
            · exact q7 k' (by omega) hck'
        rw [hcri] at hc14
        refine rn_iload_n (pc' := 5) rfl rfl rfl ?_
        refine rn_bipush (pc' := 7) (v := 24) rfl rfl (by decide) ?_
        refine rn_ic_ge (t := 56) (pc' := 10) rfl rfl rfl (fun h1 => ?_) (fun h1 => ?_)
        · exact absurd ((lt24 (by omega)).mpr hi24) h1
        · refine rn_aload_n (pc' := 11) rfl rfl rfl ?_
          refine rn_getF (N := 1) (t' := 11) (pc' := 14) rfl rfl rfl rfl rfl (by first | assumption | decide | omega) ?_
          refine rn_iload_n (pc' := 15) rfl rfl rfl ?_
          refine rn_aaldF (t' := 0) (N := 1) (K := 24) (pc' := 16) rfl rfl rfl rfl rfl (by first | assumption | decide | omega) rfl (by decide) rfl (by first | assumption | decide | omega) ?_
          refine rn_getI (N := 24) (pc' := 19) rfl rfl rfl rfl (by decide) rfl (by first | assumption | decide | omega) ?_
          refine rn_istore (pc' := 21) rfl rfl rfl (Nat.le_of_ble_eq_true rfl) rfl ?_
          refine rn_aload_n (pc' := 22) rfl rfl rfl ?_
          refine rn_getF (N := 1) (t' := 14) (pc' := 25) rfl rfl rfl rfl rfl (by first | assumption | decide | omega) ?_
          refine rn_iload_n (pc' := 26) rfl rfl rfl ?_
          refine rn_bald (N := 1) (K := 24) (pc' := 27) rfl rfl ⟨rfl, rfl⟩ rfl (by first | assumption | decide | omega) rfl (by decide) rfl (by first | assumption | decide | omega) ?_
          refine rn_if_eq (t := 50) (pc' := 30) rfl rfl rfl (fun h2 => ?_) (fun h2 => ?_)
          · exact tl v _ hv'
          · exact absurd hc14 h2
      | true =>
        obtain ⟨g, hg1, hg2, hg3⟩ := hcr i hi24 hcri
        rw [hcri] at hc14
        have hgv : C.1 0 i 2 = nI g := v2.trans hg3
        have hlt : nI a < nI g ↔ a < g := nI_ltI (by omega) (by omega)
        by_cases hag : a < g
        · rcases hv with ⟨q1, q2⟩ | ⟨g0, k0, q1, q2, q3, q4, q5, q6, q7⟩
          · have hv' : LG cr R a (i + 1) (nI g) := by
              refine Or.inr ⟨g, i, hi24, hcri, hg3, hag, hg2, rfl, fun k' hk' hck' g' hg' hr hag' => ?_⟩
              by_cases hki : k' = i
              · subst hki
                have := (nI_eq (a := g) (b := g') (by omega) (by omega)).mp (hg3.symm.trans hr)
                omega
              · have := q2 k' (by omega) hck' g' hg' hr
                omega
            subst q1
            refine rn_iload_n (pc' := 5) rfl rfl rfl ?_
            refine rn_bipush (pc' := 7) (v := 24) rfl rfl (by decide) ?_
            refine rn_ic_ge (t := 56) (pc' := 10) rfl rfl rfl (fun h1 => ?_) (fun h1 => ?_)
            · exact absurd ((lt24 (by omega)).mpr hi24) h1
            · refine rn_aload_n (pc' := 11) rfl rfl rfl ?_
              refine rn_getF (N := 1) (t' := 11) (pc' := 14) rfl rfl rfl rfl rfl (by first | assumption | decide | omega) ?_
              refine rn_iload_n (pc' := 15) rfl rfl rfl ?_
              refine rn_aaldF (t' := 0) (N := 1) (K := 24) (pc' := 16) rfl rfl rfl rfl rfl (by first | assumption | decide | omega) rfl (by decide) rfl (by first | assumption | decide | omega) ?_
              refine rn_getI (N := 24) (pc' := 19) rfl rfl rfl rfl (by decide) rfl (by first | assumption | decide | omega) ?_
              refine rn_topI hgv ?_
              refine rn_istore (pc' := 21) rfl rfl rfl (Nat.le_of_ble_eq_true rfl) rfl ?_
              refine rn_aload_n (pc' := 22) rfl rfl rfl ?_
              refine rn_getF (N := 1) (t' := 14) (pc' := 25) rfl rfl rfl rfl rfl (by first | assumption | decide | omega) ?_
              refine rn_iload_n (pc' := 26) rfl rfl rfl ?_
              refine rn_bald (N := 1) (K := 24) (pc' := 27) rfl rfl ⟨rfl, rfl⟩ rfl (by first | assumption | decide | omega) rfl (by decide) rfl (by first | assumption | decide | omega) ?_
              refine rn_if_eq (t := 50) (pc' := 30) rfl rfl rfl (fun h2 => ?_) (fun h2 => ?_)
              · first | exact absurd (hc14.symm.trans h2) (by decide) | exact absurd (hlt.mpr hag) h3 | exact tl _ _ hv'
              · refine rn_iload (pc' := 32) rfl rfl rfl ?_
                refine rn_iload_n (pc' := 33) rfl rfl rfl ?_
                refine rn_ic_le (t := 50) (pc' := 36) rfl rfl rfl (fun h3 => ?_) (fun h3 => ?_)
                · first | exact absurd (hc14.symm.trans h2) (by decide) | exact absurd (hlt.mpr hag) h3 | exact tl _ _ hv'
                · refine rn_iload_n (pc' := 37) rfl rfl rfl ?_
                  refine rn_iconst (pc' := 38) (v := (-1)) rfl rfl (by decide) ?_
                  refine rn_ic_eq (t := 47) (pc' := 41) rfl rfl rfl (fun h4 => ?_) (fun h4 => ?_)
                  · refine rn_iload (pc' := 49) rfl rfl rfl ?_
                    refine rn_istore_n (pc' := 50) rfl rfl rfl (Nat.le_of_ble_eq_true rfl) rfl ?_
                    first | exact absurd (hc14.symm.trans h2) (by decide) | exact absurd (hlt.mpr hag) h3 | exact tl _ _ hv'
                  · exact absurd rfl h4
          · subst q6
            have hne : ¬ nI g0 = -1 := fun z => by
              have := nI_pos (n := g0) (by omega)
              rw [z] at this; exact this (by decide)
            have hlt2 : nI g < nI g0 ↔ g < g0 := nI_ltI (by omega) (by omega)
            by_cases hgg : g < g0
            · have hv' : LG cr R a (i + 1) (nI g) := by
                refine Or.inr ⟨g, i, hi24, hcri, hg3, hag, hg2, rfl, fun k' hk' hck' g' hg' hr hag' => ?_⟩
                by_cases hki : k' = i
                · subst hki
                  have := (nI_eq (a := g) (b := g') (by omega) (by omega)).mp (hg3.symm.trans hr)
                  omega
                · have := q7 k' (by omega) hck' g' hg' hr hag'
                  omega
              refine rn_iload_n (pc' := 5) rfl rfl rfl ?_
              refine rn_bipush (pc' := 7) (v := 24) rfl rfl (by decide) ?_
              refine rn_ic_ge (t := 56) (pc' := 10) rfl rfl rfl (fun h1 => ?_) (fun h1 => ?_)
              · exact absurd ((lt24 (by omega)).mpr hi24) h1
              · refine rn_aload_n (pc' := 11) rfl rfl rfl ?_
                refine rn_getF (N := 1) (t' := 11) (pc' := 14) rfl rfl rfl rfl rfl (by first | assumption | decide | omega) ?_
                refine rn_iload_n (pc' := 15) rfl rfl rfl ?_
                refine rn_aaldF (t' := 0) (N := 1) (K := 24) (pc' := 16) rfl rfl rfl rfl rfl (by first | assumption | decide | omega) rfl (by decide) rfl (by first | assumption | decide | omega) ?_
                refine rn_getI (N := 24) (pc' := 19) rfl rfl rfl rfl (by decide) rfl (by first | assumption | decide | omega) ?_
                refine rn_topI hgv ?_
                refine rn_istore (pc' := 21) rfl rfl rfl (Nat.le_of_ble_eq_true rfl) rfl ?_
                refine rn_aload_n (pc' := 22) rfl rfl rfl ?_
                refine rn_getF (N := 1) (t' := 14) (pc' := 25) rfl rfl rfl rfl rfl (by first | assumption | decide | omega) ?_
                refine rn_iload_n (pc' := 26) rfl rfl rfl ?_
                refine rn_bald (N := 1) (K := 24) (pc' := 27) rfl rfl ⟨rfl, rfl⟩ rfl (by first | assumption | decide | omega) rfl (by decide) rfl (by first | assumption | decide | omega) ?_
                refine rn_if_eq (t := 50) (pc' := 30) rfl rfl rfl (fun h2 => ?_) (fun h2 => ?_)
                · first | exact tl _ _ hv' | exact absurd (hc14.symm.trans h2) (by decide) | exact absurd (hlt.mpr hag) h3 | exact absurd (hlt2.mpr hgg) h5
                · refine rn_iload (pc' := 32) rfl rfl rfl ?_
                  refine rn_iload_n (pc' := 33) rfl rfl rfl ?_
                  refine rn_ic_le (t := 50) (pc' := 36) rfl rfl rfl (fun h3 => ?_) (fun h3 => ?_)
                  · first | exact tl _ _ hv' | exact absurd (hc14.symm.trans h2) (by decide) | exact absurd (hlt.mpr hag) h3 | exact absurd (hlt2.mpr hgg) h5
                  · refine rn_iload_n (pc' := 37) rfl rfl rfl ?_
                    refine rn_iconst (pc' := 38) (v := (-1)) rfl rfl (by decide) ?_
                    refine rn_ic_eq (t := 47) (pc' := 41) rfl rfl rfl (fun h4 => ?_) (fun h4 => ?_)
                    · refine rn_iload (pc' := 49) rfl rfl rfl ?_
                      refine rn_istore_n (pc' := 50) rfl rfl rfl (Nat.le_of_ble_eq_true rfl) rfl ?_
                      first | exact tl _ _ hv' | exact absurd (hc14.symm.trans h2) (by decide) | exact absurd (hlt.mpr hag) h3 | exact absurd (hlt2.mpr hgg) h5
                    · refine rn_iload (pc' := 43) rfl rfl rfl ?_
                      refine rn_iload_n (pc' := 44) rfl rfl rfl ?_
                      refine rn_ic_ge (t := 50) (pc' := 47) rfl rfl rfl (fun h5 => ?_) (fun h5 => ?_)
                      · first | exact tl _ _ hv' | exact absurd (hc14.symm.trans h2) (by decide) | exact absurd (hlt.mpr hag) h3 | exact absurd (hlt2.mpr hgg) h5
                      · refine rn_iload (pc' := 49) rfl rfl rfl ?_
                        refine rn_istore_n (pc' := 50) rfl rfl rfl (Nat.le_of_ble_eq_true rfl) rfl ?_
                        first | exact tl _ _ hv' | exact absurd (hc14.symm.trans h2) (by decide) | exact absurd (hlt.mpr hag) h3 | exact absurd (hlt2.mpr hgg) h5
            · have hv' : LG cr R a (i + 1) (nI g0) := by
                refine Or.inr ⟨g0, k0, q1, q2, q3, q4, q5, rfl, fun k' hk' hck' g' hg' hr hag' => ?_⟩
                by_cases hki : k' = i
                · subst hki
                  have := (nI_eq (a := g) (b := g') (by omega) (by omega)).mp (hg3.symm.trans hr)
                  omega
                · exact q7 k' (by omega) hck' g' hg' hr hag'
              refine rn_iload_n (pc' := 5) rfl rfl rfl ?_
              refine rn_bipush (pc' := 7) (v := 24) rfl rfl (by decide) ?_
              refine rn_ic_ge (t := 56) (pc' := 10) rfl rfl rfl (fun h1 => ?_) (fun h1 => ?_)
              · exact absurd ((lt24 (by omega)).mpr hi24) h1
              · refine rn_aload_n (pc' := 11) rfl rfl rfl ?_
                refine rn_getF (N := 1) (t' := 11) (pc' := 14) rfl rfl rfl rfl rfl (by first | assumption | decide | omega) ?_
                refine rn_iload_n (pc' := 15) rfl rfl rfl ?_
                refine rn_aaldF (t' := 0) (N := 1) (K := 24) (pc' := 16) rfl rfl rfl rfl rfl (by first | assumption | decide | omega) rfl (by decide) rfl (by first | assumption | decide | omega) ?_
                refine rn_getI (N := 24) (pc' := 19) rfl rfl rfl rfl (by decide) rfl (by first | assumption | decide | omega) ?_
                refine rn_topI hgv ?_
                refine rn_istore (pc' := 21) rfl rfl rfl (Nat.le_of_ble_eq_true rfl) rfl ?_
                refine rn_aload_n (pc' := 22) rfl rfl rfl ?_
                refine rn_getF (N := 1) (t' := 14) (pc' := 25) rfl rfl rfl rfl rfl (by first | assumption | decide | omega) ?_
                refine rn_iload_n (pc' := 26) rfl rfl rfl ?_
                refine rn_bald (N := 1) (K := 24) (pc' := 27) rfl rfl ⟨rfl, rfl⟩ rfl (by first | assumption | decide | omega) rfl (by decide) rfl (by first | assumption | decide | omega) ?_
                refine rn_if_eq (t := 50) (pc' := 30) rfl rfl rfl (fun h2 => ?_) (fun h2 => ?_)
                · first | exact tl _ _ hv' | exact absurd (hc14.symm.trans h2) (by decide) | exact absurd (hlt.mpr hag) h3
                · refine rn_iload (pc' := 32) rfl rfl rfl ?_
                  refine rn_iload_n (pc' := 33) rfl rfl rfl ?_
                  refine rn_ic_le (t := 50) (pc' := 36) rfl rfl rfl (fun h3 => ?_) (fun h3 => ?_)
                  · first | exact tl _ _ hv' | exact absurd (hc14.symm.trans h2) (by decide) | exact absurd (hlt.mpr hag) h3
                  · refine rn_iload_n (pc' := 37) rfl rfl rfl ?_
                    refine rn_iconst (pc' := 38) (v := (-1)) rfl rfl (by decide) ?_
                    refine rn_ic_eq (t := 47) (pc' := 41) rfl rfl rfl (fun h4 => ?_) (fun h4 => ?_)
                    · first | exact absurd h4 hne | exact absurd (hlt2.mp h5) hgg
                    · refine rn_iload (pc' := 43) rfl rfl rfl ?_
                      refine rn_iload_n (pc' := 44) rfl rfl rfl ?_
                      refine rn_ic_ge (t := 50) (pc' := 47) rfl rfl rfl (fun h5 => ?_) (fun h5 => ?_)
                      · first | exact tl _ _ hv' | exact absurd (hc14.symm.trans h2) (by decide) | exact absurd (hlt.mpr hag) h3
                      · first | exact absurd h4 hne | exact absurd (hlt2.mp h5) hgg
        · have hv' : LG cr R a (i + 1) v := by
            rcases hv with ⟨q1, q2⟩ | ⟨g0, k, q1, q2, q3, q4, q5, q6, q7⟩
            · refine Or.inl ⟨q1, fun k hk hck g' hg' hr => ?_⟩
              by_cases hki : k = i
              · subst hki
                have := (nI_eq (a := g) (b := g') (by omega) (by omega)).mp (hg3.symm.trans hr)
                omega
              · exact q2 k (by omega) hck g' hg' hr
            · refine Or.inr ⟨g0, k, q1, q2, q3, q4, q5, q6, fun k' hk' hck' g' hg' hr hag' => ?_⟩
              by_cases hki : k' = i
              · subst hki
                have := (nI_eq (a := g) (b := g') (by omega) (by omega)).mp (hg3.symm.trans hr)
                omega
              · exact q7 k' (by omega) hck' g' hg' hr hag'
          refine rn_iload_n (pc' := 5) rfl rfl rfl ?_
          refine rn_bipush (pc' := 7) (v := 24) rfl rfl (by decide) ?_
          refine rn_ic_ge (t := 56) (pc' := 10) rfl rfl rfl (fun h1 => ?_) (fun h1 => ?_)
          · exact absurd ((lt24 (by omega)).mpr hi24) h1
          · refine rn_aload_n (pc' := 11) rfl rfl rfl ?_
            refine rn_getF (N := 1) (t' := 11) (pc' := 14) rfl rfl rfl rfl rfl (by first | assumption | decide | omega) ?_
            refine rn_iload_n (pc' := 15) rfl rfl rfl ?_
            refine rn_aaldF (t' := 0) (N := 1) (K := 24) (pc' := 16) rfl rfl rfl rfl rfl (by first | assumption | decide | omega) rfl (by decide) rfl (by first | assumption | decide | omega) ?_
            refine rn_getI (N := 24) (pc' := 19) rfl rfl rfl rfl (by decide) rfl (by first | assumption | decide | omega) ?_
            refine rn_topI hgv ?_
            refine rn_istore (pc' := 21) rfl rfl rfl (Nat.le_of_ble_eq_true rfl) rfl ?_
            refine rn_aload_n (pc' := 22) rfl rfl rfl ?_
            refine rn_getF (N := 1) (t' := 14) (pc' := 25) rfl rfl rfl rfl rfl (by first | assumption | decide | omega) ?_
            refine rn_iload_n (pc' := 26) rfl rfl rfl ?_
            refine rn_bald (N := 1) (K := 24) (pc' := 27) rfl rfl ⟨rfl, rfl⟩ rfl (by first | assumption | decide | omega) rfl (by decide) rfl (by first | assumption | decide | omega) ?_
            refine rn_if_eq (t := 50) (pc' := 30) rfl rfl rfl (fun h2 => ?_) (fun h2 => ?_)
            · first | exact absurd (hc14.symm.trans h2) (by decide) | exact tl _ _ hv'
            · refine rn_iload (pc' := 32) rfl rfl rfl ?_
              refine rn_iload_n (pc' := 33) rfl rfl rfl ?_
              refine rn_ic_le (t := 50) (pc' := 36) rfl rfl rfl (fun h3 => ?_) (fun h3 => ?_)
              · first | exact absurd (hc14.symm.trans h2) (by decide) | exact tl _ _ hv'
              · exact absurd (hlt.mp h3) hag
  show Rn _ 35 (0, [some (vR 9 0), some (vI (nI a)), none, none, none], [], _) _
  refine rn_iconst (pc' := 1) (v := (-1)) rfl rfl (by decide) ?_
  refine rn_istore_n (pc' := 2) rfl rfl rfl (Nat.le_of_ble_eq_true rfl) rfl ?_
  refine rn_iconst (pc' := 3) (v := 0) rfl rfl (by decide) ?_
  refine rn_istore_n (pc' := 4) rfl rfl rfl (Nat.le_of_ble_eq_true rfl) rfl ?_
  exact loop 24 0 (-1) none rfl (Or.inl ⟨rfl, fun k hk => absurd hk (Nat.not_lt_zero k)⟩)
