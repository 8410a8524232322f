theorem alm_iff {t : Nat} {x : Int64} (ht : t + 1 < 2 ^ 30) (h : x = 0 ∨ (nI t).toInt64 < x) : (0 < x ∧ x ≤ (nI (t + 1)).toInt64) ↔ (¬ x = 0 ∧ x = (nI (t + 1)).toInt64) := by
  have e0 : (0 : Int64).toInt = 0 := by decide
  have e1 : (nI t).toInt64.toInt = t := by rw [Int32.toInt_toInt64, nI_toInt (by omega)]
  have e2 : (nI (t + 1)).toInt64.toInt = ((t + 1 : Nat) : Int) := by rw [Int32.toInt_toInt64, nI_toInt (by omega)]
  rw [Int64.lt_iff_toInt_lt, Int64.le_iff_toInt_le, ← Int64.toInt_inj, ← Int64.toInt_inj, e0, e2]
  rcases h with h | h
  · rw [h, e0]; omega
  · rw [Int64.lt_iff_toInt_lt, e1] at h
    omega
theorem c_ringAlarms {d t b : Nat} {C R : xM} (h : Inv C R 0) (hT : Tm t b R) (ht : t + 1 < 2 ^ 30) (h30 : R.1 20 0 30 = 0) : Rn (d + 1) 17 (0, xen 17 [vR 9 0], [], mI C 9 0 10 (nI (t + 1))) (fun r C' => r = none ∧ ∃ n, n ≤ 24 ∧ Inv C' (alF 24 0 (nTick R)) n ∧ Tm (t + 1) b (alF 24 0 (nTick R)) ∧ (alF 24 0 (nTick R)).1 20 0 30 = 0) := by
  have e1 : R.1 20 0 26 + 1 = nI (t + 1) := by rw [hT.1]; exact nI_1 t
  have eN : nTick R = mI R 20 0 26 (nI (t + 1)) := by rw [← e1]
  rw [eN]
  have h0 : Inv (mI C 9 0 10 (nI (t + 1))) (mI R 20 0 26 (nI (t + 1))) 0 := Inv_s (k := 10) (t := 26) h (by decide) (by decide) (by decide)
  obtain ⟨g, hg1, hg2⟩ := hT.2.2.1
  obtain ⟨T, hTT⟩ : ∃ T, T = alF 24 0 (mI R 20 0 26 (nI (t + 1))) := ⟨_, rfl⟩
  rw [← hTT]
  have loop : ∀ (m i n : Nat) (D M : xM) (x4 : Option xV), i + m = 24 → n ≤ i → Inv D M n → M.1 20 0 26 = nI (t + 1) → M.1 20 0 31 = nI g → M.1 20 0 30 = 0 → (∀ k, k < 24 → 0 < M.1 25 0 k → M.2.1 38 0 k = 0 ∨ (nI t).toInt64 < M.2.1 38 0 k) → (∀ k, k < i → 0 < M.1 25 0 k → M.2.1 38 0 k = 0 ∨ (nI (t + 1)).toInt64 < M.2.1 38 0 k) → alF m i M = T → Rn (d + 1) 17 (10, [some (vR 9 0), some (vR 11 0), some (vI 24), some (vI (nI i)), x4], [], D) (fun r C' => r = none ∧ ∃ n, n ≤ 24 ∧ Inv C' T n ∧ Tm (t + 1) b T ∧ T.1 20 0 30 = 0) := by
    intro m
    induction m with
    | zero =>
      intro i n D M x4 hi hn hD q26 q31 q30 qa qb hq
      obtain rfl : i = 24 := by omega
      have hq : M = T := hq
      rw [← hq]
      have hTm : Tm (t + 1) b M := ⟨q26, ht, ⟨g, hg1, q31⟩, qb⟩
      refine rn_iload_n (pc' := 11) rfl rfl rfl ?_
      refine rn_iload_n (pc' := 12) rfl rfl rfl ?_
      refine rn_ic_ge (t := 72) (pc' := 15) rfl rfl rfl (fun h1 => ?_) (fun h1 => ?_)
      · refine rn_return rfl rfl ?_
        exact ⟨rfl, n, hn, hD, hTm, q30⟩
      · exact absurd ((lt24 (by omega)).mp h1) (by omega)
    | succ m ih =>
      intro i n D M x4 hi hn hD q26 q31 q30 qa qb hq
      have hi24 : i < 24 := by omega
      have v0 : D.1 0 i 0 = M.1 25 0 i := f1 hD.1.1 hi24 (by decide)
      have v13 : D.2.1 0 i 13 = M.2.1 38 0 i := hD.1.2.2.2.2.1 i hi24
      have v10 : D.1 9 0 10 = nI (t + 1) := (A10_l.mp hD.1.2.2.2.2.2.2.2.2.2.1 (10, 26) (by decide)).trans q26
      rw [show alF (m + 1) i M = alF m (i + 1) (if 0 < rpid M i ∧ 0 < ralm M i ∧ ralm M i ≤ (M.1 20 0 26).toInt64 then f_send (mJ M 38 0 i 0) i 14 else M) from rfl] at hq
      by_cases hc : 0 < rpid M i ∧ 0 < ralm M i ∧ ralm M i ≤ (M.1 20 0 26).toInt64
      · rw [if_pos hc] at hq
        have hl : 0 < M.1 25 0 i := hc.1
        have hal : ¬ M.2.1 38 0 i = 0 ∧ M.2.1 38 0 i = (nI (t + 1)).toInt64 := by
          have := (alm_iff ht (qa i hi24 hl)).mp (by rw [← q26]; exact hc.2)
          exact this
        have hA := Inv_alm (e := i) (v := 0) hD
        have hs := c_send (d := d) (s := 14) hA (by omega) hi24 hl (by omega) (by omega)
        have a38 : ∀ k, (f_send (mJ M 38 0 i 0) i 14).2.1 38 0 k = if k = i then 0 else M.2.1 38 0 k := fun k => by
          show (if (38 : Nat) = 38 ∧ (0 : Nat) = 0 ∧ k = i then (0 : Int64) else M.2.1 38 0 k) = _
          by_cases hk : k = i
          · rw [if_pos ⟨rfl, rfl, hk⟩, if_pos hk]
          · rw [if_neg (fun z => hk z.2.2), if_neg hk]
        have nx : ∀ E, Inv E (f_send (mJ M 38 0 i 0) i (nI 14)) (n + 1) → Rn (d + 1) 17 (66, [some (vR 9 0), some (vR 11 0), some (vI 24), some (vI (nI i)), some (vR 0 i)], [], E) (fun r C' => r = none ∧ ∃ n, n ≤ 24 ∧ Inv C' T n ∧ Tm (t + 1) b T ∧ T.1 20 0 30 = 0) := by
          intro E hE
          have := ih (i + 1) (n + 1) E _ (some (vR 0 i)) (by omega) (by omega) hE q26 q31 q30 (fun k hk hlk => by
            have a := a38 k
            rw [show (f_send (mJ M 38 0 i 0) i (nI 14)).2.1 38 0 k = _ from a]
            split
            · exact Or.inl rfl
            · exact qa k hk hlk) (fun k hk hlk => by
            have a := a38 k
            rw [show (f_send (mJ M 38 0 i 0) i (nI 14)).2.1 38 0 k = _ from a]
            split
            · exact Or.inl rfl
            · exact qb k (by omega) hlk) hq
          refine rn_iinc (pc' := 69) rfl rfl rfl (nI_inc _) rfl (Nat.le_of_ble_eq_true rfl) rfl ?_
          refine rn_goto (pc' := 10) rfl rfl ?_
          exact this
        have hne : ¬ D.1 0 i 0 = 0 := by rw [v0]; exact fun q => by rw [q] at hl; exact absurd hl (by decide)
        refine rn_iload_n (pc' := 11) rfl rfl rfl ?_
        refine rn_iload_n (pc' := 12) rfl rfl rfl ?_
        refine rn_ic_ge (t := 72) (pc' := 15) rfl rfl rfl (fun h1 => ?_) (fun h1 => ?_)
        · exact absurd ((lt24 (by omega)).mpr hi24) h1
        · refine rn_aload_n (pc' := 16) rfl rfl rfl ?_
          refine rn_iload_n (pc' := 17) rfl rfl rfl ?_
          refine rn_aaldF (t' := 0) (N := 1) (K := 24) (pc' := 18) rfl rfl rfl rfl rfl (by first | assumption | decide | omega) rfl (by decide) rfl (by first | assumption | decide | omega) ?_
          refine rn_astore (pc' := 20) rfl rfl rfl (Nat.le_of_ble_eq_true rfl) rfl ?_
          refine rn_aload (pc' := 22) rfl rfl rfl ?_
          refine rn_getI (N := 24) (pc' := 25) rfl rfl rfl rfl (by decide) rfl (by first | assumption | decide | omega) ?_
          refine rn_if_eq (t := 66) (pc' := 28) rfl rfl rfl (fun h2 => ?_) (fun h2 => ?_)
          · first | exact nx _ hI | exact absurd h2 hne | exact absurd (v13.symm.trans ((lg_eq _ _).mp h3)) hal.1 | exact absurd ((lg_eq _ _).mpr (v13.trans (hal.2.trans (by rw [v10])))) h5
          · refine rn_aload (pc' := 30) rfl rfl rfl ?_
            refine rn_getJ (N := 24) (pc' := 33) rfl rfl rfl rfl rfl (by first | assumption | decide | omega) ?_
            refine rn_lconst (pc' := 34) (v := 0) rfl rfl rfl ?_
            refine rn_lcmp (pc' := 35) rfl rfl ?_
            refine rn_if_eq (t := 66) (pc' := 38) rfl rfl rfl (fun h3 => ?_) (fun h3 => ?_)
            · first | exact nx _ hI | exact absurd h2 hne | exact absurd (v13.symm.trans ((lg_eq _ _).mp h3)) hal.1 | exact absurd ((lg_eq _ _).mpr (v13.trans (hal.2.trans (by rw [v10])))) h5
            · refine rn_aload (pc' := 40) rfl rfl rfl ?_
              refine rn_getJ (N := 24) (pc' := 43) rfl rfl rfl rfl rfl (by first | assumption | decide | omega) ?_
              refine rn_aload_n (pc' := 44) rfl rfl rfl ?_
              refine rn_getI (N := 1) (pc' := 47) rfl rfl rfl rfl (by decide) rfl (by first | assumption | decide | omega) ?_
              refine rn_i2l (pc' := 48) rfl rfl ?_
              refine rn_lcmp (pc' := 49) rfl rfl ?_
              refine rn_if_ne (t := 66) (pc' := 52) rfl rfl rfl (fun h5 => ?_) (fun h5 => ?_)
              · first | exact nx _ hI | exact absurd h2 hne | exact absurd (v13.symm.trans ((lg_eq _ _).mp h3)) hal.1 | exact absurd ((lg_eq _ _).mpr (v13.trans (hal.2.trans (by rw [v10])))) h5
              · refine rn_aload (pc' := 54) rfl rfl rfl ?_
                refine rn_lconst (pc' := 55) (v := 0) rfl rfl rfl ?_
                refine rn_putJ (N := 24) (pc' := 58) rfl rfl rfl rfl rfl (by first | assumption | decide | omega) ?_
                refine rn_aload_n (pc' := 59) rfl rfl rfl ?_
                refine rn_aload (pc' := 61) rfl rfl rfl ?_
                refine rn_bipush (pc' := 63) (v := 14) rfl rfl (by decide) ?_
                refine rn_callV (pc' := 66) (as := [_, _]) rfl rfl rfl ⟨Nat.le_of_ble_eq_true rfl, rfl, rfl⟩ rfl (by first | assumption | decide | omega) (Nat.le_of_ble_eq_true rfl) (Nat.le_of_ble_eq_true rfl) rfl hs (fun r9 D9 hz9 => ?_)
                obtain ⟨rfl, hI, -⟩ := hz9
                first | exact nx _ hI | exact absurd h2 hne | exact absurd (v13.symm.trans ((lg_eq _ _).mp h3)) hal.1 | exact absurd ((lg_eq _ _).mpr (v13.trans (hal.2.trans (by rw [v10])))) h5
      · rw [if_neg hc] at hq
        have hpos : ¬ M.1 25 0 i = 0 → 0 < M.1 25 0 i := fun q => (lv_or hD.2.2.1 hi24).resolve_left q
        have nx := ih (i + 1) n D M (some (vR 0 i)) (by omega) (by omega) hD q26 q31 q30 qa (fun k hk hlk => by
          by_cases hki : k = i
          · subst hki
            rcases qa k hi24 hlk with z | z
            · exact Or.inl z
            · right
              have hn : ¬ (0 < M.2.1 38 0 k ∧ M.2.1 38 0 k ≤ (nI (t + 1)).toInt64) := fun y => hc ⟨hlk, by rw [q26]; exact y⟩
              have e0 : (0 : Int64).toInt = 0 := by decide
              have e1 : (nI t).toInt64.toInt = t := by rw [Int32.toInt_toInt64, nI_toInt (by omega)]
              rw [Int64.lt_iff_toInt_lt, Int64.le_iff_toInt_le] at hn
              rw [Int64.lt_iff_toInt_lt] at z ⊢
              omega
          · exact qb k (by omega) hlk) hq
        refine rn_iload_n (pc' := 11) rfl rfl rfl ?_
        refine rn_iload_n (pc' := 12) rfl rfl rfl ?_
        refine rn_ic_ge (t := 72) (pc' := 15) rfl rfl rfl (fun h1 => ?_) (fun h1 => ?_)
        · exact absurd ((lt24 (by omega)).mpr hi24) h1
        · refine rn_aload_n (pc' := 16) rfl rfl rfl ?_
          refine rn_iload_n (pc' := 17) rfl rfl rfl ?_
          refine rn_aaldF (t' := 0) (N := 1) (K := 24) (pc' := 18) rfl rfl rfl rfl rfl (by first | assumption | decide | omega) rfl (by decide) rfl (by first | assumption | decide | omega) ?_
          refine rn_astore (pc' := 20) rfl rfl rfl (Nat.le_of_ble_eq_true rfl) rfl ?_
          refine rn_aload (pc' := 22) rfl rfl rfl ?_
          refine rn_getI (N := 24) (pc' := 25) rfl rfl rfl rfl (by decide) rfl (by first | assumption | decide | omega) ?_
          refine rn_if_eq (t := 66) (pc' := 28) rfl rfl rfl (fun h2 => ?_) (fun h2 => ?_)
          · refine rn_iinc (pc' := 69) rfl rfl rfl (nI_inc _) rfl (Nat.le_of_ble_eq_true rfl) rfl ?_
            refine rn_goto (pc' := 10) rfl rfl ?_
            exact nx
          · refine rn_aload (pc' := 30) rfl rfl rfl ?_
            refine rn_getJ (N := 24) (pc' := 33) rfl rfl rfl rfl rfl (by first | assumption | decide | omega) ?_
            refine rn_lconst (pc' := 34) (v := 0) rfl rfl rfl ?_
            refine rn_lcmp (pc' := 35) rfl rfl ?_
            refine rn_if_eq (t := 66) (pc' := 38) rfl rfl rfl (fun h3 => ?_) (fun h3 => ?_)
            · refine rn_iinc (pc' := 69) rfl rfl rfl (nI_inc _) rfl (Nat.le_of_ble_eq_true rfl) rfl ?_
              refine rn_goto (pc' := 10) rfl rfl ?_
              exact nx
            · refine rn_aload (pc' := 40) rfl rfl rfl ?_
              refine rn_getJ (N := 24) (pc' := 43) rfl rfl rfl rfl rfl (by first | assumption | decide | omega) ?_
              refine rn_aload_n (pc' := 44) rfl rfl rfl ?_
              refine rn_getI (N := 1) (pc' := 47) rfl rfl rfl rfl (by decide) rfl (by first | assumption | decide | omega) ?_
              refine rn_i2l (pc' := 48) rfl rfl ?_
              refine rn_lcmp (pc' := 49) rfl rfl ?_
              refine rn_if_ne (t := 66) (pc' := 52) rfl rfl rfl (fun h5 => ?_) (fun h5 => ?_)
              · refine rn_iinc (pc' := 69) rfl rfl rfl (nI_inc _) rfl (Nat.le_of_ble_eq_true rfl) rfl ?_
                refine rn_goto (pc' := 10) rfl rfl ?_
                exact nx
              · (rw [v0] at h2; have hl := hpos h2; refine absurd ⟨hl, ?_⟩ hc; rw [q26]; refine (alm_iff ht (qa i hi24 hl)).mpr ⟨fun z => h3 ((lg_eq _ _).mpr (v13.trans z)), ?_⟩; have := (lg_eq _ _).mp h5; rw [v10] at this; exact v13.symm.trans this)
  show Rn _ 17 (0, [some (vR 9 0), none, none, none, none], [], _) _
  refine rn_aload_n (pc' := 1) rfl rfl rfl ?_
  refine rn_getF (N := 1) (t' := 11) (pc' := 4) rfl rfl rfl rfl rfl (by first | assumption | decide | omega) ?_
  refine rn_astore_n (pc' := 5) rfl rfl rfl (Nat.le_of_ble_eq_true rfl) rfl ?_
  refine rn_aload_n (pc' := 6) rfl rfl rfl ?_
  refine rn_alen (N := 1) (K := 24) (pc' := 7) (v := 24) rfl rfl rfl rfl (by first | assumption | decide | omega) rfl rfl ?_
  refine rn_istore_n (pc' := 8) rfl rfl rfl (Nat.le_of_ble_eq_true rfl) rfl ?_
  refine rn_iconst (pc' := 9) (v := 0) rfl rfl (by decide) ?_
  refine rn_istore_n (pc' := 10) rfl rfl rfl (Nat.le_of_ble_eq_true rfl) rfl ?_
  exact loop 24 0 0 _ _ none rfl (Nat.le_refl _) h0 rfl hg2 h30 hT.2.2.2 (fun k hk => absurd hk (Nat.not_lt_zero k)) hTT.symm
theorem rw_0 {M : xM} (h0 : rok M 0) (h30 : M.1 20 0 30 = 0) : f_rw M = M := by
  unfold f_rw f_row
  have e1 : drF 1224 M = M := by
    rw [show drF 1224 M = if M.1 20 0 30 < M.1 20 0 29 then drF 1223 (drS M) else M from rfl, if_neg]
    rw [h30, show M.1 20 0 29 = 0 from h0]; decide
  rw [e1]
  have e2 : mI M 20 0 29 0 = M := by
    have := mI_id M 20 0 29
    rw [show M.1 20 0 29 = 0 from h0] at this
    exact this
  rw [e2]
  have := mI_id M 20 0 30
  rw [h30] at this
  exact this
def GI (t : Nat) (C R : xM) : Prop := Inv C R 0 ∧ R.1 20 0 30 = 0 ∧ Tm t t R
theorem tick1 {d t : Nat} {C R : xM} (h : GI t C R) (ht : t + 1 < 2 ^ 30) : ∃ (v : Nat) (N2 N3 N4 : xM), v ≤ 1 ∧ Rn (d + 5) 79 (0, [some (vR 20 0), none, none], [], alF 24 0 (nTick R)) (fun r M' => r = none ∧ M' = N2) ∧ Rn (d + 5) 88 (0, xen 88 [vR 20 0], [], N2) (fun r M' => r = some (vI (nI v)) ∧ M' = N3) ∧ Rn (d + 5) 79 (0, [some (vR 20 0), none, none], [], N3) (fun r M' => r = none ∧ M' = N4) ∧ ∀ (Z : Option xV → xM → Prop) (n : Int32) (c i : Nat) (x4 : Option xV), nI i < n → (∀ C' x4, GI (t + 1) C' N4 → Rn (d + 7) 13 (19, [some (vR 9 0), some (vI n), some (vI (nI (c + v))), some (vI (nI (i + 1))), x4], [], C') Z) → Rn (d + 7) 13 (19, [some (vR 9 0), some (vI n), some (vI (nI c)), some (vI (nI i)), x4], [], C) Z := by
  obtain ⟨hI, h30, hT⟩ := h
  have hra := c_ringAlarms (d := d + 5) hI hT ht h30
  obtain ⟨r0, C0, -, n0, hn0, k1, k2, k3⟩ := hra.ex
  have hPt : Pt (alF 24 0 (nTick R)) n0 n0 n0 := by
    have := Pt_of k1 hn0
    exact ⟨this.1, this.2.1, by have := this.2.2; omega⟩
  have row1 := r_rowOk (d := d) k1 k3 hPt k2 none none
  have crow : ∀ D n, n ≤ 24 → Inv D (alF 24 0 (nTick R)) n → Rn (d + 6) 25 (0, xen 25 [vR 9 0], [], D) (fun r C' => r = none ∧ Inv C' (f_rw (alF 24 0 (nTick R))) 0 ∧ Tm (t + 1) t (f_rw (alF 24 0 (nTick R))) ∧ (f_rw (alF 24 0 (nTick R))).1 20 0 30 = 0) := fun D n hn hD => by
    have hP : Pt (alF 24 0 (nTick R)) n n n := by
      have := Pt_of hD hn
      exact ⟨this.1, this.2.1, by have := this.2.2; omega⟩
    exact c_deliverRow (d := d) hD k3 hP k2
  obtain ⟨r1, C1, -, j1, j2, j3⟩ := (crow C0 n0 hn0 k1).ex
  generalize hN2 : f_rw (alF 24 0 (nTick R)) = N2 at row1 crow j1 j2 j3
  obtain ⟨u, hu24, hu⟩ := j1.2.2.2.2.2.2.2.2.2.2.1.2.1
  have v10 : C.1 9 0 10 = R.1 20 0 26 := A10_l.mp hI.1.2.2.2.2.2.2.2.2.2.1 (10, 26) (by decide)
  have e10 : C.1 9 0 10 + 1 = nI (t + 1) := by rw [v10, hT.1]; exact nI_1 t
  cases htr : tr N2 u with
  | none =>
    have hrow0 := r_rowOk (d := d) (w := 0) j1 j3 ⟨j1.2.1.2.1, fun i _ q => absurd q (Nat.not_lt_zero i), by have := lv23 j1; omega⟩ j2 none none
    rw [rw_0 j1.2.1.2.1 j3] at hrow0
    refine ⟨0, N2, N2, N2, by omega, row1, r_ttN N2 hu hu24 htr, hrow0, ?_⟩
    intro Z n c i x4 hlt k
    have s38 : ∀ D, Inv D N2 0 → Rn (d + 7) 13 (42, [some (vR 9 0), some (vI n), some (vI (nI c)), some (vI (nI i)), x4], [], D) Z := by
      intro D hD
      have hnr := c_nextReady (d := d + 6) hD hu hu24
      rw [htr] at hnr
      have k := k D
      refine rn_aload_n (pc' := 43) rfl rfl rfl ?_
      refine rn_callV (pc' := 46) (as := []) rfl rfl rfl ⟨Nat.le_of_ble_eq_true rfl, rfl, rfl⟩ rfl (by first | assumption | decide | omega) (Nat.le_of_ble_eq_true rfl) (Nat.le_of_ble_eq_true rfl) rfl hnr (fun r1 M1 hz => ?_)
      obtain ⟨rfl, hm_⟩ := hz
      refine rn_mem hm_ ?_
      clear hm_
      refine rn_istore (pc' := 48) rfl rfl rfl (Nat.le_of_ble_eq_true rfl) rfl ?_
      refine rn_iload (pc' := 50) rfl rfl rfl ?_
      refine rn_iconst (pc' := 51) (v := (-1)) rfl rfl (by decide) ?_
      refine rn_ic_eq (t := 78) (pc' := 54) rfl rfl rfl (fun h1 => ?_) (fun h1 => ?_)
      · refine rn_iinc (pc' := 81) rfl rfl rfl (nI_inc _) rfl (Nat.le_of_ble_eq_true rfl) rfl ?_
        refine rn_goto (pc' := 19) rfl rfl ?_
        exact k _ ⟨hD, j3, j2.mono (by omega)⟩
      · exact absurd rfl h1
    refine rn_iload_n (pc' := 20) rfl rfl rfl ?_
    refine rn_iload_n (pc' := 21) rfl rfl rfl ?_
    refine rn_ic_ge (t := 84) (pc' := 24) rfl rfl rfl (fun h1 => ?_) (fun h1 => ?_)
    · exact absurd hlt h1
    · refine rn_aload_n (pc' := 25) rfl rfl rfl ?_
      refine rn_dupA (pc' := 26) rfl rfl ?_
      refine rn_getI (N := 1) (pc' := 29) rfl rfl rfl rfl (by decide) rfl (by first | assumption | decide | omega) ?_
      refine rn_iconst (pc' := 30) (v := 1) rfl rfl (by decide) ?_
      refine rn_iadd (pc' := 31) rfl rfl ?_
      refine rn_topI e10 ?_
      refine rn_putI (N := 1) (pc' := 34) rfl rfl rfl rfl rfl (by first | assumption | decide | omega) ?_
      refine rn_aload_n (pc' := 35) rfl rfl rfl ?_
      refine rn_callV (pc' := 38) (as := []) rfl rfl rfl ⟨Nat.le_of_ble_eq_true rfl, rfl, rfl⟩ rfl (by first | assumption | decide | omega) (Nat.le_of_ble_eq_true rfl) (Nat.le_of_ble_eq_true rfl) rfl hra (fun r9 D9 hz9 => ?_)
      obtain ⟨rfl, n9, hn9, kk1, -, -⟩ := hz9
      refine rn_aload_n (pc' := 39) rfl rfl rfl ?_
      refine rn_callV (pc' := 42) (as := []) rfl rfl rfl ⟨Nat.le_of_ble_eq_true rfl, rfl, rfl⟩ rfl (by first | assumption | decide | omega) (Nat.le_of_ble_eq_true rfl) (Nat.le_of_ble_eq_true rfl) rfl (crow D9 n9 hn9 kk1) (fun r8 D8 hz8 => ?_)
      obtain ⟨rfl, kk, -, -⟩ := hz8
      exact s38 _ kk
  | some e =>
    have he := trF_lt htr
    obtain ⟨F, f1', f2'⟩ := tt_ok (d := d) j1 j3 j2 hu hu24 htr
    obtain ⟨r2, C2, -, hQ⟩ := f2'.ex
    obtain ⟨n2, w2, y1, y2, y3, y4⟩ := hQ
    have row2 := r_rowOk (d := d) y1 y3 y2 y4 none none
    have crow2 : ∀ D, QP (t + 1) D F → Rn (d + 6) 25 (0, xen 25 [vR 9 0], [], D) (fun r C' => r = none ∧ GI (t + 1) C' (f_rw F)) := fun D hD => by
      obtain ⟨n, w, z1, z2, z3, z4⟩ := hD
      exact (c_deliverRow (d := d) z1 z3 z2 z4).imp (fun r C' hz => ⟨hz.1, hz.2.1, hz.2.2.2, hz.2.2.1⟩)
    refine ⟨1, N2, F, f_rw F, by omega, row1, f1', row2, ?_⟩
    intro Z n c i x4 hlt k
    have s38 : ∀ D, Inv D N2 0 → Rn (d + 7) 13 (42, [some (vR 9 0), some (vI n), some (vI (nI c)), some (vI (nI i)), x4], [], D) Z := by
      intro D hD
      have hnr := c_nextReady (d := d + 6) hD hu hu24
      rw [htr] at hnr
      obtain ⟨F', g1', g2'⟩ := tt_ok (d := d) hD j3 j2 hu hu24 htr
      have hFF : F' = F := by
        obtain ⟨n1, r1, M1, q1, q2⟩ := f1'
        obtain ⟨n2, r2, M2, q3, q4⟩ := g1'
        have a1 := xr_le (n' := max n1 n2) (by omega) q1
        have a2 := xr_le (n' := max n1 n2) (by omega) q3
        rw [a1] at a2
        cases a2
        exact q4.2.symm.trans q2.2
      rw [hFF] at g2'
      have hne : ¬ nI e = -1 := fun z => by
        have := nI_pos (n := e) (by omega)
        rw [z] at this; exact this (by decide)
      refine rn_aload_n (pc' := 43) rfl rfl rfl ?_
      refine rn_callV (pc' := 46) (as := []) rfl rfl rfl ⟨Nat.le_of_ble_eq_true rfl, rfl, rfl⟩ rfl (by first | assumption | decide | omega) (Nat.le_of_ble_eq_true rfl) (Nat.le_of_ble_eq_true rfl) rfl hnr (fun r1 M1 hz => ?_)
      obtain ⟨rfl, hm_⟩ := hz
      refine rn_mem hm_ ?_
      clear hm_
      refine rn_topI (y := nI e) rfl ?_
      refine rn_istore (pc' := 48) rfl rfl rfl (Nat.le_of_ble_eq_true rfl) rfl ?_
      refine rn_iload (pc' := 50) rfl rfl rfl ?_
      refine rn_iconst (pc' := 51) (v := (-1)) rfl rfl (by decide) ?_
      refine rn_ic_eq (t := 78) (pc' := 54) rfl rfl rfl (fun h1 => ?_) (fun h1 => ?_)
      · first | exact absurd h1 hne | (refine rn_iinc (pc' := 81) rfl rfl rfl (nI_inc _) rfl (Nat.le_of_ble_eq_true rfl) rfl ?_; refine rn_goto (pc' := 19) rfl rfl ?_; exact k _ _ hG)
      · refine rn_iinc (pc' := 57) rfl rfl rfl (nI_inc _) rfl (Nat.le_of_ble_eq_true rfl) rfl ?_
        refine rn_aload_n (pc' := 58) rfl rfl rfl ?_
        refine rn_iload (pc' := 60) rfl rfl rfl ?_
        refine rn_putI (N := 1) (pc' := 63) rfl rfl rfl rfl rfl (by first | assumption | decide | omega) ?_
        refine rn_aload_n (pc' := 64) rfl rfl rfl ?_
        refine rn_aload_n (pc' := 65) rfl rfl rfl ?_
        refine rn_getF (N := 1) (t' := 11) (pc' := 68) rfl rfl rfl rfl rfl (by first | assumption | decide | omega) ?_
        refine rn_iload (pc' := 70) rfl rfl rfl ?_
        refine rn_aaldF (t' := 0) (N := 1) (K := 24) (pc' := 71) rfl rfl rfl rfl rfl (by first | assumption | decide | omega) rfl (by decide) rfl (by first | assumption | decide | omega) ?_
        refine rn_callV (pc' := 74) (as := [_]) rfl rfl rfl ⟨Nat.le_of_ble_eq_true rfl, rfl, rfl⟩ rfl (by first | assumption | decide | omega) (Nat.le_of_ble_eq_true rfl) (Nat.le_of_ble_eq_true rfl) rfl g2' (fun r9 D9 hz9 => ?_)
        obtain ⟨rfl, hQ⟩ := hz9
        refine rn_aload_n (pc' := 75) rfl rfl rfl ?_
        refine rn_callV (pc' := 78) (as := []) rfl rfl rfl ⟨Nat.le_of_ble_eq_true rfl, rfl, rfl⟩ rfl (by first | assumption | decide | omega) (Nat.le_of_ble_eq_true rfl) (Nat.le_of_ble_eq_true rfl) rfl (crow2 D9 hQ) (fun r8 D8 hz8 => ?_)
        obtain ⟨rfl, hG⟩ := hz8
        first | exact absurd h1 hne | (refine rn_iinc (pc' := 81) rfl rfl rfl (nI_inc _) rfl (Nat.le_of_ble_eq_true rfl) rfl ?_; refine rn_goto (pc' := 19) rfl rfl ?_; exact k _ _ hG)
    refine rn_iload_n (pc' := 20) rfl rfl rfl ?_
    refine rn_iload_n (pc' := 21) rfl rfl rfl ?_
    refine rn_ic_ge (t := 84) (pc' := 24) rfl rfl rfl (fun h1 => ?_) (fun h1 => ?_)
    · exact absurd hlt h1
    · refine rn_aload_n (pc' := 25) rfl rfl rfl ?_
      refine rn_dupA (pc' := 26) rfl rfl ?_
      refine rn_getI (N := 1) (pc' := 29) rfl rfl rfl rfl (by decide) rfl (by first | assumption | decide | omega) ?_
      refine rn_iconst (pc' := 30) (v := 1) rfl rfl (by decide) ?_
      refine rn_iadd (pc' := 31) rfl rfl ?_
      refine rn_topI e10 ?_
      refine rn_putI (N := 1) (pc' := 34) rfl rfl rfl rfl rfl (by first | assumption | decide | omega) ?_
      refine rn_aload_n (pc' := 35) rfl rfl rfl ?_
      refine rn_callV (pc' := 38) (as := []) rfl rfl rfl ⟨Nat.le_of_ble_eq_true rfl, rfl, rfl⟩ rfl (by first | assumption | decide | omega) (Nat.le_of_ble_eq_true rfl) (Nat.le_of_ble_eq_true rfl) rfl hra (fun r9 D9 hz9 => ?_)
      obtain ⟨rfl, n9, hn9, kk1, -, -⟩ := hz9
      refine rn_aload_n (pc' := 39) rfl rfl rfl ?_
      refine rn_callV (pc' := 42) (as := []) rfl rfl rfl ⟨Nat.le_of_ble_eq_true rfl, rfl, rfl⟩ rfl (by first | assumption | decide | omega) (Nat.le_of_ble_eq_true rfl) (Nat.le_of_ble_eq_true rfl) rfl (crow D9 n9 hn9 kk1) (fun r8 D8 hz8 => ?_)
      obtain ⟨rfl, kk, -, -⟩ := hz8
      exact s38 _ kk
