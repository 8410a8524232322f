theorem pnd_eq {C R : xM} {n e : Nat} (h : Inv C R n) (he : e < 24) (hl : 0 < R.1 25 0 e) : C.1 0 e 8 = R.1 33 0 e := (h.1.2.2.2.2.2.1 e he).1 hl
theorem pnd_M {C R : xM} {n e : Nat} (h : Inv C R n) (he : e < 24) (hl : 0 < R.1 25 0 e) : R.1 33 0 e &&& 2097150 = R.1 33 0 e := h.2.2.2.2.2.2.2.1 e he hl
theorem c_goOn {d n e : Nat} {C R : xM} (h : Inv C R n) (he : e < 24) (hl : 0 < R.1 25 0 e) : Rn d 27 (0, xen 27 [vR 0 e], [], C) (fun r C' => r = none ∧ Inv C' (f_cont R e) n) := by
  have v3 : C.1 0 e 3 = R.1 28 0 e := f1 h.1.1 he (by decide)
  have v8 := pnd_eq h he hl
  have h1 := Inv_pend (v := rpnd R e &&& (-1572865)) h hl (M_and (pnd_M h he hl) _)
  have ev : C.1 0 e 8 &&& (-1572865) = rpnd R e &&& (-1572865) := by rw [v8]
  by_cases h3 : rste R e = 3
  · have ef : f_cont R e = mI (mI R 33 0 e (rpnd R e &&& (-1572865))) 28 0 e 0 := by unfold f_cont; rw [if_pos h3]
    rw [ef]
    have h2 := Inv_ste0 (e := e) h1 (by rw [show (mI R 33 0 e (rpnd R e &&& (-1572865))).1 28 0 e = 3 from h3]; decide)
    show Rn _ 27 (0, [some (vR 0 e)], [], _) _
    refine rn_aload_n (pc' := 1) rfl rfl rfl ?_
    refine rn_dupA (pc' := 2) rfl rfl ?_
    refine rn_getI (N := 24) (pc' := 5) rfl rfl rfl rfl (by decide) rfl (by first | assumption | decide | omega) ?_
    refine rn_ldc (pc' := 7) (v := (-1572865)) rfl rfl rfl ?_
    refine rn_iand (pc' := 8) rfl rfl ?_
    refine rn_topI ev ?_
    refine rn_putI (N := 24) (pc' := 11) rfl rfl rfl rfl rfl (by first | assumption | decide | omega) ?_
    refine rn_aload_n (pc' := 12) rfl rfl rfl ?_
    refine rn_getI (N := 24) (pc' := 15) rfl rfl rfl rfl (by decide) rfl (by first | assumption | decide | omega) ?_
    refine rn_iconst (pc' := 16) (v := 3) rfl rfl (by decide) ?_
    refine rn_ic_ne (t := 24) (pc' := 19) rfl rfl rfl (fun h9 => ?_) (fun h9 => ?_)
    · refine rn_return rfl rfl ?_
      first | exact ⟨rfl, h2⟩ | exact absurd ((mI_ne3 (by decide)).trans (v3.trans h3)) h9
    · refine rn_aload_n (pc' := 20) rfl rfl rfl ?_
      refine rn_iconst (pc' := 21) (v := 0) rfl rfl (by decide) ?_
      refine rn_putI (N := 24) (pc' := 24) rfl rfl rfl rfl rfl (by first | assumption | decide | omega) ?_
      refine rn_return rfl rfl ?_
      first | exact ⟨rfl, h2⟩ | exact absurd ((mI_ne3 (by decide)).trans (v3.trans h3)) h9
  · have ef : f_cont R e = mI R 33 0 e (rpnd R e &&& (-1572865)) := by
      unfold f_cont
      rw [if_neg h3]
      exact mI_id (mI R 33 0 e (rpnd R e &&& (-1572865))) 28 0 e
    rw [ef]
    show Rn _ 27 (0, [some (vR 0 e)], [], _) _
    refine rn_aload_n (pc' := 1) rfl rfl rfl ?_
    refine rn_dupA (pc' := 2) rfl rfl ?_
    refine rn_getI (N := 24) (pc' := 5) rfl rfl rfl rfl (by decide) rfl (by first | assumption | decide | omega) ?_
    refine rn_ldc (pc' := 7) (v := (-1572865)) rfl rfl rfl ?_
    refine rn_iand (pc' := 8) rfl rfl ?_
    refine rn_topI ev ?_
    refine rn_putI (N := 24) (pc' := 11) rfl rfl rfl rfl rfl (by first | assumption | decide | omega) ?_
    refine rn_aload_n (pc' := 12) rfl rfl rfl ?_
    refine rn_getI (N := 24) (pc' := 15) rfl rfl rfl rfl (by decide) rfl (by first | assumption | decide | omega) ?_
    refine rn_iconst (pc' := 16) (v := 3) rfl rfl (by decide) ?_
    refine rn_ic_ne (t := 24) (pc' := 19) rfl rfl rfl (fun h9 => ?_) (fun h9 => ?_)
    · refine rn_return rfl rfl ?_
      exact ⟨rfl, h1⟩
    · exact absurd (v3.symm.trans ((mI_ne3 (by decide)).symm.trans h9)) h3
theorem c_interrupt {d n e : Nat} {C R : xM} (h : Inv C R n) (he : e < 24) (hl : 0 < R.1 25 0 e) : Rn d 5 (0, xen 5 [vR 0 e], [], C) (fun r C' => r = none ∧ Inv C' (if rste R e = 1 ∨ rste R e = 2 then f_intr R e else R) n) := by
  have v3 : C.1 0 e 3 = R.1 28 0 e := f1 h.1.1 he (by decide)
  by_cases hs : rste R e = 1 ∨ rste R e = 2
  · rw [if_pos hs]
    obtain ⟨w, hw, hw2⟩ := h.2.2.2.2.2.2.2.2.1 e he hs
    obtain ⟨x1, x2⟩ := h.1.2.2.2.2.2.2.2.1 e he hl hs
    have v5 : C.1 0 e 5 = R.1 30 0 e := f1 h.1.1 he (by decide)
    have n4 : ¬ R.1 28 0 e = 4 := fun z => by
      rcases hs with q | q
      · rw [show rste R e = 4 from z] at q; exact absurd q (by decide)
      · rw [show rste R e = 4 from z] at q; exact absurd q (by decide)
    have h1 := Inv_ste0 h n4
    have h2 := Inv_reg (e := e) (v := -4) h1 hw
    have h3 := Inv_fld (e := e) (k := 5) (t := 30) (v := R.1 44 0 e) h2 (by decide) (by decide) (by decide) (fun _ z => by
      have : (mI (mI R 28 0 e 0) 31 0 (8 * e + w) (-4)).1 28 0 e = 0 := by show (mI R 28 0 e 0).1 28 0 e = 0; simp [mI, xu]
      rw [this] at z
      exact absurd z (by decide)) h2.2.2
    have ef : f_intr R e = mI (mI (mI R 28 0 e 0) 31 0 (8 * e + w) (-4)) 30 0 e (R.1 44 0 e) := by
      unfold f_intr
      rw [hw2, nI_clamp (by omega)]
    rw [ef]
    have i18 : (mI C 0 e 3 0).1 0 e 18 = nI w := (mI_ne3 (by decide)).trans (x1.trans hw2)
    have i5 : (mI (mI C 0 e 3 0) 1 e w (-4)).1 0 e 5 + 1 = R.1 44 0 e := by
      rw [mI_ne (by decide), mI_ne3 (by decide), v5]; exact x2
    show Rn _ 5 (0, [some (vR 0 e)], [], _) _
    refine rn_aload_n (pc' := 1) rfl rfl rfl ?_
    refine rn_getI (N := 24) (pc' := 4) rfl rfl rfl rfl (by decide) rfl (by first | assumption | decide | omega) ?_
    refine rn_iconst (pc' := 5) (v := 1) rfl rfl (by decide) ?_
    refine rn_ic_eq (t := 16) (pc' := 8) rfl rfl rfl (fun h8 => ?_) (fun h8 => ?_)
    · refine rn_aload_n (pc' := 17) rfl rfl rfl ?_
      refine rn_iconst (pc' := 18) (v := 0) rfl rfl (by decide) ?_
      refine rn_putI (N := 24) (pc' := 21) rfl rfl rfl rfl rfl (by first | assumption | decide | omega) ?_
      refine rn_aload_n (pc' := 22) rfl rfl rfl ?_
      refine rn_getF (N := 24) (t' := 1) (pc' := 25) rfl rfl rfl rfl rfl (by first | assumption | decide | omega) ?_
      refine rn_aload_n (pc' := 26) rfl rfl rfl ?_
      refine rn_getI (N := 24) (pc' := 29) rfl rfl rfl rfl (by decide) rfl (by first | assumption | decide | omega) ?_
      refine rn_bipush (pc' := 31) (v := (-4)) rfl rfl (by decide) ?_
      refine rn_iast (k := w) (N := 24) (K := 8) (pc' := 32) rfl rfl ⟨rfl, rfl⟩ rfl (by first | assumption | decide | omega) rfl (by decide) (i18) (by first | assumption | decide | omega) ?_
      refine rn_aload_n (pc' := 33) rfl rfl rfl ?_
      refine rn_dupA (pc' := 34) rfl rfl ?_
      refine rn_getI (N := 24) (pc' := 37) rfl rfl rfl rfl (by decide) rfl (by first | assumption | decide | omega) ?_
      refine rn_iconst (pc' := 38) (v := 1) rfl rfl (by decide) ?_
      refine rn_iadd (pc' := 39) rfl rfl ?_
      refine rn_topI i5 ?_
      refine rn_putI (N := 24) (pc' := 42) rfl rfl rfl rfl rfl (by first | assumption | decide | omega) ?_
      refine rn_return rfl rfl ?_
      first | exact ⟨rfl, h3⟩ | exact absurd hs (fun z => z.elim (fun q => h8 (v3.trans q)) (fun q => h9 (v3.trans q)))
    · refine rn_aload_n (pc' := 9) rfl rfl rfl ?_
      refine rn_getI (N := 24) (pc' := 12) rfl rfl rfl rfl (by decide) rfl (by first | assumption | decide | omega) ?_
      refine rn_iconst (pc' := 13) (v := 2) rfl rfl (by decide) ?_
      refine rn_ic_ne (t := 42) (pc' := 16) rfl rfl rfl (fun h9 => ?_) (fun h9 => ?_)
      · refine rn_return rfl rfl ?_
        first | exact ⟨rfl, h3⟩ | exact absurd hs (fun z => z.elim (fun q => h8 (v3.trans q)) (fun q => h9 (v3.trans q)))
      · refine rn_aload_n (pc' := 17) rfl rfl rfl ?_
        refine rn_iconst (pc' := 18) (v := 0) rfl rfl (by decide) ?_
        refine rn_putI (N := 24) (pc' := 21) rfl rfl rfl rfl rfl (by first | assumption | decide | omega) ?_
        refine rn_aload_n (pc' := 22) rfl rfl rfl ?_
        refine rn_getF (N := 24) (t' := 1) (pc' := 25) rfl rfl rfl rfl rfl (by first | assumption | decide | omega) ?_
        refine rn_aload_n (pc' := 26) rfl rfl rfl ?_
        refine rn_getI (N := 24) (pc' := 29) rfl rfl rfl rfl (by decide) rfl (by first | assumption | decide | omega) ?_
        refine rn_bipush (pc' := 31) (v := (-4)) rfl rfl (by decide) ?_
        refine rn_iast (k := w) (N := 24) (K := 8) (pc' := 32) rfl rfl ⟨rfl, rfl⟩ rfl (by first | assumption | decide | omega) rfl (by decide) (i18) (by first | assumption | decide | omega) ?_
        refine rn_aload_n (pc' := 33) rfl rfl rfl ?_
        refine rn_dupA (pc' := 34) rfl rfl ?_
        refine rn_getI (N := 24) (pc' := 37) rfl rfl rfl rfl (by decide) rfl (by first | assumption | decide | omega) ?_
        refine rn_iconst (pc' := 38) (v := 1) rfl rfl (by decide) ?_
        refine rn_iadd (pc' := 39) rfl rfl ?_
        refine rn_topI i5 ?_
        refine rn_putI (N := 24) (pc' := 42) rfl rfl rfl rfl rfl (by first | assumption | decide | omega) ?_
        refine rn_return rfl rfl ?_
        first | exact ⟨rfl, h3⟩ | exact absurd hs (fun z => z.elim (fun q => h8 (v3.trans q)) (fun q => h9 (v3.trans q)))
  · rw [if_neg hs]
    show Rn _ 5 (0, [some (vR 0 e)], [], _) _
    refine rn_aload_n (pc' := 1) rfl rfl rfl ?_
    refine rn_getI (N := 24) (pc' := 4) rfl rfl rfl rfl (by decide) rfl (by first | assumption | decide | omega) ?_
    refine rn_iconst (pc' := 5) (v := 1) rfl rfl (by decide) ?_
    refine rn_ic_eq (t := 16) (pc' := 8) rfl rfl rfl (fun h8 => ?_) (fun h8 => ?_)
    · first | exact absurd (Or.inl (v3.symm.trans h8)) hs | exact absurd (Or.inr (v3.symm.trans h9)) hs
    · refine rn_aload_n (pc' := 9) rfl rfl rfl ?_
      refine rn_getI (N := 24) (pc' := 12) rfl rfl rfl rfl (by decide) rfl (by first | assumption | decide | omega) ?_
      refine rn_iconst (pc' := 13) (v := 2) rfl rfl (by decide) ?_
      refine rn_ic_ne (t := 42) (pc' := 16) rfl rfl rfl (fun h9 => ?_) (fun h9 => ?_)
      · refine rn_return rfl rfl ?_
        exact ⟨rfl, h⟩
      · first | exact absurd (Or.inl (v3.symm.trans h8)) hs | exact absurd (Or.inr (v3.symm.trans h9)) hs
theorem blk_eq (x : Int32) {s : Nat} (hs : s < 21) : (!decide (x &&& ((1 : Int32) <<< (nI s &&& 31)) = 0)) = decide ((x >>> (nI s &&& 31)) &&& 1 = 1) := by
  have h1 := bt_and1 x hs
  have h2 := bt_shr1 x hs
  cases hb : bt x s with
  | true =>
    rw [decide_eq_false (fun z => by rw [h1.mp z] at hb; cases hb), decide_eq_true (h2.mpr hb)]
    rfl
  | false =>
    rw [decide_eq_true (h1.mpr hb), decide_eq_false (fun z => by rw [h2.mp z] at hb; cases hb)]
    rfl
theorem le2 (x : Int32) : 2 ≤ x ↔ 1 < x := by
  rw [Int32.le_iff_toInt_le, Int32.lt_iff_toInt_lt]
  have h2 : (2 : Int32).toInt = 2 := by decide
  have h1 : (1 : Int32).toInt = 1 := by decide
  omega
theorem c_blocks2 {d n e s : Nat} {C R : xM} (h : Inv C R n) (he : e < 24) (hs : s < 21) : Rn d 8 (0, xen 8 [vR 0 e, vI (nI s)], [], C) (fun r C' => r = some (vI (bI (blkd R e s))) ∧ C' = C) := by
  refine (c_blocks (d := d) (s := s) (C := C) he).imp (fun r M' hz => ⟨?_, hz.2⟩)
  have v9 : C.1 0 e 9 = R.1 34 0 e := f1 h.1.1 he (by decide)
  rw [hz.1, v9, blk_eq _ hs]
  rfl
theorem c_handles2 {d n e s : Nat} {C R : xM} (h : Inv C R n) (he : e < 24) (hs : s < 21) : Rn d 7 (0, xen 7 [vR 0 e, vI (nI s)], [], C) (fun r C' => r = some (vI (bI (hdl R e s))) ∧ C' = C) := by
  refine (c_handles (d := d) (C := C) he hs).imp (fun r M' hz => ⟨?_, hz.2⟩)
  have vs : C.1 2 e s = rdoe R e s := h.1.2.2.1 e he s hs
  rw [hz.1, vs]
  unfold hdl
  rw [decide_eq_decide.mpr (le2 _)]
theorem pre_facts (M : xM) (e s : Nat) : (f_pre M e s).1 25 = M.1 25 ∧ (f_pre M e s).1 46 = M.1 46 ∧ (f_pre M e s).1 20 = M.1 20 ∧ (∀ k, M.1 28 0 k = 4 ↔ (f_pre M e s).1 28 0 k = 4) := by
  unfold f_pre
  split
  · refine ⟨rfl, rfl, rfl, fun k => ?_⟩
    by_cases hk : k = e
    · subst hk
      have : (f_cont M k).1 28 0 k = if rste M k = 3 then 0 else rste M k := by simp [f_cont, mI, xu]
      rw [this]
      split
      · rename_i h3; rw [show M.1 28 0 k = 3 from h3]; decide
      · exact Iff.rfl
    · have : (f_cont M e).1 28 0 k = M.1 28 0 k := by simp [f_cont, mI, xu, hk]
      rw [this]
  · split
    · exact ⟨rfl, rfl, rfl, fun k => Iff.rfl⟩
    · exact ⟨rfl, rfl, rfl, fun k => Iff.rfl⟩
theorem c_deliver {d n e s : Nat} {C R : xM} (h : Inv C R n) (he : e < 24) (hs1 : 1 ≤ s) (hs : s < 21) (hl : 0 < R.1 25 0 e) (h4 : ¬ R.1 28 0 e = 4) (hn : ¬ R.1 25 0 e = 1 → n + 49 ≤ 1224) : Rn (d + 5) 26 (0, xen 26 [vR 9 0, vR 0 e, vI (nI s)], [], C) (fun r C' => r = none ∧ ∃ n', n' ≤ n + 49 ∧ Inv C' (f_come R e s) n') := by
  have v0 : C.1 0 e 0 = R.1 25 0 e := f1 h.1.1 he (by decide)
  have v3 : C.1 0 e 3 = R.1 28 0 e := f1 h.1.1 he (by decide)
  have main : ∀ D, Inv D (f_pre R e s) n → Rn (d + 5) 26 (53, [some (vR 9 0), some (vR 0 e), some (vI (nI s))], [], D) (fun r C' => r = none ∧ ∃ n', n' ≤ n + 49 ∧ Inv C' (f_come R e s) n') := by
    intro D hD
    unfold f_come
    obtain ⟨p25, -, -, p28⟩ := pre_facts R e s
    have hlN : 0 < (f_pre R e s).1 25 0 e := by rw [p25]; exact hl
    have h4N : ¬ (f_pre R e s).1 28 0 e = 4 := fun z => h4 ((p28 e).mpr z)
    have hnN : ¬ (f_pre R e s).1 25 0 e = 1 → n + 49 ≤ 1224 := by rw [p25]; exact hn
    generalize f_pre R e s = N at hD hlN h4N hnN
    have hb := c_blocks2 (d := d + 4) hD he hs
    have hh := c_handles2 (d := d + 4) hD he hs
    have ev : D.1 0 e 8 ||| ((1 : Int32) <<< (nI s &&& 31)) = rpnd N e ||| ((1 : Int32) <<< (nI s &&& 31)) := by rw [pnd_eq hD he hlN]
    have hP : Inv (mI D 0 e 8 (rpnd N e ||| ((1 : Int32) <<< (nI s &&& 31)))) (f_pend N e s) n := Inv_pend hD hlN (M_or (pnd_M hD he hlN) (M_sh s hs1 hs))
    have hb2 : Rn (d + 4) 8 (0, xen 8 [vR 0 e, vI (nI s)], [], mI D 0 e 8 (rpnd N e ||| ((1 : Int32) <<< (nI s &&& 31)))) (fun r C' => r = some (vI (bI (blkd N e s))) ∧ C' = mI D 0 e 8 (rpnd N e ||| ((1 : Int32) <<< (nI s &&& 31)))) := c_blocks2 (d := d + 4) (R := f_pend N e s) hP he hs
    have hi := c_interrupt (d := d + 4) hP he hlN
    by_cases hB : blkd N e s = false
    · rw [hB] at hb hb2
      by_cases hH : hdl N e s = false
      · have ef : f_come2 N e s = f_happen N e s := by unfold f_come2; rw [if_pos ⟨hB, hH⟩]
        rw [ef]
        rw [hH] at hh
        have hc := c_happen (d := d) hD he hs hlN h4N hnN
        refine rn_aload_n (pc' := 54) rfl rfl rfl ?_
        refine rn_iload_n (pc' := 55) rfl rfl rfl ?_
        refine rn_callV (pc' := 58) (as := [_]) rfl rfl rfl ⟨Nat.le_of_ble_eq_true rfl, rfl, rfl⟩ rfl (by first | assumption | decide | omega) (Nat.le_of_ble_eq_true rfl) (Nat.le_of_ble_eq_true rfl) rfl hb (fun r1 M1 hz => ?_)
        obtain ⟨rfl, hm_⟩ := hz
        refine rn_mem hm_ ?_
        clear hm_
        refine rn_if_ne (t := 76) (pc' := 61) rfl rfl rfl (fun h8 => ?_) (fun h8 => ?_)
        · first | exact absurd rfl h8 | exact absurd rfl h9
        · refine rn_aload_n (pc' := 62) rfl rfl rfl ?_
          refine rn_iload_n (pc' := 63) rfl rfl rfl ?_
          refine rn_callV (pc' := 66) (as := [_]) rfl rfl rfl ⟨Nat.le_of_ble_eq_true rfl, rfl, rfl⟩ rfl (by first | assumption | decide | omega) (Nat.le_of_ble_eq_true rfl) (Nat.le_of_ble_eq_true rfl) rfl hh (fun r3 M3 hz => ?_)
          obtain ⟨rfl, hm_⟩ := hz
          refine rn_mem hm_ ?_
          clear hm_
          refine rn_if_ne (t := 76) (pc' := 69) rfl rfl rfl (fun h9 => ?_) (fun h9 => ?_)
          · first | exact absurd rfl h8 | exact absurd rfl h9
          · refine rn_aload_n (pc' := 70) rfl rfl rfl ?_
            refine rn_aload_n (pc' := 71) rfl rfl rfl ?_
            refine rn_iload_n (pc' := 72) rfl rfl rfl ?_
            refine rn_callV (pc' := 75) (as := [_, _]) rfl rfl rfl ⟨Nat.le_of_ble_eq_true rfl, rfl, rfl⟩ rfl (by first | assumption | decide | omega) (Nat.le_of_ble_eq_true rfl) (Nat.le_of_ble_eq_true rfl) rfl hc (fun r9 D9 hz9 => ?_)
            obtain ⟨rfl, n', hb', -, hI⟩ := hz9
            refine rn_return rfl rfl ?_
            exact ⟨rfl, n', hb', hI⟩
      · have hH' : hdl N e s = true := by simpa using hH
        rw [hH'] at hh
        have ef : f_come2 N e s = if rste (f_pend N e s) e = 1 ∨ rste (f_pend N e s) e = 2 then f_intr (f_pend N e s) e else f_pend N e s := by
          have e0 : rste (f_pend N e s) e = rste N e := rfl
          unfold f_come2
          rw [if_neg (fun z => hH z.2), e0]
          by_cases hq : rste N e = 1 ∨ rste N e = 2
          · rw [if_pos ⟨hB, hq⟩, if_pos hq]
          · rw [if_neg (fun z => hq z.2), if_neg hq]
        rw [ef]
        refine rn_aload_n (pc' := 54) rfl rfl rfl ?_
        refine rn_iload_n (pc' := 55) rfl rfl rfl ?_
        refine rn_callV (pc' := 58) (as := [_]) rfl rfl rfl ⟨Nat.le_of_ble_eq_true rfl, rfl, rfl⟩ rfl (by first | assumption | decide | omega) (Nat.le_of_ble_eq_true rfl) (Nat.le_of_ble_eq_true rfl) rfl hb (fun r1 M1 hz => ?_)
        obtain ⟨rfl, hm_⟩ := hz
        refine rn_mem hm_ ?_
        clear hm_
        refine rn_if_ne (t := 76) (pc' := 61) rfl rfl rfl (fun h8 => ?_) (fun h8 => ?_)
        · refine rn_aload_n (pc' := 77) rfl rfl rfl ?_
          refine rn_dupA (pc' := 78) rfl rfl ?_
          refine rn_getI (N := 24) (pc' := 81) rfl rfl rfl rfl (by decide) rfl (by first | assumption | decide | omega) ?_
          refine rn_iconst (pc' := 82) (v := 1) rfl rfl (by decide) ?_
          refine rn_iload_n (pc' := 83) rfl rfl rfl ?_
          refine rn_ishl (pc' := 84) rfl rfl ?_
          refine rn_ior (pc' := 85) rfl rfl ?_
          refine rn_topI ev ?_
          refine rn_putI (N := 24) (pc' := 88) rfl rfl rfl rfl rfl (by first | assumption | decide | omega) ?_
          refine rn_aload_n (pc' := 89) rfl rfl rfl ?_
          refine rn_iload_n (pc' := 90) rfl rfl rfl ?_
          refine rn_callV (pc' := 93) (as := [_]) rfl rfl rfl ⟨Nat.le_of_ble_eq_true rfl, rfl, rfl⟩ rfl (by first | assumption | decide | omega) (Nat.le_of_ble_eq_true rfl) (Nat.le_of_ble_eq_true rfl) rfl hb2 (fun r3 M3 hz => ?_)
          obtain ⟨rfl, hm_⟩ := hz
          refine rn_mem hm_ ?_
          clear hm_
          refine rn_if_ne (t := 100) (pc' := 96) rfl rfl rfl (fun h7 => ?_) (fun h7 => ?_)
          · refine rn_return rfl rfl ?_
            first | exact absurd rfl h8 | exact absurd rfl h7 | exact ⟨rfl, n, by omega, hI⟩
          · refine rn_aload_n (pc' := 97) rfl rfl rfl ?_
            refine rn_callV (pc' := 100) (as := []) rfl rfl rfl ⟨Nat.le_of_ble_eq_true rfl, rfl, rfl⟩ rfl (by first | assumption | decide | omega) (Nat.le_of_ble_eq_true rfl) (Nat.le_of_ble_eq_true rfl) rfl hi (fun r9 D9 hz9 => ?_)
            obtain ⟨rfl, hI⟩ := hz9
            refine rn_return rfl rfl ?_
            first | exact absurd rfl h8 | exact absurd rfl h7 | exact ⟨rfl, n, by omega, hI⟩
        · refine rn_aload_n (pc' := 62) rfl rfl rfl ?_
          refine rn_iload_n (pc' := 63) rfl rfl rfl ?_
          refine rn_callV (pc' := 66) (as := [_]) rfl rfl rfl ⟨Nat.le_of_ble_eq_true rfl, rfl, rfl⟩ rfl (by first | assumption | decide | omega) (Nat.le_of_ble_eq_true rfl) (Nat.le_of_ble_eq_true rfl) rfl hh (fun r3 M3 hz => ?_)
          obtain ⟨rfl, hm_⟩ := hz
          refine rn_mem hm_ ?_
          clear hm_
          refine rn_if_ne (t := 76) (pc' := 69) rfl rfl rfl (fun h9 => ?_) (fun h9 => ?_)
          · refine rn_aload_n (pc' := 77) rfl rfl rfl ?_
            refine rn_dupA (pc' := 78) rfl rfl ?_
            refine rn_getI (N := 24) (pc' := 81) rfl rfl rfl rfl (by decide) rfl (by first | assumption | decide | omega) ?_
            refine rn_iconst (pc' := 82) (v := 1) rfl rfl (by decide) ?_
            refine rn_iload_n (pc' := 83) rfl rfl rfl ?_
            refine rn_ishl (pc' := 84) rfl rfl ?_
            refine rn_ior (pc' := 85) rfl rfl ?_
            refine rn_topI ev ?_
            refine rn_putI (N := 24) (pc' := 88) rfl rfl rfl rfl rfl (by first | assumption | decide | omega) ?_
            refine rn_aload_n (pc' := 89) rfl rfl rfl ?_
            refine rn_iload_n (pc' := 90) rfl rfl rfl ?_
            refine rn_callV (pc' := 93) (as := [_]) rfl rfl rfl ⟨Nat.le_of_ble_eq_true rfl, rfl, rfl⟩ rfl (by first | assumption | decide | omega) (Nat.le_of_ble_eq_true rfl) (Nat.le_of_ble_eq_true rfl) rfl hb2 (fun r5 M5 hz => ?_)
            obtain ⟨rfl, hm_⟩ := hz
            refine rn_mem hm_ ?_
            clear hm_
            refine rn_if_ne (t := 100) (pc' := 96) rfl rfl rfl (fun h7 => ?_) (fun h7 => ?_)
            · refine rn_return rfl rfl ?_
              first | exact absurd rfl h8 | exact absurd rfl h7 | exact ⟨rfl, n, by omega, hI⟩
            · refine rn_aload_n (pc' := 97) rfl rfl rfl ?_
              refine rn_callV (pc' := 100) (as := []) rfl rfl rfl ⟨Nat.le_of_ble_eq_true rfl, rfl, rfl⟩ rfl (by first | assumption | decide | omega) (Nat.le_of_ble_eq_true rfl) (Nat.le_of_ble_eq_true rfl) rfl hi (fun r9 D9 hz9 => ?_)
              obtain ⟨rfl, hI⟩ := hz9
              refine rn_return rfl rfl ?_
              first | exact absurd rfl h8 | exact absurd rfl h7 | exact ⟨rfl, n, by omega, hI⟩
          · exact absurd h9 (by decide)
    · have hB' : blkd N e s = true := by simpa using hB
      rw [hB'] at hb hb2
      have ef : f_come2 N e s = f_pend N e s := by
        unfold f_come2
        rw [if_neg (fun z => hB z.1), if_neg (fun z => hB z.1)]
      rw [ef]
      refine rn_aload_n (pc' := 54) rfl rfl rfl ?_
      refine rn_iload_n (pc' := 55) rfl rfl rfl ?_
      refine rn_callV (pc' := 58) (as := [_]) rfl rfl rfl ⟨Nat.le_of_ble_eq_true rfl, rfl, rfl⟩ rfl (by first | assumption | decide | omega) (Nat.le_of_ble_eq_true rfl) (Nat.le_of_ble_eq_true rfl) rfl hb (fun r1 M1 hz => ?_)
      obtain ⟨rfl, hm_⟩ := hz
      refine rn_mem hm_ ?_
      clear hm_
      refine rn_if_ne (t := 76) (pc' := 61) rfl rfl rfl (fun h8 => ?_) (fun h8 => ?_)
      · refine rn_aload_n (pc' := 77) rfl rfl rfl ?_
        refine rn_dupA (pc' := 78) rfl rfl ?_
        refine rn_getI (N := 24) (pc' := 81) rfl rfl rfl rfl (by decide) rfl (by first | assumption | decide | omega) ?_
        refine rn_iconst (pc' := 82) (v := 1) rfl rfl (by decide) ?_
        refine rn_iload_n (pc' := 83) rfl rfl rfl ?_
        refine rn_ishl (pc' := 84) rfl rfl ?_
        refine rn_ior (pc' := 85) rfl rfl ?_
        refine rn_topI ev ?_
        refine rn_putI (N := 24) (pc' := 88) rfl rfl rfl rfl rfl (by first | assumption | decide | omega) ?_
        refine rn_aload_n (pc' := 89) rfl rfl rfl ?_
        refine rn_iload_n (pc' := 90) rfl rfl rfl ?_
        refine rn_callV (pc' := 93) (as := [_]) rfl rfl rfl ⟨Nat.le_of_ble_eq_true rfl, rfl, rfl⟩ rfl (by first | assumption | decide | omega) (Nat.le_of_ble_eq_true rfl) (Nat.le_of_ble_eq_true rfl) rfl hb2 (fun r3 M3 hz => ?_)
        obtain ⟨rfl, hm_⟩ := hz
        refine rn_mem hm_ ?_
        clear hm_
        refine rn_if_ne (t := 100) (pc' := 96) rfl rfl rfl (fun h7 => ?_) (fun h7 => ?_)
        · refine rn_return rfl rfl ?_
          exact ⟨rfl, n, by omega, hP⟩
        · exact absurd h7 (by decide)
      · exact absurd h8 (by decide)
  have hne : ¬ C.1 0 e 0 = 0 := by rw [v0]; exact fun q => by rw [q] at hl; exact absurd hl (by decide)
  have hn4 : ¬ C.1 0 e 3 = 4 := by rw [v3]; exact h4
  show Rn _ 26 (0, [some (vR 9 0), some (vR 0 e), some (vI (nI s))], [], _) _
  unfold f_pre at main
  by_cases q : nI s = 18
  · rw [if_pos q] at main
    have hg := c_goOn (d := d + 4) h he hl
    have q19 : ¬ nI s = 19 := by rw [q]; decide
    have q20 : ¬ nI s = 20 := by rw [q]; decide
    refine rn_aload_n (pc' := 1) rfl rfl rfl ?_
    refine rn_ifnull (t := 19) (pc' := 4) rfl rfl rfl (fun h1 => ?_) (fun h1 => ?_)
    · first | exact absurd h2 hne | exact absurd h3 hn4 | exact nomatch h1
    · refine rn_aload_n (pc' := 5) rfl rfl rfl ?_
      refine rn_getI (N := 24) (pc' := 8) rfl rfl rfl rfl (by decide) rfl (by first | assumption | decide | omega) ?_
      refine rn_if_eq (t := 19) (pc' := 11) rfl rfl rfl (fun h2 => ?_) (fun h2 => ?_)
      · first | exact absurd h2 hne | exact absurd h3 hn4 | exact nomatch h1
      · refine rn_aload_n (pc' := 12) rfl rfl rfl ?_
        refine rn_getI (N := 24) (pc' := 15) rfl rfl rfl rfl (by decide) rfl (by first | assumption | decide | omega) ?_
        refine rn_iconst (pc' := 16) (v := 4) rfl rfl (by decide) ?_
        refine rn_ic_ne (t := 20) (pc' := 19) rfl rfl rfl (fun h3 => ?_) (fun h3 => ?_)
        · refine rn_iload_n (pc' := 21) rfl rfl rfl ?_
          refine rn_bipush (pc' := 23) (v := 18) rfl rfl (by decide) ?_
          refine rn_ic_ne (t := 30) (pc' := 26) rfl rfl rfl (fun h5 => ?_) (fun h5 => ?_)
          · first | exact absurd q h5 | skip
          · refine rn_aload_n (pc' := 27) rfl rfl rfl ?_
            refine rn_callS (pc' := 30) (as := [_]) rfl rfl rfl ⟨rfl, rfl, rfl⟩ (Nat.le_of_ble_eq_true rfl) (Nat.le_of_ble_eq_true rfl) rfl hg (fun r9 D9 hz9 => ?_)
            obtain ⟨rfl, hI⟩ := hz9
            refine rn_iload_n (pc' := 31) rfl rfl rfl ?_
            refine rn_bipush (pc' := 33) (v := 19) rfl rfl (by decide) ?_
            refine rn_ic_eq (t := 42) (pc' := 36) rfl rfl rfl (fun z => absurd z q19) (fun _ => ?_)
            refine rn_iload_n (pc' := 37) rfl rfl rfl ?_
            refine rn_bipush (pc' := 39) (v := 20) rfl rfl (by decide) ?_
            refine rn_ic_ne (t := 53) (pc' := 42) rfl rfl rfl (fun _ => ?_) (fun z => absurd z q20)
            exact main _ hI
            first | exact absurd q h5 | skip
        · first | exact absurd h2 hne | exact absurd h3 hn4 | exact nomatch h1
  · rw [if_neg q] at main
    by_cases q2 : nI s = 19 ∨ nI s = 20
    · rw [if_pos q2] at main
      have hm := main _ (Inv_pend (v := rpnd R e &&& (-262145)) h hl (M_and (pnd_M h he hl) _))
      have ev : C.1 0 e 8 &&& (-262145) = rpnd R e &&& (-262145) := by rw [pnd_eq h he hl]
      refine rn_aload_n (pc' := 1) rfl rfl rfl ?_
      refine rn_ifnull (t := 19) (pc' := 4) rfl rfl rfl (fun h1 => ?_) (fun h1 => ?_)
      · first | exact absurd h2 hne | exact absurd h3 hn4 | exact nomatch h1
      · refine rn_aload_n (pc' := 5) rfl rfl rfl ?_
        refine rn_getI (N := 24) (pc' := 8) rfl rfl rfl rfl (by decide) rfl (by first | assumption | decide | omega) ?_
        refine rn_if_eq (t := 19) (pc' := 11) rfl rfl rfl (fun h2 => ?_) (fun h2 => ?_)
        · first | exact absurd h2 hne | exact absurd h3 hn4 | exact nomatch h1
        · refine rn_aload_n (pc' := 12) rfl rfl rfl ?_
          refine rn_getI (N := 24) (pc' := 15) rfl rfl rfl rfl (by decide) rfl (by first | assumption | decide | omega) ?_
          refine rn_iconst (pc' := 16) (v := 4) rfl rfl (by decide) ?_
          refine rn_ic_ne (t := 20) (pc' := 19) rfl rfl rfl (fun h3 => ?_) (fun h3 => ?_)
          · refine rn_iload_n (pc' := 21) rfl rfl rfl ?_
            refine rn_bipush (pc' := 23) (v := 18) rfl rfl (by decide) ?_
            refine rn_ic_ne (t := 30) (pc' := 26) rfl rfl rfl (fun h5 => ?_) (fun h5 => ?_)
            · refine rn_iload_n (pc' := 31) rfl rfl rfl ?_
              refine rn_bipush (pc' := 33) (v := 19) rfl rfl (by decide) ?_
              refine rn_ic_eq (t := 42) (pc' := 36) rfl rfl rfl (fun h6 => ?_) (fun h6 => ?_)
              · refine rn_aload_n (pc' := 43) rfl rfl rfl ?_
                refine rn_dupA (pc' := 44) rfl rfl ?_
                refine rn_getI (N := 24) (pc' := 47) rfl rfl rfl rfl (by decide) rfl (by first | assumption | decide | omega) ?_
                refine rn_ldc (pc' := 49) (v := (-262145)) rfl rfl rfl ?_
                refine rn_iand (pc' := 50) rfl rfl ?_
                refine rn_topI ev ?_
                refine rn_putI (N := 24) (pc' := 53) rfl rfl rfl rfl rfl (by first | assumption | decide | omega) ?_
                first | exact hm | exact absurd q2 (fun z => z.elim h6 h7)
              · refine rn_iload_n (pc' := 37) rfl rfl rfl ?_
                refine rn_bipush (pc' := 39) (v := 20) rfl rfl (by decide) ?_
                refine rn_ic_ne (t := 53) (pc' := 42) rfl rfl rfl (fun h7 => ?_) (fun h7 => ?_)
                · first | exact hm | exact absurd q2 (fun z => z.elim h6 h7)
                · refine rn_aload_n (pc' := 43) rfl rfl rfl ?_
                  refine rn_dupA (pc' := 44) rfl rfl ?_
                  refine rn_getI (N := 24) (pc' := 47) rfl rfl rfl rfl (by decide) rfl (by first | assumption | decide | omega) ?_
                  refine rn_ldc (pc' := 49) (v := (-262145)) rfl rfl rfl ?_
                  refine rn_iand (pc' := 50) rfl rfl ?_
                  refine rn_topI ev ?_
                  refine rn_putI (N := 24) (pc' := 53) rfl rfl rfl rfl rfl (by first | assumption | decide | omega) ?_
                  first | exact hm | exact absurd q2 (fun z => z.elim h6 h7)
            · exact absurd h5 q
          · first | exact absurd h2 hne | exact absurd h3 hn4 | exact nomatch h1
    · rw [if_neg q2] at main
      refine rn_aload_n (pc' := 1) rfl rfl rfl ?_
      refine rn_ifnull (t := 19) (pc' := 4) rfl rfl rfl (fun h1 => ?_) (fun h1 => ?_)
      · first | exact absurd h2 hne | exact absurd h3 hn4 | exact nomatch h1
      · refine rn_aload_n (pc' := 5) rfl rfl rfl ?_
        refine rn_getI (N := 24) (pc' := 8) rfl rfl rfl rfl (by decide) rfl (by first | assumption | decide | omega) ?_
        refine rn_if_eq (t := 19) (pc' := 11) rfl rfl rfl (fun h2 => ?_) (fun h2 => ?_)
        · first | exact absurd h2 hne | exact absurd h3 hn4 | exact nomatch h1
        · refine rn_aload_n (pc' := 12) rfl rfl rfl ?_
          refine rn_getI (N := 24) (pc' := 15) rfl rfl rfl rfl (by decide) rfl (by first | assumption | decide | omega) ?_
          refine rn_iconst (pc' := 16) (v := 4) rfl rfl (by decide) ?_
          refine rn_ic_ne (t := 20) (pc' := 19) rfl rfl rfl (fun h3 => ?_) (fun h3 => ?_)
          · refine rn_iload_n (pc' := 21) rfl rfl rfl ?_
            refine rn_bipush (pc' := 23) (v := 18) rfl rfl (by decide) ?_
            refine rn_ic_ne (t := 30) (pc' := 26) rfl rfl rfl (fun h5 => ?_) (fun h5 => ?_)
            · refine rn_iload_n (pc' := 31) rfl rfl rfl ?_
              refine rn_bipush (pc' := 33) (v := 19) rfl rfl (by decide) ?_
              refine rn_ic_eq (t := 42) (pc' := 36) rfl rfl rfl (fun h6 => ?_) (fun h6 => ?_)
              · first | exact absurd (Or.inl h6) q2 | exact absurd (Or.inr h7) q2
              · refine rn_iload_n (pc' := 37) rfl rfl rfl ?_
                refine rn_bipush (pc' := 39) (v := 20) rfl rfl (by decide) ?_
                refine rn_ic_ne (t := 53) (pc' := 42) rfl rfl rfl (fun h7 => ?_) (fun h7 => ?_)
                · exact main _ h
                · first | exact absurd (Or.inl h6) q2 | exact absurd (Or.inr h7) q2
            · exact absurd h5 q
          · first | exact absurd h2 hne | exact absurd h3 hn4 | exact nomatch h1
theorem c_deliver0 {d e : Nat} {C : xM} (s : Int32) (he : e < 24) (h : C.1 0 e 0 = 0 ∨ C.1 0 e 3 = 4) : Rn d 26 (0, xen 26 [vR 9 0, vR 0 e, vI s], [], C) (fun r C' => r = none ∧ C' = C) := by
  show Rn _ 26 (0, [some (vR 9 0), some (vR 0 e), some (vI s)], [], _) _
  refine rn_aload_n (pc' := 1) rfl rfl rfl ?_
  refine rn_ifnull (t := 19) (pc' := 4) rfl rfl rfl (fun h1 => ?_) (fun h1 => ?_)
  · refine rn_return rfl rfl ?_
    exact ⟨rfl, rfl⟩
  · refine rn_aload_n (pc' := 5) rfl rfl rfl ?_
    refine rn_getI (N := 24) (pc' := 8) rfl rfl rfl rfl (by decide) rfl (by first | assumption | decide | omega) ?_
    refine rn_if_eq (t := 19) (pc' := 11) rfl rfl rfl (fun h2 => ?_) (fun h2 => ?_)
    · refine rn_return rfl rfl ?_
      exact ⟨rfl, rfl⟩
    · refine rn_aload_n (pc' := 12) rfl rfl rfl ?_
      refine rn_getI (N := 24) (pc' := 15) rfl rfl rfl rfl (by decide) rfl (by first | assumption | decide | omega) ?_
      refine rn_iconst (pc' := 16) (v := 4) rfl rfl (by decide) ?_
      refine rn_ic_ne (t := 20) (pc' := 19) rfl rfl rfl (fun h3 => ?_) (fun h3 => ?_)
      · exact absurd h (fun z => z.elim h2 h3)
      · refine rn_return rfl rfl ?_
        exact ⟨rfl, rfl⟩
