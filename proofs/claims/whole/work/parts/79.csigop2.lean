theorem c_setAction {d e t : Nat} {D N : xM} (a b : Int32) (h : Cx e t D N) : Rn (d + 1) 54 (0, xen 54 [vR 0 e, vI a, vI b], [], D) (fun r C' => r = none ∧ ((isS1 a ∧ ¬ a = 9 ∧ ¬ a = 19 ∧ ¬ b < 0 ∧ ∀ s, a = nI s → s < 21 → AP e (N.1 25 0 e) (t + 1) C' (mI N 32 0 (21 * e + s) b)) ∨ (¬ (isS1 a ∧ ¬ a = 9 ∧ ¬ a = 19 ∧ ¬ b < 0) ∧ AP e (N.1 25 0 e) (t + 1) C' N))) := by
  have he := h.1
  have hp := c_isSignal (d := d) (C := D) a
  by_cases hs : isS1 a
  · rw [decide_eq_true ((isS1_iff a).mp hs)] at hp
    obtain ⟨s, s1, s2, rfl⟩ := isS1_n hs
    show Rn _ 54 (0, [some (vR 0 e), some (vI (nI s)), some (vI b)], [], _) _
    refine rn_iload_n (pc' := 1) rfl rfl rfl ?_
    refine rn_callS (pc' := 4) (as := [_]) rfl rfl rfl ⟨rfl, rfl, rfl⟩ (Nat.le_of_ble_eq_true rfl) (Nat.le_of_ble_eq_true rfl) rfl hp (fun r1 M1 hz => ?_)
    obtain ⟨rfl, hm_⟩ := hz
    refine rn_mem hm_ ?_
    clear hm_
    refine rn_if_eq (t := 30) (pc' := 7) rfl rfl rfl (fun h1 => ?_) (fun h1 => ?_)
    · refine rn_return rfl rfl ?_
      first | exact ⟨rfl, Or.inl ⟨hs, h2, h3, h4, fun s' q1 q2 => by have := (nI_eq (by omega) (by omega)).mp q1; subst this; exact AP_of (Inv_doe h.2.1 s1 s2) (by omega) h.2.2.2.2.1 h.tm rfl h.n4⟩⟩ | exact ⟨rfl, Or.inr ⟨fun z => z.2.1 h2, AP_same h⟩⟩ | exact ⟨rfl, Or.inr ⟨fun z => z.2.2.1 h3, AP_same h⟩⟩ | exact ⟨rfl, Or.inr ⟨fun z => z.2.2.2 h4, AP_same h⟩⟩ | exact absurd h1 (by decide)
    · refine rn_iload_n (pc' := 8) rfl rfl rfl ?_
      refine rn_bipush (pc' := 10) (v := 9) rfl rfl (by decide) ?_
      refine rn_ic_eq (t := 30) (pc' := 13) rfl rfl rfl (fun h2 => ?_) (fun h2 => ?_)
      · refine rn_return rfl rfl ?_
        first | exact ⟨rfl, Or.inl ⟨hs, h2, h3, h4, fun s' q1 q2 => by have := (nI_eq (by omega) (by omega)).mp q1; subst this; exact AP_of (Inv_doe h.2.1 s1 s2) (by omega) h.2.2.2.2.1 h.tm rfl h.n4⟩⟩ | exact ⟨rfl, Or.inr ⟨fun z => z.2.1 h2, AP_same h⟩⟩ | exact ⟨rfl, Or.inr ⟨fun z => z.2.2.1 h3, AP_same h⟩⟩ | exact ⟨rfl, Or.inr ⟨fun z => z.2.2.2 h4, AP_same h⟩⟩ | exact absurd h1 (by decide)
      · refine rn_iload_n (pc' := 14) rfl rfl rfl ?_
        refine rn_bipush (pc' := 16) (v := 19) rfl rfl (by decide) ?_
        refine rn_ic_eq (t := 30) (pc' := 19) rfl rfl rfl (fun h3 => ?_) (fun h3 => ?_)
        · refine rn_return rfl rfl ?_
          first | exact ⟨rfl, Or.inl ⟨hs, h2, h3, h4, fun s' q1 q2 => by have := (nI_eq (by omega) (by omega)).mp q1; subst this; exact AP_of (Inv_doe h.2.1 s1 s2) (by omega) h.2.2.2.2.1 h.tm rfl h.n4⟩⟩ | exact ⟨rfl, Or.inr ⟨fun z => z.2.1 h2, AP_same h⟩⟩ | exact ⟨rfl, Or.inr ⟨fun z => z.2.2.1 h3, AP_same h⟩⟩ | exact ⟨rfl, Or.inr ⟨fun z => z.2.2.2 h4, AP_same h⟩⟩ | exact absurd h1 (by decide)
        · refine rn_iload_n (pc' := 20) rfl rfl rfl ?_
          refine rn_if_lt (t := 30) (pc' := 23) rfl rfl rfl (fun h4 => ?_) (fun h4 => ?_)
          · refine rn_return rfl rfl ?_
            first | exact ⟨rfl, Or.inl ⟨hs, h2, h3, h4, fun s' q1 q2 => by have := (nI_eq (by omega) (by omega)).mp q1; subst this; exact AP_of (Inv_doe h.2.1 s1 s2) (by omega) h.2.2.2.2.1 h.tm rfl h.n4⟩⟩ | exact ⟨rfl, Or.inr ⟨fun z => z.2.1 h2, AP_same h⟩⟩ | exact ⟨rfl, Or.inr ⟨fun z => z.2.2.1 h3, AP_same h⟩⟩ | exact ⟨rfl, Or.inr ⟨fun z => z.2.2.2 h4, AP_same h⟩⟩ | exact absurd h1 (by decide)
          · refine rn_aload_n (pc' := 24) rfl rfl rfl ?_
            refine rn_getF (N := 24) (t' := 2) (pc' := 27) rfl rfl rfl rfl rfl (by first | assumption | decide | omega) ?_
            refine rn_iload_n (pc' := 28) rfl rfl rfl ?_
            refine rn_iload_n (pc' := 29) rfl rfl rfl ?_
            refine rn_iast (N := 24) (K := 21) (pc' := 30) rfl rfl ⟨rfl, rfl⟩ rfl (by first | assumption | decide | omega) rfl (by decide) rfl (by first | assumption | decide | omega) ?_
            refine rn_return rfl rfl ?_
            first | exact ⟨rfl, Or.inl ⟨hs, h2, h3, h4, fun s' q1 q2 => by have := (nI_eq (by omega) (by omega)).mp q1; subst this; exact AP_of (Inv_doe h.2.1 s1 s2) (by omega) h.2.2.2.2.1 h.tm rfl h.n4⟩⟩ | exact ⟨rfl, Or.inr ⟨fun z => z.2.1 h2, AP_same h⟩⟩ | exact ⟨rfl, Or.inr ⟨fun z => z.2.2.1 h3, AP_same h⟩⟩ | exact ⟨rfl, Or.inr ⟨fun z => z.2.2.2 h4, AP_same h⟩⟩ | exact absurd h1 (by decide)
  · rw [decide_eq_false (fun z => hs ((isS1_iff a).mpr z))] at hp
    show Rn _ 54 (0, [some (vR 0 e), some (vI a), some (vI b)], [], _) _
    refine rn_iload_n (pc' := 1) rfl rfl rfl ?_
    refine rn_callS (pc' := 4) (as := [_]) rfl rfl rfl ⟨rfl, rfl, rfl⟩ (Nat.le_of_ble_eq_true rfl) (Nat.le_of_ble_eq_true rfl) rfl hp (fun r1 M1 hz => ?_)
    obtain ⟨rfl, hm_⟩ := hz
    refine rn_mem hm_ ?_
    clear hm_
    refine rn_if_eq (t := 30) (pc' := 7) rfl rfl rfl (fun h1 => ?_) (fun h1 => ?_)
    · refine rn_return rfl rfl ?_
      exact ⟨rfl, Or.inr ⟨fun z => hs z.1, AP_same h⟩⟩
    · exact absurd rfl h1
theorem c_return {d e t hh : Nat} {D N : xM} (h : Cx e t D N) (h35 : N.1 35 0 e = nI (hh + 1)) (h4 : hh < 4) : Rn d 55 (0, xen 55 [vR 0 e], [], D) (fun r C' => r = some (vI 1) ∧ AP e (N.1 25 0 e) (t + 1) C' (f_retn N e hh)) := by
  have he := h.1
  have v12 : D.1 0 e 12 = nI (hh + 1) := (f1 h.2.1.1.1 he (by decide)).trans h35
  have n0 : (0 : Int32) < nI (hh + 1) := nI_lt (a := 0) (by omega) (by omega)
  have n4 : ¬ (4 : Int32) < nI (hh + 1) := by
    show ¬ nI 4 < nI (hh + 1)
    exact nI_nlt (by omega) (by omega)
  have e12 : D.1 0 e 12 - 1 = nI hh := by rw [v12]; exact nI_pred hh
  have k1 := (h.2.1.1.2.2.2.1 e he hh h4).1
  have k2 := (h.2.1.1.2.2.2.1 e he hh h4).2
  have ef : f_retn N e hh = mI (mI (mI N 35 0 e (nI hh)) 30 0 e (N.1 36 0 (4 * e + hh))) 34 0 e (N.1 37 0 (4 * e + hh)) := by
    have x1 : nI hh = N.1 35 0 e - 1 := by rw [h35]; exact (nI_pred hh).symm
    rw [x1]
    rfl
  rw [ef]
  have i1 := Inv_fld (e := e) (k := 12) (t := 35) (v := nI hh) h.2.1 (by decide) (by decide) (by decide) (fun z => absurd z (by decide)) (IR_hnd h.2.1.2.2 (by omega))
  have i2 := Inv_fld (e := e) (k := 5) (t := 30) (v := N.1 36 0 (4 * e + hh)) i1 (by decide) (by decide) (by decide) (fun _ => h.n12) i1.2.2
  have i3 := Inv_fld (e := e) (k := 9) (t := 34) (v := N.1 37 0 (4 * e + hh)) i2 (by decide) (by decide) (by decide) (fun z => absurd z (by decide)) i2.2.2
  have hAP := AP_of (e := e) (p := N.1 25 0 e) (t := t + 1) i3 (by omega) h.2.2.2.2.1 h.tm rfl h.n4
  have j1 : (mI D 0 e 12 (nI hh)).1 0 e 12 = nI hh := by simp [mI, xu]
  have j2 : (mI (mI D 0 e 12 (nI hh)) 0 e 5 (N.1 36 0 (4 * e + hh))).1 0 e 12 = nI hh := by rw [mI_ne3 (by decide)]; exact j1
  show Rn _ 55 (0, [some (vR 0 e)], [], _) _
  refine rn_aload_n (pc' := 1) rfl rfl rfl ?_
  refine rn_getI (N := 24) (pc' := 4) rfl rfl rfl rfl (by decide) rfl (by first | assumption | decide | omega) ?_
  refine rn_if_le (t := 15) (pc' := 7) rfl rfl rfl (fun h1 => ?_) (fun h1 => ?_)
  · first | exact absurd (by rw [v12]; exact n0) h1 | (rw [v12] at h2; exact absurd h2 n4)
  · refine rn_aload_n (pc' := 8) rfl rfl rfl ?_
    refine rn_getI (N := 24) (pc' := 11) rfl rfl rfl rfl (by decide) rfl (by first | assumption | decide | omega) ?_
    refine rn_iconst (pc' := 12) (v := 4) rfl rfl (by decide) ?_
    refine rn_ic_le (t := 17) (pc' := 15) rfl rfl rfl (fun h2 => ?_) (fun h2 => ?_)
    · refine rn_aload_n (pc' := 18) rfl rfl rfl ?_
      refine rn_dupA (pc' := 19) rfl rfl ?_
      refine rn_getI (N := 24) (pc' := 22) rfl rfl rfl rfl (by decide) rfl (by first | assumption | decide | omega) ?_
      refine rn_iconst (pc' := 23) (v := 1) rfl rfl (by decide) ?_
      refine rn_isub (pc' := 24) rfl rfl ?_
      refine rn_topI e12 ?_
      refine rn_putI (N := 24) (pc' := 27) rfl rfl rfl rfl rfl (by first | assumption | decide | omega) ?_
      refine rn_aload_n (pc' := 28) rfl rfl rfl ?_
      refine rn_aload_n (pc' := 29) rfl rfl rfl ?_
      refine rn_getF (N := 24) (t' := 3) (pc' := 32) rfl rfl rfl rfl rfl (by first | assumption | decide | omega) ?_
      refine rn_aload_n (pc' := 33) rfl rfl rfl ?_
      refine rn_getI (N := 24) (pc' := 36) rfl rfl rfl rfl (by decide) rfl (by first | assumption | decide | omega) ?_
      refine rn_iald (k := hh) (N := 24) (K := 4) (pc' := 37) rfl rfl ⟨rfl, rfl⟩ rfl (by first | assumption | decide | omega) rfl (by decide) (j1) (by first | assumption | decide | omega) ?_
      refine rn_topI (y := N.1 36 0 (4 * e + hh)) k1 ?_
      refine rn_putI (N := 24) (pc' := 40) rfl rfl rfl rfl rfl (by first | assumption | decide | omega) ?_
      refine rn_aload_n (pc' := 41) rfl rfl rfl ?_
      refine rn_aload_n (pc' := 42) rfl rfl rfl ?_
      refine rn_getF (N := 24) (t' := 4) (pc' := 45) rfl rfl rfl rfl rfl (by first | assumption | decide | omega) ?_
      refine rn_aload_n (pc' := 46) rfl rfl rfl ?_
      refine rn_getI (N := 24) (pc' := 49) rfl rfl rfl rfl (by decide) rfl (by first | assumption | decide | omega) ?_
      refine rn_iald (k := hh) (N := 24) (K := 4) (pc' := 50) rfl rfl ⟨rfl, rfl⟩ rfl (by first | assumption | decide | omega) rfl (by decide) (j2) (by first | assumption | decide | omega) ?_
      refine rn_topI (y := N.1 37 0 (4 * e + hh)) k2 ?_
      refine rn_putI (N := 24) (pc' := 53) rfl rfl rfl rfl rfl (by first | assumption | decide | omega) ?_
      refine rn_iconst (pc' := 54) (v := 1) rfl rfl (by decide) ?_
      refine rn_zreturn rfl rfl (by decide) ?_
      exact ⟨rfl, hAP⟩
    · first | exact absurd (by rw [v12]; exact n0) h1 | (rw [v12] at h2; exact absurd h2 n4)
theorem c_return0 {d e : Nat} {D : xM} (he : e < 24) (h : D.1 0 e 12 = 0) : Rn d 55 (0, xen 55 [vR 0 e], [], D) (fun r C' => r = some (vI 0) ∧ C' = D) := by
  show Rn _ 55 (0, [some (vR 0 e)], [], _) _
  refine rn_aload_n (pc' := 1) rfl rfl rfl ?_
  refine rn_getI (N := 24) (pc' := 4) rfl rfl rfl rfl (by decide) rfl (by first | assumption | decide | omega) ?_
  refine rn_if_le (t := 15) (pc' := 7) rfl rfl rfl (fun h1 => ?_) (fun h1 => ?_)
  · refine rn_iconst (pc' := 16) (v := 0) rfl rfl (by decide) ?_
    refine rn_zreturn rfl rfl (by decide) ?_
    exact ⟨rfl, rfl⟩
  · (rw [h] at h1; exact absurd h1 (by decide))
theorem lg_eq (x y : Int64) : lg_cmp x y = 0 ↔ x = y := by
  have h1 := lg_lt x y
  have h2 := lg_gt x y
  constructor
  · intro h
    have n1 : ¬ x < y := fun z => by have := h1.mpr z; rw [h] at this; exact absurd this (by decide)
    have n2 : ¬ y < x := fun z => by have := h2.mpr z; rw [h] at this; exact absurd this (by decide)
    rw [Int64.lt_iff_toInt_lt] at n1 n2
    exact Int64.toInt_inj.mp (by omega)
  · intro h
    subst h
    have n1 : ¬ lg_cmp x x < 0 := fun z => by have := h1.mp z; rw [Int64.lt_iff_toInt_lt] at this; omega
    have n2 : ¬ 0 < lg_cmp x x := fun z => by have := h2.mp z; rw [Int64.lt_iff_toInt_lt] at this; omega
    rw [Int32.lt_iff_toInt_lt] at n1 n2
    exact Int32.toInt_inj.mp (by omega)
theorem alm_pos {t b e : Nat} {M : xM} (h : Tm t b M) (he : e < 24) (hl : 0 < M.1 25 0 e) : ¬ M.2.1 38 0 e = 0 ↔ 0 < M.2.1 38 0 e := by
  have ht := h.2.1
  constructor
  · intro hn
    have := (h.2.2.2 e he hl).resolve_left hn
    rw [Int64.lt_iff_toInt_lt] at this ⊢
    rw [Int32.toInt_toInt64, nI_toInt (by omega)] at this
    have h0 : (0 : Int64).toInt = 0 := by decide
    omega
  · intro h1 h2
    rw [h2] at h1; exact absurd h1 (by decide)
theorem c_untilAlarm {d n t b e : Nat} {D N : xM} (h : Inv D N n) (he : e < 24) (hl : 0 < N.1 25 0 e) (hT : Tm t b N) : Rn d 57 (0, xen 57 [vR 9 0, vR 0 e], [], D) (fun r C' => r = some (vI (until_ N e)) ∧ C' = D) := by
  have v13 : D.2.1 0 e 13 = N.2.1 38 0 e := h.1.2.2.2.2.1 e he
  have v10 : D.1 9 0 10 = N.1 20 0 26 := A10_l.mp h.1.2.2.2.2.2.2.2.2.2.1 (10, 26) (by decide)
  have hp := alm_pos hT he hl
  unfold until_
  by_cases hz : N.2.1 38 0 e = 0
  · rw [if_neg (fun z => (hp.mpr z) hz)]
    show Rn _ 57 (0, [some (vR 9 0), some (vR 0 e)], [], _) _
    refine rn_aload_n (pc' := 1) rfl rfl rfl ?_
    refine rn_getJ (N := 24) (pc' := 4) rfl rfl rfl rfl rfl (by first | assumption | decide | omega) ?_
    refine rn_lconst (pc' := 5) (v := 0) rfl rfl rfl ?_
    refine rn_lcmp (pc' := 6) rfl rfl ?_
    refine rn_if_ne (t := 13) (pc' := 9) rfl rfl rfl (fun h1 => ?_) (fun h1 => ?_)
    · exact absurd ((lg_eq _ _).mpr (v13.trans hz)) h1
    · refine rn_iconst (pc' := 10) (v := 0) rfl rfl (by decide) ?_
      refine rn_goto (pc' := 24) rfl rfl ?_
      refine rn_ireturn rfl rfl ?_
      exact ⟨rfl, rfl⟩
  · rw [if_pos (hp.mp hz)]
    show Rn _ 57 (0, [some (vR 9 0), some (vR 0 e)], [], _) _
    refine rn_aload_n (pc' := 1) rfl rfl rfl ?_
    refine rn_getJ (N := 24) (pc' := 4) rfl rfl rfl rfl rfl (by first | assumption | decide | omega) ?_
    refine rn_lconst (pc' := 5) (v := 0) rfl rfl rfl ?_
    refine rn_lcmp (pc' := 6) rfl rfl ?_
    refine rn_if_ne (t := 13) (pc' := 9) rfl rfl rfl (fun h1 => ?_) (fun h1 => ?_)
    · refine rn_aload_n (pc' := 14) rfl rfl rfl ?_
      refine rn_getJ (N := 24) (pc' := 17) rfl rfl rfl rfl rfl (by first | assumption | decide | omega) ?_
      refine rn_topJ v13 ?_
      refine rn_aload_n (pc' := 18) rfl rfl rfl ?_
      refine rn_getI (N := 1) (pc' := 21) rfl rfl rfl rfl (by decide) rfl (by first | assumption | decide | omega) ?_
      refine rn_topI v10 ?_
      refine rn_i2l (pc' := 22) rfl rfl ?_
      refine rn_lsub (pc' := 23) rfl rfl ?_
      refine rn_l2i (pc' := 24) rfl rfl ?_
      refine rn_ireturn rfl rfl ?_
      exact ⟨rfl, rfl⟩
    · exact absurd (v13.symm.trans ((lg_eq _ _).mp h1)) hz
theorem Inv_alm {C R : xM} {n e : Nat} {v : Int64} (h : Inv C R n) : Inv (mJ C 0 e 13 v) (mJ R 38 0 e v) n := by
  obtain ⟨⟨a1, a2, a3, a4, a5, a6, a7, a8, a9, a10, a11, a12⟩, a13, b⟩ := h
  refine ⟨⟨a1, a2, a3, a4, fun e' he' => ?_, a6, a7, a8, a9, a10, a11, a12⟩, a13, b⟩
  have := a5 e' he'
  by_cases hc : e' = e
  · subst hc; simp [mJ, xu]
  · simpa [mJ, xu, hc] using this
theorem alm_new {t : Nat} {x : Int32} (ht : t < 2 ^ 30) (hx : 0 < x) : (nI t).toInt64 < (nI t).toInt64 + x.toInt64 := by
  rw [Int32.lt_iff_toInt_lt] at hx
  have h0 : (0 : Int32).toInt = 0 := by decide
  have hb := x.toInt_lt
  rw [Int64.lt_iff_toInt_lt, Int64.toInt_add, Int32.toInt_toInt64, Int32.toInt_toInt64, nI_toInt (by omega), Int.bmod_eq_of_le (by omega) (by omega)]
  omega
theorem c_setAlarm {d e t ja : Nat} {D N : xM} (h : Cx e t D N) (hja : ja < 8) : Rn (d + 1) 56 (0, xen 56 [vR 9 0, vR 0 e, vI (nI ja)], [], D) (fun r C' => r = none ∧ AP e (N.1 25 0 e) (t + 1) C' (f_alarm N e ja)) := by
  have he := h.1
  have hr := reg_eq h hja
  have hu := c_untilAlarm (d := d) h.2.1 he h.2.2.1 h.tm
  have v10 : D.1 9 0 10 = N.1 20 0 26 := A10_l.mp h.2.1.1.2.2.2.2.2.2.2.2.2.1 (10, 26) (by decide)
  have ef : f_alarm N e ja = mJ (mI N 31 0 (8 * e + ja) (until_ N e)) 38 0 e (if 0 < N.1 31 0 (8 * e + ja) then (N.1 20 0 26).toInt64 + (N.1 31 0 (8 * e + ja)).toInt64 else 0) := rfl
  rw [ef]
  have i1 := Inv_alm (e := e) (v := if 0 < N.1 31 0 (8 * e + ja) then (N.1 20 0 26).toInt64 + (N.1 31 0 (8 * e + ja)).toInt64 else 0) (Inv_reg (e := e) (v := until_ N e) h.2.1 hja)
  have hT : Tm (t + 1) (t + 1) (mJ (mI N 31 0 (8 * e + ja) (until_ N e)) 38 0 e (if 0 < N.1 31 0 (8 * e + ja) then (N.1 20 0 26).toInt64 + (N.1 31 0 (8 * e + ja)).toInt64 else 0)) := by
    obtain ⟨t1, t2, t3, t4⟩ := h.tm
    refine ⟨t1, t2, t3, fun k hk hl => ?_⟩
    by_cases hc : k = e
    · subst hc
      have : (mJ (mI N 31 0 (8 * k + ja) (until_ N k)) 38 0 k (if 0 < N.1 31 0 (8 * k + ja) then (N.1 20 0 26).toInt64 + (N.1 31 0 (8 * k + ja)).toInt64 else 0)).2.1 38 0 k = (if 0 < N.1 31 0 (8 * k + ja) then (N.1 20 0 26).toInt64 + (N.1 31 0 (8 * k + ja)).toInt64 else 0) := by simp [mJ, xu]
      rw [this]
      split
      · rename_i hx
        right
        rw [t1]
        exact alm_new t2 hx
      · exact Or.inl rfl
    · have : (mJ (mI N 31 0 (8 * e + ja) (until_ N e)) 38 0 e (if 0 < N.1 31 0 (8 * e + ja) then (N.1 20 0 26).toInt64 + (N.1 31 0 (8 * e + ja)).toInt64 else 0)).2.1 38 0 k = N.2.1 38 0 k := by
        show xu N.2.1 38 0 e _ 38 0 k = _
        simp only [xu]
        rw [if_neg (fun z => hc z.2.2)]
      rw [this]
      exact t4 k hk hl
  have hAP := AP_of (e := e) (p := N.1 25 0 e) (t := t + 1) i1 (by omega) h.2.2.2.2.1 hT rfl h.n4
  have l35 : ∀ x, x = (if 0 < N.1 31 0 (8 * e + ja) then (N.1 20 0 26).toInt64 + (N.1 31 0 (8 * e + ja)).toInt64 else 0) → Rn (d + 1) 56 (35, [some (vR 9 0), some (vR 0 e), some (vI (nI ja)), some (vI (N.1 31 0 (8 * e + ja)))], [vL x, vR 0 e], mI D 1 e ja (until_ N e)) (fun r C' => r = none ∧ AP e (N.1 25 0 e) (t + 1) C' (mJ (mI N 31 0 (8 * e + ja) (until_ N e)) 38 0 e (if 0 < N.1 31 0 (8 * e + ja) then (N.1 20 0 26).toInt64 + (N.1 31 0 (8 * e + ja)).toInt64 else 0))) := by
    intro x hx
    subst hx
    refine rn_putJ (N := 24) (pc' := 38) rfl rfl rfl rfl rfl (by first | assumption | decide | omega) ?_
    refine rn_return rfl rfl ?_
    exact ⟨rfl, hAP⟩
  show Rn _ 56 (0, [some (vR 9 0), some (vR 0 e), some (vI (nI ja)), none], [], _) _
  refine rn_aload_n (pc' := 1) rfl rfl rfl ?_
  refine rn_getF (N := 24) (t' := 1) (pc' := 4) rfl rfl rfl rfl rfl (by first | assumption | decide | omega) ?_
  refine rn_iload_n (pc' := 5) rfl rfl rfl ?_
  refine rn_iald (N := 24) (K := 8) (pc' := 6) rfl rfl ⟨rfl, rfl⟩ rfl (by first | assumption | decide | omega) rfl (by decide) rfl (by first | assumption | decide | omega) ?_
  refine rn_topI hr ?_
  refine rn_istore_n (pc' := 7) rfl rfl rfl (Nat.le_of_ble_eq_true rfl) rfl ?_
  refine rn_aload_n (pc' := 8) rfl rfl rfl ?_
  refine rn_getF (N := 24) (t' := 1) (pc' := 11) rfl rfl rfl rfl rfl (by first | assumption | decide | omega) ?_
  refine rn_iload_n (pc' := 12) rfl rfl rfl ?_
  refine rn_aload_n (pc' := 13) rfl rfl rfl ?_
  refine rn_aload_n (pc' := 14) rfl rfl rfl ?_
  refine rn_callV (pc' := 17) (as := [_]) rfl rfl rfl ⟨Nat.le_of_ble_eq_true rfl, rfl, rfl⟩ rfl (by first | assumption | decide | omega) (Nat.le_of_ble_eq_true rfl) (Nat.le_of_ble_eq_true rfl) rfl hu (fun r1 M1 hz => ?_)
  obtain ⟨rfl, hm_⟩ := hz
  refine rn_mem hm_ ?_
  clear hm_
  refine rn_iast (N := 24) (K := 8) (pc' := 18) rfl rfl ⟨rfl, rfl⟩ rfl (by first | assumption | decide | omega) rfl (by decide) rfl (by first | assumption | decide | omega) ?_
  refine rn_aload_n (pc' := 19) rfl rfl rfl ?_
  refine rn_iload_n (pc' := 20) rfl rfl rfl ?_
  refine rn_if_le (t := 34) (pc' := 23) rfl rfl rfl (fun h1 => ?_) (fun h1 => ?_)
  · refine rn_lconst (pc' := 35) (v := 0) rfl rfl rfl ?_
    first | exact l35 _ (by rw [if_pos h1]) | exact l35 _ (by rw [if_neg h1])
  · refine rn_aload_n (pc' := 24) rfl rfl rfl ?_
    refine rn_getI (N := 1) (pc' := 27) rfl rfl rfl rfl (by decide) rfl (by first | assumption | decide | omega) ?_
    refine rn_topI (y := N.1 20 0 26) v10 ?_
    refine rn_i2l (pc' := 28) rfl rfl ?_
    refine rn_iload_n (pc' := 29) rfl rfl rfl ?_
    refine rn_i2l (pc' := 30) rfl rfl ?_
    refine rn_ladd (pc' := 31) rfl rfl ?_
    refine rn_goto (pc' := 35) rfl rfl ?_
    first | exact l35 _ (by rw [if_pos h1]) | exact l35 _ (by rw [if_neg h1])
theorem c_sgPre {d e ja : Nat} {D : xM} (Z : Option xV → xM → Prop) (op a b : Int32) (ha : a &&& 7 = nI ja) (k : Rn (d + 1) 41 (7, [some (vR 9 0), some (vR 0 e), some (vI op), some (vI a), some (vI b), some (vI (nI ja)), none], [vI op], D) Z) : Rn (d + 1) 41 (0, xen 41 [vR 9 0, vR 0 e, vI op, vI a, vI b], [], D) Z := by
  show Rn _ 41 (0, [some (vR 9 0), some (vR 0 e), some (vI op), some (vI a), some (vI b), none, none], [], _) _
  refine rn_iload_n (pc' := 1) rfl rfl rfl ?_
  refine rn_callS (pc' := 4) (as := [_]) rfl rfl rfl ⟨rfl, rfl, rfl⟩ (Nat.le_of_ble_eq_true rfl) (Nat.le_of_ble_eq_true rfl) rfl (c_registerOf a) (fun r1 M1 hz => ?_)
  obtain ⟨rfl, hm_⟩ := hz
  refine rn_mem hm_ ?_
  clear hm_
  refine rn_topI ha ?_
  refine rn_istore (pc' := 6) rfl rfl rfl (Nat.le_of_ble_eq_true rfl) rfl ?_
  refine rn_iload_n (pc' := 7) rfl rfl rfl ?_
  exact k
theorem c_sg14 {d e ja jb : Nat} {D : xM} {P : xM → Prop} (op a b : Int32) (he : e < 24) (ha : a &&& 7 = nI ja) (hb : b &&& 7 = nI jb) (hop : op.toInt = 14) (hc : Rn (d + 1) 53 (0, xen 53 [vR 9 0, vR 0 e, vI (nI ja), vI (nI jb)], [], D) (fun r C' => r = none ∧ P C')) : Rn (d + 2) 41 (0, xen 41 [vR 9 0, vR 0 e, vI op, vI a, vI b], [], D) (fun r C' => r = none ∧ P C') := by
  refine c_sgPre _ op a b ha ?_
  refine rn_swIn (k := 0) (t := 44) rfl hop (by decide) rfl rfl ?_
  refine rn_aload_n (pc' := 45) rfl rfl rfl ?_
  refine rn_aload_n (pc' := 46) rfl rfl rfl ?_
  refine rn_iload (pc' := 48) rfl rfl rfl ?_
  refine rn_iload (pc' := 50) rfl rfl rfl ?_
  refine rn_callS (pc' := 53) (as := [_]) rfl rfl rfl ⟨rfl, rfl, rfl⟩ (Nat.le_of_ble_eq_true rfl) (Nat.le_of_ble_eq_true rfl) rfl (c_registerOf b) (fun r1 M1 hz => ?_)
  obtain ⟨rfl, hm_⟩ := hz
  refine rn_mem hm_ ?_
  clear hm_
  refine rn_topI hb ?_
  refine rn_callV (pc' := 56) (as := [_, _, _]) rfl rfl rfl ⟨Nat.le_of_ble_eq_true rfl, rfl, rfl⟩ rfl (by first | assumption | decide | omega) (Nat.le_of_ble_eq_true rfl) (Nat.le_of_ble_eq_true rfl) rfl hc (fun r9 D9 hz9 => ?_)
  obtain ⟨rfl, hp⟩ := hz9
  refine rn_goto (pc' := 138) rfl rfl ?_
  refine rn_return rfl rfl ?_
  exact ⟨rfl, hp⟩
theorem c_sg15 {d e t ja : Nat} {D N : xM} (op a b : Int32) (h : Cx e t D N) (ha : a &&& 7 = nI ja) (hop : op.toInt = 15) : Rn (d + 2) 41 (0, xen 41 [vR 9 0, vR 0 e, vI op, vI a, vI b], [], D) (fun r C' => r = none ∧ ((isS1 a ∧ ¬ a = 9 ∧ ¬ a = 19 ∧ ¬ b < 0 ∧ ∀ s, a = nI s → s < 21 → AP e (N.1 25 0 e) (t + 1) C' (mI N 32 0 (21 * e + s) b)) ∨ (¬ (isS1 a ∧ ¬ a = 9 ∧ ¬ a = 19 ∧ ¬ b < 0) ∧ AP e (N.1 25 0 e) (t + 1) C' N))) := by
  have he := h.1
  refine c_sgPre _ op a b ha ?_
  refine rn_swIn (k := 1) (t := 59) rfl hop (by decide) rfl rfl ?_
  refine rn_aload_n (pc' := 60) rfl rfl rfl ?_
  refine rn_iload_n (pc' := 61) rfl rfl rfl ?_
  refine rn_iload (pc' := 63) rfl rfl rfl ?_
  refine rn_callS (pc' := 66) (as := [_, _, _]) rfl rfl rfl ⟨rfl, rfl, rfl⟩ (Nat.le_of_ble_eq_true rfl) (Nat.le_of_ble_eq_true rfl) rfl (c_setAction (d := d) a b h) (fun r9 D9 hz9 => ?_)
  obtain ⟨rfl, hp⟩ := hz9
  refine rn_goto (pc' := 138) rfl rfl ?_
  refine rn_return rfl rfl ?_
  exact ⟨rfl, hp⟩
theorem c_sg16 {d e t ja : Nat} {D N : xM} (op a b : Int32) (h : Cx e t D N) (hja : ja < 8) (ha : a &&& 7 = nI ja) (hop : op.toInt = 16) : Rn (d + 2) 41 (0, xen 41 [vR 9 0, vR 0 e, vI op, vI a, vI b], [], D) (fun r C' => r = none ∧ AP e (N.1 25 0 e) (t + 1) C' (f_mask N e ja)) := by
  have he := h.1
  have v9 : D.1 0 e 9 = N.1 34 0 e := f1 h.2.1.1.1 he (by decide)
  have hr := reg_eq h hja
  have i1 := Inv_fld (e := e) (k := 9) (t := 34) (v := N.1 31 0 (8 * e + ja) &&& 2097150 &&& (-524801)) h.2.1 (by decide) (by decide) (by decide) (fun z => absurd z (by decide)) h.2.1.2.2
  have i2 : Inv _ (f_mask N e ja) 0 := Inv_reg (e := e) (v := N.1 34 0 e) i1 hja
  have hAP := AP_of (e := e) (p := N.1 25 0 e) (t := t + 1) i2 (by omega) h.2.2.2.2.1 h.tm rfl h.n4
  have ev : D.1 1 e ja &&& 1572350 = N.1 31 0 (8 * e + ja) &&& 2097150 &&& (-524801) := by
    rw [hr, Int32.and_assoc, show (2097150 : Int32) &&& (-524801) = 1572350 by decide]
  refine c_sgPre _ op a b ha ?_
  refine rn_swIn (k := 2) (t := 69) rfl hop (by decide) rfl rfl ?_
  refine rn_aload_n (pc' := 70) rfl rfl rfl ?_
  refine rn_getI (N := 24) (pc' := 73) rfl rfl rfl rfl (by decide) rfl (by first | assumption | decide | omega) ?_
  refine rn_topI v9 ?_
  refine rn_istore (pc' := 75) rfl rfl rfl (Nat.le_of_ble_eq_true rfl) rfl ?_
  refine rn_aload_n (pc' := 76) rfl rfl rfl ?_
  refine rn_aload_n (pc' := 77) rfl rfl rfl ?_
  refine rn_getF (N := 24) (t' := 1) (pc' := 80) rfl rfl rfl rfl rfl (by first | assumption | decide | omega) ?_
  refine rn_iload (pc' := 82) rfl rfl rfl ?_
  refine rn_iald (N := 24) (K := 8) (pc' := 83) rfl rfl ⟨rfl, rfl⟩ rfl (by first | assumption | decide | omega) rfl (by decide) rfl (by first | assumption | decide | omega) ?_
  refine rn_ldc_w (pc' := 86) (v := 1572350) rfl rfl rfl ?_
  refine rn_iand (pc' := 87) rfl rfl ?_
  refine rn_topI ev ?_
  refine rn_putI (N := 24) (pc' := 90) rfl rfl rfl rfl rfl (by first | assumption | decide | omega) ?_
  refine rn_aload_n (pc' := 91) rfl rfl rfl ?_
  refine rn_getF (N := 24) (t' := 1) (pc' := 94) rfl rfl rfl rfl rfl (by first | assumption | decide | omega) ?_
  refine rn_iload (pc' := 96) rfl rfl rfl ?_
  refine rn_iload (pc' := 98) rfl rfl rfl ?_
  refine rn_iast (N := 24) (K := 8) (pc' := 99) rfl rfl ⟨rfl, rfl⟩ rfl (by first | assumption | decide | omega) rfl (by decide) rfl (by first | assumption | decide | omega) ?_
  refine rn_goto (pc' := 138) rfl rfl ?_
  refine rn_return rfl rfl ?_
  exact ⟨rfl, hAP⟩
theorem c_sg17 {d e t ja : Nat} {D N : xM} (op a b : Int32) (h : Cx e t D N) (hja : ja < 8) (ha : a &&& 7 = nI ja) (hop : op.toInt = 17) : Rn (d + 2) 41 (0, xen 41 [vR 9 0, vR 0 e, vI op, vI a, vI b], [], D) (fun r C' => r = none ∧ AP e (N.1 25 0 e) (t + 1) C' (f_sleep N e ja 2)) := by
  have he := h.1
  refine c_sgPre _ op a b ha ?_
  refine rn_swIn (k := 3) (t := 102) rfl hop (by decide) rfl rfl ?_
  refine rn_aload_n (pc' := 103) rfl rfl rfl ?_
  refine rn_iconst (pc' := 104) (v := 2) rfl rfl (by decide) ?_
  refine rn_iload (pc' := 106) rfl rfl rfl ?_
  refine rn_callV (pc' := 109) (as := [_, _]) rfl rfl rfl ⟨Nat.le_of_ble_eq_true rfl, rfl, rfl⟩ rfl (by first | assumption | decide | omega) (Nat.le_of_ble_eq_true rfl) (Nat.le_of_ble_eq_true rfl) rfl (c_sleep (d := d + 1) (st := 2) h hja (Or.inr rfl)) (fun r9 D9 hz9 => ?_)
  obtain ⟨rfl, hp⟩ := hz9
  refine rn_goto (pc' := 138) rfl rfl ?_
  refine rn_return rfl rfl ?_
  exact ⟨rfl, hp⟩
theorem c_sg18Y {d e t ja hh : Nat} {D N : xM} (op a b : Int32) (h : Cx e t D N) (ha : a &&& 7 = nI ja) (h35 : N.1 35 0 e = nI (hh + 1)) (h4 : hh < 4) (hop : op.toInt = 18) : Rn (d + 2) 41 (0, xen 41 [vR 9 0, vR 0 e, vI op, vI a, vI b], [], D) (fun r C' => r = none ∧ AP e (N.1 25 0 e) (t + 1) C' (f_retn N e hh)) := by
  have he := h.1
  refine c_sgPre _ op a b ha ?_
  refine rn_swIn (k := 4) (t := 112) rfl hop (by decide) rfl rfl ?_
  refine rn_aload_n (pc' := 113) rfl rfl rfl ?_
  refine rn_callS (pc' := 116) (as := [_]) rfl rfl rfl ⟨rfl, rfl, rfl⟩ (Nat.le_of_ble_eq_true rfl) (Nat.le_of_ble_eq_true rfl) rfl (c_return (d := d + 1) h h35 h4) (fun r9 D9 hz9 => ?_)
  obtain ⟨rfl, hp⟩ := hz9
  refine rn_if_ne (t := 138) (pc' := 119) rfl rfl rfl (fun h1 => ?_) (fun h1 => ?_)
  · refine rn_return rfl rfl ?_
    exact ⟨rfl, hp⟩
  · exact absurd h1 (by decide)
theorem c_sg18N {d e t ja : Nat} {D N : xM} (op a b : Int32) (h : Cx e t D N) (ha : a &&& 7 = nI ja) (h35 : N.1 35 0 e = 0) (hop : op.toInt = 18) : Rn (d + 4) 41 (0, xen 41 [vR 9 0, vR 0 e, vI op, vI a, vI b], [], D) (fun r C' => r = none ∧ AP e (N.1 25 0 e) (t + 1) C' (f_end N e 0)) := by
  have he := h.1
  have v12 : D.1 0 e 12 = 0 := (f1 h.2.1.1.1 he (by decide)).trans h35
  have hc := c_end (d := d) 0 h.2.1 he h.2.2.1 (fun _ => by omega)
  refine c_sgPre _ op a b ha ?_
  refine rn_swIn (k := 4) (t := 112) rfl hop (by decide) rfl rfl ?_
  refine rn_aload_n (pc' := 113) rfl rfl rfl ?_
  refine rn_callS (pc' := 116) (as := [_]) rfl rfl rfl ⟨rfl, rfl, rfl⟩ (Nat.le_of_ble_eq_true rfl) (Nat.le_of_ble_eq_true rfl) rfl (c_return0 (d := d + 3) he v12) (fun r1 M1 hz => ?_)
  obtain ⟨rfl, hm_⟩ := hz
  refine rn_mem hm_ ?_
  clear hm_
  refine rn_if_ne (t := 138) (pc' := 119) rfl rfl rfl (fun h1 => ?_) (fun h1 => ?_)
  · exact absurd rfl h1
  · refine rn_aload_n (pc' := 120) rfl rfl rfl ?_
    refine rn_aload_n (pc' := 121) rfl rfl rfl ?_
    refine rn_iconst (pc' := 122) (v := 0) rfl rfl (by decide) ?_
    refine rn_callV (pc' := 125) (as := [_, _]) rfl rfl rfl ⟨Nat.le_of_ble_eq_true rfl, rfl, rfl⟩ rfl (by first | assumption | decide | omega) (Nat.le_of_ble_eq_true rfl) (Nat.le_of_ble_eq_true rfl) rfl hc (fun r9 D9 hz9 => ?_)
    obtain ⟨rfl, n', -, hI⟩ := hz9
    refine rn_goto (pc' := 138) rfl rfl ?_
    refine rn_return rfl rfl ?_
    exact ⟨rfl, AP_end _ h.2.1 (by omega) he h.2.2.1 h.n4 h.2.2.2.2.1 h.tm hI⟩
    skip
theorem c_sg19 {d e t ja : Nat} {D N : xM} (op a b : Int32) (h : Cx e t D N) (hja : ja < 8) (ha : a &&& 7 = nI ja) (hop : op.toInt = 19) : Rn (d + 2) 41 (0, xen 41 [vR 9 0, vR 0 e, vI op, vI a, vI b], [], D) (fun r C' => r = none ∧ AP e (N.1 25 0 e) (t + 1) C' (f_alarm N e ja)) := by
  have he := h.1
  refine c_sgPre _ op a b ha ?_
  refine rn_swIn (k := 5) (t := 128) rfl hop (by decide) rfl rfl ?_
  refine rn_aload_n (pc' := 129) rfl rfl rfl ?_
  refine rn_aload_n (pc' := 130) rfl rfl rfl ?_
  refine rn_iload (pc' := 132) rfl rfl rfl ?_
  refine rn_callV (pc' := 135) (as := [_, _]) rfl rfl rfl ⟨Nat.le_of_ble_eq_true rfl, rfl, rfl⟩ rfl (by first | assumption | decide | omega) (Nat.le_of_ble_eq_true rfl) (Nat.le_of_ble_eq_true rfl) rfl (c_setAlarm (d := d) h hja) (fun r9 D9 hz9 => ?_)
  obtain ⟨rfl, hp⟩ := hz9
  refine rn_goto (pc' := 138) rfl rfl ?_
  refine rn_return rfl rfl ?_
  exact ⟨rfl, hp⟩
