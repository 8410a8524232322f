theorem isPr_iff (b : Int32) : isPr b ↔ (¬ b < 0 ∧ b < 16) := by
  unfold isPr
  rw [i64_in, Int32.lt_iff_toInt_lt, Int32.lt_iff_toInt_lt]
  have h1 : (0 : Int64).toInt = 0 := by decide
  have h2 : (15 : Int64).toInt = 15 := by decide
  have h3 : (0 : Int32).toInt = 0 := by decide
  have h4 : (16 : Int32).toInt = 16 := by decide
  omega
theorem isPr_n {b : Int32} (h : isPr b) : ∃ p, p < 16 ∧ b = nI p := by
  rcases in_cases b 0 15 0 15 (by decide) (by decide) with ⟨h1, -⟩ | ⟨k, -, k2, k3, -⟩
  · exact absurd h h1
  · exact ⟨k, by omega, k3⟩
theorem c_execN {d e t ja : Nat} {D N : xM} (b : Int32) (h : Cx e t D N) (hja : ja < 8) (hb : ¬ isPr b) : Rn (d + 1) 49 (0, xen 49 [vR 0 e, vI (nI ja), vI b], [], D) (fun r C' => r = none ∧ AP e (N.1 25 0 e) (t + 1) C' (mI N 31 0 (8 * e + ja) (-2))) := by
  have he := h.1
  have hb' : ¬ (¬ b < 0 ∧ b < 16) := fun z => hb ((isPr_iff b).mpr z)
  have hp := c_isProgram (d := d) (C := D) b
  rw [decide_eq_false hb'] at hp
  show Rn _ 49 (0, [some (vR 0 e), some (vI (nI ja)), some (vI b), none], [], _) _
  refine rn_iload_n (pc' := 1) rfl rfl rfl ?_
  refine rn_callS (pc' := 4) (as := [_]) rfl rfl rfl ⟨rfl, rfl, rfl⟩ (Nat.le_of_ble_eq_true rfl) (Nat.le_of_ble_eq_true rfl) rfl hp (fun r1 M1 hz => ?_)
  obtain ⟨rfl, hm_⟩ := hz
  refine rn_mem hm_ ?_
  clear hm_
  refine rn_if_ne (t := 16) (pc' := 7) rfl rfl rfl (fun h1 => ?_) (fun h1 => ?_)
  · exact absurd rfl h1
  · refine rn_aload_n (pc' := 8) rfl rfl rfl ?_
    refine rn_getF (N := 24) (t' := 1) (pc' := 11) rfl rfl rfl rfl rfl (by first | assumption | decide | omega) ?_
    refine rn_iload_n (pc' := 12) rfl rfl rfl ?_
    refine rn_bipush (pc' := 14) (v := (-2)) rfl rfl (by decide) ?_
    refine rn_iast (N := 24) (K := 8) (pc' := 15) rfl rfl ⟨rfl, rfl⟩ rfl (by first | assumption | decide | omega) rfl (by decide) rfl (by first | assumption | decide | omega) ?_
    refine rn_return rfl rfl ?_
    exact ⟨rfl, AP_reg h hja⟩
theorem dxF_S (M : xM) (e i : Nat) (hi : 1 < M.1 32 0 (21 * e + i)) : upd (dxF M e i) (21 * e + i) 0 = dxF M e (i + 1) := by
  funext k
  unfold upd dxF
  by_cases hk : k = 21 * e + i
  · subst hk
    rw [if_pos rfl, if_pos ⟨by omega, by omega, hi⟩]
  · by_cases h2 : 21 * e ≤ k ∧ k < 21 * e + i ∧ 1 < M.1 32 0 k
    · rw [if_neg hk, if_pos h2, if_pos ⟨h2.1, by omega, h2.2.2⟩]
    · rw [if_neg hk, if_neg h2, if_neg (fun z => h2 ⟨z.1, by omega, z.2.2⟩)]
theorem dxF_N (M : xM) (e i : Nat) (hi : ¬ 1 < M.1 32 0 (21 * e + i)) : dxF M e (i + 1) = dxF M e i := by
  funext k
  unfold dxF
  by_cases hk : k = 21 * e + i
  · subst hk
    rw [if_neg (fun z => hi z.2.2), if_neg (fun z => hi z.2.2)]
  · by_cases h2 : 21 * e ≤ k ∧ k < 21 * e + i ∧ 1 < M.1 32 0 k
    · rw [if_pos h2, if_pos ⟨h2.1, by omega, h2.2.2⟩]
    · rw [if_neg h2, if_neg (fun z => h2 ⟨z.1, by omega, z.2.2⟩)]
theorem c_execY {d e t ja : Nat} {D N : xM} (b : Int32) (h : Cx e t D N) (hb : isPr b) : Rn (d + 1) 49 (0, xen 49 [vR 0 e, vI (nI ja), vI b], [], D) (fun r C' => r = none ∧ AP e (N.1 25 0 e) (t + 1) C' (f_execY N e b)) := by
  have he := h.1
  have hp := c_isProgram (d := d) (C := D) b
  rw [decide_eq_true ((isPr_iff b).mp hb)] at hp
  obtain ⟨p, hp16, rfl⟩ := isPr_n hb
  have i1 := Inv_fld (e := e) (k := 4) (t := 29) (v := nI p) h.2.1 (by decide) (by decide) (by decide) (fun z => absurd z (by decide)) (IR_prg h.2.1.2.2 hp16)
  have i2 := Inv_fld (e := e) (k := 5) (t := 30) (v := 0) i1 (by decide) (by decide) (by decide) (fun _ => h.n12) i1.2.2
  have i3 := Inv_fld (e := e) (k := 12) (t := 35) (v := 0) i2 (by decide) (by decide) (by decide) (fun z => absurd z (by decide)) (IR_hnd (h := 0) i2.2.2 (by omega))
  have i4 : Inv _ (f_exec1 N e (nI p)) 0 := Inv_fld (e := e) (k := 17) (t := 42) (v := 1) i3 (by decide) (by decide) (by decide) (fun z => absurd z (by decide)) i3.2.2
  have loop : ∀ (m i : Nat) (E : xM), i + m = 21 → 1 ≤ i → Inv E (mRow (f_exec1 N e (nI p)) 32 0 (dxF N e i)) 0 → Rn (d + 1) 49 (38, [some (vR 0 e), some (vI (nI ja)), some (vI (nI p)), some (vI (nI i))], [], E) (fun r C' => r = none ∧ AP e (N.1 25 0 e) (t + 1) C' (f_execY N e (nI p))) := by
    intro m
    induction m with
    | zero =>
      intro i E hi hi1 hE
      obtain rfl : i = 21 := by omega
      refine rn_iload_n (pc' := 39) rfl rfl rfl ?_
      refine rn_bipush (pc' := 41) (v := 20) rfl rfl (by decide) ?_
      refine rn_ic_gt (t := 65) (pc' := 44) rfl rfl rfl (fun h1 => ?_) (fun h1 => ?_)
      · refine rn_return rfl rfl ?_
        exact ⟨rfl, AP_of hE (by omega) h.2.2.2.2.1 h.tm rfl h.n4⟩
      · exact absurd (show (20 : Int32) < nI 21 by decide) h1
    | succ m ih =>
      intro i E hi hi1 hE
      have hi21 : i < 21 := by omega
      have n20 : ¬ (20 : Int32) < nI i := by
        show ¬ nI 20 < nI i
        exact nI_nlt (by omega) (by omega)
      have hv : (mRow (f_exec1 N e (nI p)) 32 0 (dxF N e i)).1 32 0 (21 * e + i) = N.1 32 0 (21 * e + i) := by
        show dxF N e i (21 * e + i) = _
        unfold dxF
        rw [if_neg (fun z => absurd z.2.1 (by omega))]
      have hh := c_handles2 (d := d) hE he hi21
      have eh : hdl (mRow (f_exec1 N e (nI p)) 32 0 (dxF N e i)) e i = decide (1 < N.1 32 0 (21 * e + i)) := by
        unfold hdl rdoe
        rw [hv]
      rw [eh] at hh
      by_cases h1 : 1 < N.1 32 0 (21 * e + i)
      · rw [decide_eq_true h1] at hh
        have hE2 := Inv_doe (e := e) (v := 0) hE hi1 hi21
        rw [mRow_put, dxF_S N e i h1] at hE2
        have := ih (i + 1) _ (by omega) (by omega) hE2
        refine rn_iload_n (pc' := 39) rfl rfl rfl ?_
        refine rn_bipush (pc' := 41) (v := 20) rfl rfl (by decide) ?_
        refine rn_ic_gt (t := 65) (pc' := 44) rfl rfl rfl (fun h2 => ?_) (fun h2 => ?_)
        · exact absurd h2 n20
        · refine rn_aload_n (pc' := 45) rfl rfl rfl ?_
          refine rn_iload_n (pc' := 46) rfl rfl rfl ?_
          refine rn_callV (pc' := 49) (as := [_]) rfl rfl rfl ⟨Nat.le_of_ble_eq_true rfl, rfl, rfl⟩ rfl (by first | assumption | decide | omega) (Nat.le_of_ble_eq_true rfl) (Nat.le_of_ble_eq_true rfl) rfl hh (fun r2 M2 hz => ?_)
          obtain ⟨rfl, hm_⟩ := hz
          refine rn_mem hm_ ?_
          clear hm_
          refine rn_if_eq (t := 59) (pc' := 52) rfl rfl rfl (fun h3 => ?_) (fun h3 => ?_)
          · first | exact absurd h3 (by decide) | (refine rn_iinc (pc' := 62) rfl rfl rfl (nI_inc _) rfl (Nat.le_of_ble_eq_true rfl) rfl ?_; refine rn_goto (pc' := 38) rfl rfl ?_; exact this)
          · refine rn_aload_n (pc' := 53) rfl rfl rfl ?_
            refine rn_getF (N := 24) (t' := 2) (pc' := 56) rfl rfl rfl rfl rfl (by first | assumption | decide | omega) ?_
            refine rn_iload_n (pc' := 57) rfl rfl rfl ?_
            refine rn_iconst (pc' := 58) (v := 0) rfl rfl (by decide) ?_
            refine rn_iast (N := 24) (K := 21) (pc' := 59) rfl rfl ⟨rfl, rfl⟩ rfl (by first | assumption | decide | omega) rfl (by decide) rfl (by first | assumption | decide | omega) ?_
            first | exact absurd h3 (by decide) | (refine rn_iinc (pc' := 62) rfl rfl rfl (nI_inc _) rfl (Nat.le_of_ble_eq_true rfl) rfl ?_; refine rn_goto (pc' := 38) rfl rfl ?_; exact this)
      · rw [decide_eq_false h1] at hh
        have := ih (i + 1) E (by omega) (by omega) (by rw [dxF_N N e i h1]; exact hE)
        refine rn_iload_n (pc' := 39) rfl rfl rfl ?_
        refine rn_bipush (pc' := 41) (v := 20) rfl rfl (by decide) ?_
        refine rn_ic_gt (t := 65) (pc' := 44) rfl rfl rfl (fun h2 => ?_) (fun h2 => ?_)
        · exact absurd h2 n20
        · refine rn_aload_n (pc' := 45) rfl rfl rfl ?_
          refine rn_iload_n (pc' := 46) rfl rfl rfl ?_
          refine rn_callV (pc' := 49) (as := [_]) rfl rfl rfl ⟨Nat.le_of_ble_eq_true rfl, rfl, rfl⟩ rfl (by first | assumption | decide | omega) (Nat.le_of_ble_eq_true rfl) (Nat.le_of_ble_eq_true rfl) rfl hh (fun r2 M2 hz => ?_)
          obtain ⟨rfl, hm_⟩ := hz
          refine rn_mem hm_ ?_
          clear hm_
          refine rn_if_eq (t := 59) (pc' := 52) rfl rfl rfl (fun h3 => ?_) (fun h3 => ?_)
          · refine rn_iinc (pc' := 62) rfl rfl rfl (nI_inc _) rfl (Nat.le_of_ble_eq_true rfl) rfl ?_
            refine rn_goto (pc' := 38) rfl rfl ?_
            exact this
          · exact absurd rfl h3
  have e0 : mRow (f_exec1 N e (nI p)) 32 0 (dxF N e 1) = f_exec1 N e (nI p) := by
    have : dxF N e 1 = (f_exec1 N e (nI p)).1 32 0 := by
      have h0 := dxF_N N e 0 (by rw [Nat.add_zero, h.2.1.2.2.2.2.2.2.2.2.2.2.2.2 e he]; decide)
      rw [h0]
      funext k
      unfold dxF
      rw [if_neg (fun z => absurd z.2.1 (by omega))]
      rfl
    rw [this, mRow_id]
  have l1 := loop 20 1 _ rfl (Nat.le_refl _) (by rw [e0]; exact i4)
  show Rn _ 49 (0, [some (vR 0 e), some (vI (nI ja)), some (vI (nI p)), none], [], _) _
  refine rn_iload_n (pc' := 1) rfl rfl rfl ?_
  refine rn_callS (pc' := 4) (as := [_]) rfl rfl rfl ⟨rfl, rfl, rfl⟩ (Nat.le_of_ble_eq_true rfl) (Nat.le_of_ble_eq_true rfl) rfl hp (fun r1 M1 hz => ?_)
  obtain ⟨rfl, hm_⟩ := hz
  refine rn_mem hm_ ?_
  clear hm_
  refine rn_if_ne (t := 16) (pc' := 7) rfl rfl rfl (fun h1 => ?_) (fun h1 => ?_)
  · refine rn_aload_n (pc' := 17) rfl rfl rfl ?_
    refine rn_iload_n (pc' := 18) rfl rfl rfl ?_
    refine rn_putI (N := 24) (pc' := 21) rfl rfl rfl rfl rfl (by first | assumption | decide | omega) ?_
    refine rn_aload_n (pc' := 22) rfl rfl rfl ?_
    refine rn_iconst (pc' := 23) (v := 0) rfl rfl (by decide) ?_
    refine rn_putI (N := 24) (pc' := 26) rfl rfl rfl rfl rfl (by first | assumption | decide | omega) ?_
    refine rn_aload_n (pc' := 27) rfl rfl rfl ?_
    refine rn_iconst (pc' := 28) (v := 0) rfl rfl (by decide) ?_
    refine rn_putI (N := 24) (pc' := 31) rfl rfl rfl rfl rfl (by first | assumption | decide | omega) ?_
    refine rn_aload_n (pc' := 32) rfl rfl rfl ?_
    refine rn_iconst (pc' := 33) (v := 1) rfl rfl (by decide) ?_
    refine rn_putZ (N := 24) (pc' := 36) rfl rfl rfl rfl rfl (by first | assumption | decide | omega) (by decide) ?_
    refine rn_iconst (pc' := 37) (v := 1) rfl rfl (by decide) ?_
    refine rn_istore_n (pc' := 38) rfl rfl rfl (Nat.le_of_ble_eq_true rfl) rfl ?_
    exact l1
  · exact absurd h1 (by decide)
theorem Inv_sleep {C R : xM} {n e a : Nat} {st : Int32} (h : Inv C R n) (he : e < 24) (hl : 0 < R.1 25 0 e) (h0 : R.1 28 0 e = 0) (ha : a < 8) (hst : st = 1 ∨ st = 2) : Inv (mI (mI (mI C 0 e 3 st) 0 e 18 (nI a)) 0 e 5 (R.1 30 0 e - 1)) (f_sleep R e a st) n := by
  obtain ⟨⟨a1, a2, a3, a4, a5, a6, a7, a8, a9, a10, a11, a12⟩, a13, b1, b2, b3, b4, b5, b7, b9, b10, b11, b14⟩ := h
  have n4 : ¬ st = 4 := by rcases hst with q | q <;> (rw [q]; decide)
  have n3 : ¬ st = 3 := by rcases hst with q | q <;> (rw [q]; decide)
  have ef : f_sleep R e a st = mI (mI (mI (mI R 28 0 e st) 43 0 e (nI a)) 44 0 e (R.1 30 0 e)) 30 0 e (R.1 30 0 e - 1) := rfl
  rw [ef]
  have hs : ∀ e', (mI (mI (mI (mI R 28 0 e st) 43 0 e (nI a)) 44 0 e (R.1 30 0 e)) 30 0 e (R.1 30 0 e - 1)).1 28 0 e' = if e' = e then st else R.1 28 0 e' := fun e' => by simp [mI, xu]
  refine ⟨⟨?_, a2, a3, a4, a5, ?_, ?_, ?_, ?_, a10, a11, a12⟩, a13, b1, b2, b3, b4, b5, b7, ?_, ?_, b11, b14⟩
  · have x1 : A1 (mI C 0 e 3 st) (mI R 28 0 e st) := A1_set a1 (by decide)
    have x2 : A1 (mI (mI C 0 e 3 st) 0 e 18 (nI a)) (mI (mI (mI R 28 0 e st) 43 0 e (nI a)) 44 0 e (R.1 30 0 e)) := A1_skip (R := mI (mI (mI R 28 0 e st) 43 0 e (nI a)) 44 0 e (R.1 30 0 e)) x1 (by decide)
    exact A1_set x2 (by decide)
  · intro e' he'
    have x : (mI (mI (mI C 0 e 3 st) 0 e 18 (nI a)) 0 e 5 (R.1 30 0 e - 1)).1 0 e' 8 = C.1 0 e' 8 := by
      rw [mI_ne3 (by decide), mI_ne3 (by decide), mI_ne3 (by decide)]
    rw [x]
    exact a6 e' he'
  · intro e' he' q1 q2
    rw [hs] at q2
    by_cases hc : e' = e
    · rw [if_pos hc] at q2; exact absurd q2 n3
    · rw [if_neg hc] at q2
      rw [mI_ne3 (by decide), mI_ne3 (by decide), mI_ne3 (by decide)]
      exact a7 e' he' q1 q2
  · intro e' he' q1 q2
    rw [hs] at q2
    by_cases hc : e' = e
    · subst hc
      have y1 : R.1 30 0 e' - 1 + 1 = R.1 30 0 e' := Int32.sub_add_cancel _ _
      simp [mI, xu, y1]
    · rw [if_neg hc] at q2
      have := a8 e' he' q1 q2
      simpa [mI, xu, hc] using this
  · intro e' he' q1
    rcases a9 e' he' q1 with h | ⟨h1, q, h2, h3, h5, h6, h7, h8⟩
    · exact Or.inl h
    · refine Or.inr ⟨h1, q, h2, h3, h5, h6, ?_, h8⟩
      rw [hs]
      split
      · exact n4
      · exact h7
  · intro e' he' q2
    rw [hs] at q2
    by_cases hc : e' = e
    · exact ⟨a, ha, by simp [mI, xu, hc]⟩
    · rw [if_neg hc] at q2
      obtain ⟨w, w1, w2⟩ := b9 e' he' q2
      exact ⟨w, w1, by rw [← w2]; simp [mI, xu, hc]⟩
  · refine ⟨?_, ?_⟩
    · intro e' he' q1 q2
      rw [hs] at q2
      by_cases hc : e' = e
      · subst hc; exact b10.1 e' he' q1 (by rw [h0]; decide)
      · rw [if_neg hc] at q2
        exact b10.1 e' he' q1 q2
    · rw [hs]
      split
      · exact n4
      · exact b10.2
theorem c_sleep {d e t ja : Nat} {D N : xM} {st : Int32} (h : Cx e t D N) (hja : ja < 8) (hst : st = 1 ∨ st = 2) : Rn d 6 (0, xen 6 [vR 0 e, vI st, vI (nI ja)], [], D) (fun r C' => r = none ∧ AP e (N.1 25 0 e) (t + 1) C' (f_sleep N e ja st)) := by
  have he := h.1
  have v5 : D.1 0 e 5 = N.1 30 0 e := f1 h.2.1.1.1 he (by decide)
  have hI := Inv_sleep h.2.1 he h.2.2.1 h.2.2.2.1 hja hst
  have n4 : ¬ (f_sleep N e ja st).1 28 0 e = 4 := by
    have : (f_sleep N e ja st).1 28 0 e = st := by simp [f_sleep, mI, xu]
    rw [this]
    rcases hst with q | q <;> (rw [q]; decide)
  show Rn _ 6 (0, [some (vR 0 e), some (vI st), some (vI (nI ja))], [], _) _
  refine rn_aload_n (pc' := 1) rfl rfl rfl ?_
  refine rn_iload_n (pc' := 2) rfl rfl rfl ?_
  refine rn_putI (N := 24) (pc' := 5) rfl rfl rfl rfl rfl (by first | assumption | decide | omega) ?_
  refine rn_aload_n (pc' := 6) rfl rfl rfl ?_
  refine rn_iload_n (pc' := 7) rfl rfl rfl ?_
  refine rn_putI (N := 24) (pc' := 10) rfl rfl rfl rfl rfl (by first | assumption | decide | omega) ?_
  refine rn_aload_n (pc' := 11) rfl rfl rfl ?_
  refine rn_dupA (pc' := 12) rfl rfl ?_
  refine rn_getI (N := 24) (pc' := 15) rfl rfl rfl rfl (by decide) rfl (by first | assumption | decide | omega) ?_
  refine rn_iconst (pc' := 16) (v := 1) rfl rfl (by decide) ?_
  refine rn_isub (pc' := 17) rfl rfl ?_
  refine rn_topI (y := N.1 30 0 e - 1) (by rw [mI_ne3 (by decide), mI_ne3 (by decide), v5]) ?_
  refine rn_putI (N := 24) (pc' := 20) rfl rfl rfl rfl rfl (by first | assumption | decide | omega) ?_
  refine rn_return rfl rfl ?_
  exact ⟨rfl, AP_of hI (by omega) h.2.2.2.2.1 h.tm rfl n4⟩
theorem c_means {d n e k : Nat} {D N : xM} (v : Int32) (h : Inv D N n) (he : e < 24) (hk : k < 24) : Rn d 52 (0, xen 52 [vR 0 e, vI v, vR 0 k], [], D) (fun r C' => r = some (vI (bI (mns N e v k))) ∧ C' = D) := by
  have v0 : D.1 0 k 0 = N.1 25 0 k := f1 h.1.1 hk (by decide)
  have v2 : D.1 0 k 2 = N.1 27 0 k := f1 h.1.1 hk (by decide)
  have v2e : D.1 0 e 2 = N.1 27 0 e := f1 h.1.1 he (by decide)
  show Rn _ 52 (0, [some (vR 0 e), some (vI v), some (vR 0 k)], [], _) _
  refine rn_iload_n (pc' := 1) rfl rfl rfl ?_
  refine rn_if_le (t := 18) (pc' := 4) rfl rfl rfl (fun h1 => ?_) (fun h1 => ?_)
  · refine rn_iload_n (pc' := 19) rfl rfl rfl ?_
    refine rn_if_ne (t := 39) (pc' := 22) rfl rfl rfl (fun h3 => ?_) (fun h3 => ?_)
    · refine rn_iload_n (pc' := 40) rfl rfl rfl ?_
      refine rn_iconst (pc' := 41) (v := (-1)) rfl rfl (by decide) ?_
      refine rn_ic_eq (t := 53) (pc' := 44) rfl rfl rfl (fun h5 => ?_) (fun h5 => ?_)
      · refine rn_iconst (pc' := 54) (v := 1) rfl rfl (by decide) ?_
        refine rn_goto (pc' := 58) rfl rfl ?_
        refine rn_zreturn rfl rfl (by decide) ?_
        refine ⟨?_, rfl⟩
        unfold mns
        first | (rw [if_pos h1]; simp_all [bI, rpid, rgrp]; done) | (rw [if_neg h1]; simp_all [bI, rpid, rgrp])
      · refine rn_aload_n (pc' := 45) rfl rfl rfl ?_
        refine rn_getI (N := 24) (pc' := 48) rfl rfl rfl rfl (by decide) rfl (by first | assumption | decide | omega) ?_
        refine rn_topI v2 ?_
        refine rn_iload_n (pc' := 49) rfl rfl rfl ?_
        refine rn_ineg (pc' := 50) rfl rfl ?_
        refine rn_ic_ne (t := 57) (pc' := 53) rfl rfl rfl (fun h6 => ?_) (fun h6 => ?_)
        · refine rn_iconst (pc' := 58) (v := 0) rfl rfl (by decide) ?_
          refine rn_zreturn rfl rfl (by decide) ?_
          refine ⟨?_, rfl⟩
          unfold mns
          first | (rw [if_pos h1]; simp_all [bI, rpid, rgrp]; done) | (rw [if_neg h1]; simp_all [bI, rpid, rgrp])
        · refine rn_iconst (pc' := 54) (v := 1) rfl rfl (by decide) ?_
          refine rn_goto (pc' := 58) rfl rfl ?_
          refine rn_zreturn rfl rfl (by decide) ?_
          refine ⟨?_, rfl⟩
          unfold mns
          first | (rw [if_pos h1]; simp_all [bI, rpid, rgrp]; done) | (rw [if_neg h1]; simp_all [bI, rpid, rgrp])
    · refine rn_aload_n (pc' := 23) rfl rfl rfl ?_
      refine rn_getI (N := 24) (pc' := 26) rfl rfl rfl rfl (by decide) rfl (by first | assumption | decide | omega) ?_
      refine rn_topI v2 ?_
      refine rn_aload_n (pc' := 27) rfl rfl rfl ?_
      refine rn_getI (N := 24) (pc' := 30) rfl rfl rfl rfl (by decide) rfl (by first | assumption | decide | omega) ?_
      refine rn_topI v2e ?_
      refine rn_ic_ne (t := 37) (pc' := 33) rfl rfl rfl (fun h4 => ?_) (fun h4 => ?_)
      · refine rn_iconst (pc' := 38) (v := 0) rfl rfl (by decide) ?_
        refine rn_zreturn rfl rfl (by decide) ?_
        refine ⟨?_, rfl⟩
        unfold mns
        first | (rw [if_pos h1]; simp_all [bI, rpid, rgrp]; done) | (rw [if_neg h1]; simp_all [bI, rpid, rgrp])
      · refine rn_iconst (pc' := 34) (v := 1) rfl rfl (by decide) ?_
        refine rn_goto (pc' := 38) rfl rfl ?_
        refine rn_zreturn rfl rfl (by decide) ?_
        refine ⟨?_, rfl⟩
        unfold mns
        first | (rw [if_pos h1]; simp_all [bI, rpid, rgrp]; done) | (rw [if_neg h1]; simp_all [bI, rpid, rgrp])
  · refine rn_aload_n (pc' := 5) rfl rfl rfl ?_
    refine rn_getI (N := 24) (pc' := 8) rfl rfl rfl rfl (by decide) rfl (by first | assumption | decide | omega) ?_
    refine rn_topI v0 ?_
    refine rn_iload_n (pc' := 9) rfl rfl rfl ?_
    refine rn_ic_ne (t := 16) (pc' := 12) rfl rfl rfl (fun h2 => ?_) (fun h2 => ?_)
    · refine rn_iconst (pc' := 17) (v := 0) rfl rfl (by decide) ?_
      refine rn_zreturn rfl rfl (by decide) ?_
      refine ⟨?_, rfl⟩
      unfold mns
      first | (rw [if_pos h1]; simp_all [bI, rpid, rgrp]; done) | (rw [if_neg h1]; simp_all [bI, rpid, rgrp])
    · refine rn_iconst (pc' := 13) (v := 1) rfl rfl (by decide) ?_
      refine rn_goto (pc' := 17) rfl rfl ?_
      refine rn_zreturn rfl rfl (by decide) ?_
      refine ⟨?_, rfl⟩
      unfold mns
      first | (rw [if_pos h1]; simp_all [bI, rpid, rgrp]; done) | (rw [if_neg h1]; simp_all [bI, rpid, rgrp])
theorem c_isMeantChild {d n e k : Nat} {D N : xM} (v : Int32) (h : Inv D N n) (he : e < 24) (hl : 0 < N.1 25 0 e) (hk : k < 24) : Rn (d + 1) 51 (0, xen 51 [vR 0 e, vI v, vR 0 k], [], D) (fun r C' => r = some (vI (bI (chB N e v k))) ∧ C' = D) := by
  have v0 : D.1 0 k 0 = N.1 25 0 k := f1 h.1.1 hk (by decide)
  have hm := c_means (d := d) v h he hk
  rcases lv_or h.2.2.1 hk with hz | hlk
  · have e1 : chB N e v k = false := by unfold chB; rw [show rpid N k = 0 from hz]; rfl
    rw [e1]
    show Rn _ 51 (0, [some (vR 0 e), some (vI v), some (vR 0 k)], [], _) _
    refine rn_aload_n (pc' := 1) rfl rfl rfl ?_
    refine rn_getI (N := 24) (pc' := 4) rfl rfl rfl rfl (by decide) rfl (by first | assumption | decide | omega) ?_
    refine rn_if_eq (t := 28) (pc' := 7) rfl rfl rfl (fun h1 => ?_) (fun h1 => ?_)
    · refine rn_iconst (pc' := 29) (v := 0) rfl rfl (by decide) ?_
      refine rn_zreturn rfl rfl (by decide) ?_
      exact ⟨rfl, rfl⟩
    · exact absurd (v0.trans hz) h1
  · have hne : ¬ D.1 0 k 0 = 0 := by rw [v0]; exact fun q => by rw [q] at hlk; exact absurd hlk (by decide)
    by_cases hc : N.1 26 0 k = N.1 25 0 e
    · have hpe : D.2.2 0 k 1 = some e := (ch_iff h he hl hk hlk).mpr hc
      have e1 : chB N e v k = mns N e v k := by
        unfold chB
        rw [decide_eq_true (show 0 < rpid N k from hlk), decide_eq_true (show rpar N k = rpid N e from hc)]
        rfl
      rw [e1]
      show Rn _ 51 (0, [some (vR 0 e), some (vI v), some (vR 0 k)], [], _) _
      refine rn_aload_n (pc' := 1) rfl rfl rfl ?_
      refine rn_getI (N := 24) (pc' := 4) rfl rfl rfl rfl (by decide) rfl (by first | assumption | decide | omega) ?_
      refine rn_if_eq (t := 28) (pc' := 7) rfl rfl rfl (fun h1 => ?_) (fun h1 => ?_)
      · refine rn_iconst (pc' := 29) (v := 0) rfl rfl (by decide) ?_
        refine rn_zreturn rfl rfl (by decide) ?_
        first | exact absurd h1 hne | exact absurd rfl h2 | (refine ⟨?_, rfl⟩; first | (rw [h3]; done) | (cases hq : mns N e v k with
          | true => rfl
          | false => rw [hq] at h3; exact absurd rfl h3))
      · refine rn_aload_n (pc' := 8) rfl rfl rfl ?_
        refine rn_getV (N := 24) (t' := 0) (pc' := 11) rfl rfl rfl rfl (by decide) rfl (by first | assumption | decide | omega) ?_
        refine rn_topO hpe ?_
        refine rn_aload_n (pc' := 12) rfl rfl rfl ?_
        refine rn_ac_ne (t := 28) (pc' := 15) rfl rfl rfl (decide_eq_true he) (decide_eq_true he) (fun h2 => ?_) (fun h2 => ?_)
        · refine rn_iconst (pc' := 29) (v := 0) rfl rfl (by decide) ?_
          refine rn_zreturn rfl rfl (by decide) ?_
          first | exact absurd h1 hne | exact absurd rfl h2 | (refine ⟨?_, rfl⟩; first | (rw [h3]; done) | (cases hq : mns N e v k with
            | true => rfl
            | false => rw [hq] at h3; exact absurd rfl h3))
        · refine rn_aload_n (pc' := 16) rfl rfl rfl ?_
          refine rn_iload_n (pc' := 17) rfl rfl rfl ?_
          refine rn_aload_n (pc' := 18) rfl rfl rfl ?_
          refine rn_callS (pc' := 21) (as := [_, _, _]) rfl rfl rfl ⟨rfl, rfl, rfl⟩ (Nat.le_of_ble_eq_true rfl) (Nat.le_of_ble_eq_true rfl) rfl hm (fun r3 M3 hz => ?_)
          obtain ⟨rfl, hm_⟩ := hz
          refine rn_mem hm_ ?_
          clear hm_
          refine rn_if_eq (t := 28) (pc' := 24) rfl rfl rfl (fun h3 => ?_) (fun h3 => ?_)
          · refine rn_iconst (pc' := 29) (v := 0) rfl rfl (by decide) ?_
            refine rn_zreturn rfl rfl (by decide) ?_
            first | exact absurd h1 hne | exact absurd rfl h2 | (refine ⟨?_, rfl⟩; first | (rw [h3]; done) | (cases hq : mns N e v k with
              | true => rfl
              | false => rw [hq] at h3; exact absurd rfl h3))
          · refine rn_iconst (pc' := 25) (v := 1) rfl rfl (by decide) ?_
            refine rn_goto (pc' := 29) rfl rfl ?_
            refine rn_zreturn rfl rfl (by decide) ?_
            first | exact absurd h1 hne | exact absurd rfl h2 | (refine ⟨?_, rfl⟩; first | (rw [h3]; done) | (cases hq : mns N e v k with
              | true => rfl
              | false => rw [hq] at h3; exact absurd rfl h3))
    · have e1 : chB N e v k = false := by
        unfold chB
        rw [decide_eq_false (show ¬ rpar N k = rpid N e from hc)]
        simp
      rw [e1]
      rcases h.1.2.2.2.2.2.2.2.2.1 k hk hlk with ⟨q1, q2, q3⟩ | ⟨q1, q, q2, q3, q4, q5, q6, q7⟩
      · show Rn _ 51 (0, [some (vR 0 e), some (vI v), some (vR 0 k)], [], _) _
        refine rn_aload_n (pc' := 1) rfl rfl rfl ?_
        refine rn_getI (N := 24) (pc' := 4) rfl rfl rfl rfl (by decide) rfl (by first | assumption | decide | omega) ?_
        refine rn_if_eq (t := 28) (pc' := 7) rfl rfl rfl (fun h1 => ?_) (fun h1 => ?_)
        · refine rn_iconst (pc' := 29) (v := 0) rfl rfl (by decide) ?_
          refine rn_zreturn rfl rfl (by decide) ?_
          exact ⟨rfl, rfl⟩
        · refine rn_aload_n (pc' := 8) rfl rfl rfl ?_
          refine rn_getV (N := 24) (t' := 0) (pc' := 11) rfl rfl rfl rfl (by decide) rfl (by first | assumption | decide | omega) ?_
          refine rn_topO q2 ?_
          refine rn_aload_n (pc' := 12) rfl rfl rfl ?_
          refine rn_ac_ne (t := 28) (pc' := 15) rfl rfl rfl rfl (decide_eq_true he) (fun h2 => ?_) (fun h2 => ?_)
          · refine rn_iconst (pc' := 29) (v := 0) rfl rfl (by decide) ?_
            refine rn_zreturn rfl rfl (by decide) ?_
            exact ⟨rfl, rfl⟩
          · exact nomatch h2
      · have hqe : ¬ q = e := fun z => hc ((ch_iff h he hl hk hlk).mp (by rw [← z]; exact q4))
        show Rn _ 51 (0, [some (vR 0 e), some (vI v), some (vR 0 k)], [], _) _
        refine rn_aload_n (pc' := 1) rfl rfl rfl ?_
        refine rn_getI (N := 24) (pc' := 4) rfl rfl rfl rfl (by decide) rfl (by first | assumption | decide | omega) ?_
        refine rn_if_eq (t := 28) (pc' := 7) rfl rfl rfl (fun h1 => ?_) (fun h1 => ?_)
        · refine rn_iconst (pc' := 29) (v := 0) rfl rfl (by decide) ?_
          refine rn_zreturn rfl rfl (by decide) ?_
          exact ⟨rfl, rfl⟩
        · refine rn_aload_n (pc' := 8) rfl rfl rfl ?_
          refine rn_getV (N := 24) (t' := 0) (pc' := 11) rfl rfl rfl rfl (by decide) rfl (by first | assumption | decide | omega) ?_
          refine rn_topO q4 ?_
          refine rn_aload_n (pc' := 12) rfl rfl rfl ?_
          refine rn_ac_ne (t := 28) (pc' := 15) rfl rfl rfl (decide_eq_true q2) (decide_eq_true he) (fun h2 => ?_) (fun h2 => ?_)
          · refine rn_iconst (pc' := 29) (v := 0) rfl rfl (by decide) ?_
            refine rn_zreturn rfl rfl (by decide) ?_
            exact ⟨rfl, rfl⟩
          · (have hh := Option.some.inj h2; exact absurd (congrArg Prod.snd hh) hqe)
