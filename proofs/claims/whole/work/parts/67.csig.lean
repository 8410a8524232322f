def bt (x : Int32) (s : Nat) : Bool := x.toBitVec.getLsbD s
theorem sh1 : ∀ s, s < 21 → ((1 : Int32) <<< (nI s &&& 31)).toBitVec = BitVec.twoPow 32 s := by decide
theorem twoPow_ne : ∀ s, s < 21 → ¬ BitVec.twoPow 32 s = 0#32 := by decide
theorem sh2 : ∀ s, s < 21 → ((nI s &&& 31 : Int32).toBitVec.smod 32).toNat = s := by decide
theorem bt_and1 (x : Int32) {s : Nat} (hs : s < 21) : x &&& ((1 : Int32) <<< (nI s &&& 31)) = 0 ↔ bt x s = false := by
  rw [← Int32.toBitVec_inj, Int32.toBitVec_and, sh1 s hs, BitVec.and_twoPow]
  show (if bt x s = true then BitVec.twoPow 32 s else 0#32) = 0#32 ↔ _
  cases hb : bt x s with
  | true =>
    rw [if_pos rfl]
    exact ⟨fun z => absurd z (twoPow_ne s hs), fun z => by cases z⟩
  | false =>
    rw [if_neg (by decide)]
    exact ⟨fun _ => rfl, fun _ => rfl⟩
theorem bt_shr (x : Int32) {s : Nat} (hs : s < 21) : (x >>> (nI s &&& 31)) &&& 1 = if bt x s = true then 1 else 0 := by
  have h1 : ((x >>> (nI s &&& 31)) &&& 1).toBitVec = (x >>> (nI s &&& 31)).toBitVec &&& BitVec.twoPow 32 0 := by
    rw [Int32.toBitVec_and]; rfl
  have h2 : (x >>> (nI s &&& 31)).toBitVec.getLsbD 0 = bt x s := by
    show (x.toBitVec.sshiftRight' ((nI s &&& 31 : Int32).toBitVec.smod 32)).getLsbD 0 = _
    rw [BitVec.getLsbD_sshiftRight', sh2 s hs, if_pos (by omega)]
    rfl
  rw [← Int32.toBitVec_inj, h1, BitVec.and_twoPow, h2]
  cases bt x s <;> rfl
theorem bt_shr1 (x : Int32) {s : Nat} (hs : s < 21) : (x >>> (nI s &&& 31)) &&& 1 = 1 ↔ bt x s = true := by
  rw [bt_shr x hs]
  cases bt x s <;> decide
theorem bt_shr0 (x : Int32) {s : Nat} (hs : s < 21) : (x >>> (nI s &&& 31)) &&& 1 = 0 ↔ bt x s = false := by
  rw [bt_shr x hs]
  cases bt x s <;> decide
theorem bt_and (x y : Int32) (s : Nat) : bt (x &&& y) s = (bt x s && bt y s) := by
  unfold bt; rw [Int32.toBitVec_and, BitVec.getLsbD_and]
theorem bt_not (x : Int32) {s : Nat} (hs : s < 32) : bt (x ^^^ (-1)) s = !bt x s := by
  unfold bt; rw [Int32.xor_neg_one, Int32.toBitVec_not, BitVec.getLsbD_not, decide_eq_true hs, Bool.true_and]
theorem bt_M : ∀ i, i < 32 → bt 2097150 i = true → 1 ≤ i ∧ i < 21 := by decide
theorem M_and {x : Int32} (h : x &&& 2097150 = x) (y : Int32) : (x &&& y) &&& 2097150 = x &&& y := by
  rw [Int32.and_assoc, Int32.and_comm y, ← Int32.and_assoc, h]
theorem M_sh : ∀ s, 1 ≤ s → s < 21 → ((1 : Int32) <<< (nI s &&& 31)) &&& 2097150 = (1 : Int32) <<< (nI s &&& 31) := by
  have h : ∀ s, s < 21 → 1 ≤ s → ((1 : Int32) <<< (nI s &&& 31)) &&& 2097150 = (1 : Int32) <<< (nI s &&& 31) := by decide
  exact fun s h1 h2 => h s h2 h1
theorem M_or {x y : Int32} (h : x &&& 2097150 = x) (k : y &&& 2097150 = y) : (x ||| y) &&& 2097150 = x ||| y := by
  have e1 : (x ||| y) &&& 2097150 = (x &&& 2097150) ||| (y &&& 2097150) := by
    rw [← Int32.toBitVec_inj, Int32.toBitVec_and, Int32.toBitVec_or, Int32.toBitVec_or, Int32.toBitVec_and, Int32.toBitVec_and]
    refine BitVec.eq_of_getLsbD_eq (fun i _ => ?_)
    rw [BitVec.getLsbD_and, BitVec.getLsbD_or, BitVec.getLsbD_or, BitVec.getLsbD_and, BitVec.getLsbD_and]
    cases x.toBitVec.getLsbD i <;> cases y.toBitVec.getLsbD i <;> simp
  rw [e1, h, k]
theorem M_zero {x : Int32} (h : x &&& 2097150 = x) (k : ∀ s, 1 ≤ s → s < 21 → bt x s = false) : x = 0 := by
  rw [← Int32.toBitVec_inj]
  refine BitVec.eq_of_getLsbD_eq (fun i hi => ?_)
  have e0 : (0 : Int32).toBitVec.getLsbD i = false := by show (0#32).getLsbD i = false; simp
  rw [e0]
  show bt x i = false
  rw [← h, bt_and]
  cases hb : bt 2097150 i with
  | false => exact Bool.and_false _
  | true =>
    have := bt_M i hi hb
    rw [k i this.1 this.2]
    rfl
theorem fp_no : ∀ q ∈ fp, ¬ q.1 = 8 ∧ ¬ q.1 = 15 ∧ ¬ q.1 = 18 ∧ ¬ q.1 = 13 ∧ ¬ q.2 = 26 ∧ ¬ q.2 = 31 ∧ ¬ q.2 = 32 ∧ ¬ q.2 = 33 ∧ ¬ q.2 = 36 ∧ ¬ q.2 = 37 ∧ ¬ q.2 = 40 ∧ ¬ q.2 = 43 ∧ ¬ q.2 = 44 ∧ ¬ q.2 = 45 ∧ ¬ q.2 = 46 ∧ ¬ q.2 = 47 ∧ ¬ q.2 = 48 ∧ ¬ q.2 = 20 ∧ ¬ q.2 = 21 ∧ ¬ q.2 = 22 ∧ ¬ q.2 = 23 ∧ ¬ q.2 = 24 := by decide
theorem mI_ne {M : xM} {t e k t' e' k' : Nat} {v : Int32} (h : ¬ t' = t) : (mI M t e k v).1 t' e' k' = M.1 t' e' k' := by
  simp only [mI, xu]; rw [if_neg (fun z => h z.1)]
theorem mI_ne3 {M : xM} {t e k t' e' k' : Nat} {v : Int32} (h : ¬ k' = k) : (mI M t e k v).1 t' e' k' = M.1 t' e' k' := by
  simp only [mI, xu]; rw [if_neg (fun z => h z.2.2)]
theorem mI_nt {M : xM} {t e k t' : Nat} {v : Int32} (h : ¬ t' = t) : (mI M t e k v).1 t' = M.1 t' := by
  funext a b; exact mI_ne h
theorem mI_id (M : xM) (t e k : Nat) : mI M t e k (M.1 t e k) = M := by
  refine xM_ext (fun a b c => ?_) rfl
  simp only [mI, xu]
  split
  · rename_i h; obtain ⟨rfl, rfl, rfl⟩ := h; rfl
  · rfl
theorem A1_skip {C R : xM} {e k : Nat} {v : Int32} (h : A1 C R) (hk : ∀ q ∈ fp, ¬ q.1 = k) : A1 (mI C 0 e k v) R := by
  rw [A1_l] at h ⊢
  intro e' he' q hq
  rw [mI_ne3 (hk q hq)]
  exact h e' he' q hq
theorem Inv_fld {C R : xM} {n e k t : Nat} {v : Int32} (h : Inv C R n) (hk : (k, t) ∈ fp) (h25 : ¬ t = 25) (h28 : ¬ t = 28) (h8 : t = 30 → ¬ (R.1 28 0 e = 1 ∨ R.1 28 0 e = 2)) (hr : IR (mI R t 0 e v)) : Inv (mI C 0 e k v) (mI R t 0 e v) n := by
  obtain ⟨⟨a1, a2, a3, a4, a5, a6, a7, a8, a9, a10, a11, a12⟩, ⟨c1, c2, c3, c4⟩, -⟩ := h
  obtain ⟨k1, k2, k3, k4, t26, t31, t32, t33, t36, t37, t40, t43, t44, t45, t46, t47, t48, t20, t21, t22, t23, t24⟩ := fp_no (k, t) hk
  have r25 : (mI R t 0 e v).1 25 = R.1 25 := mI_nt (Ne.symm h25)
  have r28 : (mI R t 0 e v).1 28 = R.1 28 := mI_nt (Ne.symm h28)
  have r26 : (mI R t 0 e v).1 26 = R.1 26 := mI_nt (Ne.symm t26)
  have r31 : (mI R t 0 e v).1 31 = R.1 31 := mI_nt (Ne.symm t31)
  have r32 : (mI R t 0 e v).1 32 = R.1 32 := mI_nt (Ne.symm t32)
  have r33 : (mI R t 0 e v).1 33 = R.1 33 := mI_nt (Ne.symm t33)
  have r36 : (mI R t 0 e v).1 36 = R.1 36 := mI_nt (Ne.symm t36)
  have r37 : (mI R t 0 e v).1 37 = R.1 37 := mI_nt (Ne.symm t37)
  have r40 : (mI R t 0 e v).1 40 = R.1 40 := mI_nt (Ne.symm t40)
  have r43 : (mI R t 0 e v).1 43 = R.1 43 := mI_nt (Ne.symm t43)
  have r44 : (mI R t 0 e v).1 44 = R.1 44 := mI_nt (Ne.symm t44)
  have r45 : (mI R t 0 e v).1 45 = R.1 45 := mI_nt (Ne.symm t45)
  have r46 : (mI R t 0 e v).1 46 = R.1 46 := mI_nt (Ne.symm t46)
  have r47 : (mI R t 0 e v).1 47 = R.1 47 := mI_nt (Ne.symm t47)
  have r48 : (mI R t 0 e v).1 48 = R.1 48 := mI_nt (Ne.symm t48)
  have r20 : (mI R t 0 e v).1 20 = R.1 20 := mI_nt (Ne.symm t20)
  have r21 : (mI R t 0 e v).1 21 = R.1 21 := mI_nt (Ne.symm t21)
  have r22 : (mI R t 0 e v).1 22 = R.1 22 := mI_nt (Ne.symm t22)
  have r23 : (mI R t 0 e v).1 23 = R.1 23 := mI_nt (Ne.symm t23)
  have r24 : (mI R t 0 e v).1 24 = R.1 24 := mI_nt (Ne.symm t24)
  refine ⟨⟨A1_set a1 hk, ?_, ?_, ?_, a5, ?_, ?_, ?_, ?_, ?_, ?_, ?_⟩, ⟨c1, ?_, c3, ?_⟩, hr⟩
  · unfold A2; rw [r31]; exact a2
  · unfold A3; rw [r32]; exact a3
  · unfold A4; rw [r36, r37]; exact a4
  · intro e' he'; rw [r25, r33, mI_ne3 (Ne.symm k1)]; exact a6 e' he'
  · intro e' he' hl hs; rw [r25] at hl; rw [r28] at hs; rw [r40, mI_ne3 (Ne.symm k2)]; exact a7 e' he' hl hs
  · intro e' he' hl hs
    rw [r25] at hl; rw [r28] at hs; rw [r43, r44, mI_ne3 (Ne.symm k3)]
    have := a8 e' he' hl hs
    refine ⟨this.1, ?_⟩
    by_cases ht : t = 30
    · subst ht
      by_cases hee : e' = e
      · subst hee; exact absurd hs (h8 rfl)
      · rw [show (mI R 30 0 e v).1 30 0 e' = R.1 30 0 e' from mI_ne3 hee]; exact this.2
    · rw [mI_ne (fun z => ht z.symm)]; exact this.2
  · intro e' he' hl
    rw [r25] at hl
    unfold PR
    rw [r25, r26, r28]
    exact a9 e' he' hl
  · unfold A10; rw [r20]; exact a10
  · unfold A11; rw [r20, r47, r48]; exact a11
  · unfold A12; rw [r21, r22, r23, r24]; exact a12
  · unfold rok; rw [r20]; exact c2
  · intro i hi
    unfold RW
    rw [r25, r45, r46]
    exact c4 i hi
theorem Inv_reg {C R : xM} {n e r : Nat} {v : Int32} (h : Inv C R n) (hr : r < 8) : Inv (mI C 1 e r v) (mI R 31 0 (8 * e + r) v) n := by
  obtain ⟨⟨a1, a2, a3, a4, a5, a6, a7, a8, a9, a10, a11, a12⟩, a13, b⟩ := h
  exact ⟨⟨a1, A2_set a2 hr, a3, a4, a5, a6, a7, a8, a9, a10, a11, a12⟩, a13, b⟩
theorem Inv_doe {C R : xM} {n e r : Nat} {v : Int32} (h : Inv C R n) (hr1 : 1 ≤ r) (hr : r < 21) : Inv (mI C 2 e r v) (mI R 32 0 (21 * e + r) v) n := by
  obtain ⟨⟨a1, a2, a3, a4, a5, a6, a7, a8, a9, a10, a11, a12⟩, a13, b1, b2, b3, b4, b5, b7, b9, b10, b11, b14⟩ := h
  refine ⟨⟨a1, a2, A3_set a3 hr, a4, a5, a6, a7, a8, a9, a10, a11, a12⟩, a13, b1, b2, b3, b4, b5, b7, b9, b10, b11, b14.1, fun e' he' => ?_⟩
  rw [mI_ne3 (by omega)]
  exact b14.2 e' he'
theorem Inv_pend {C R : xM} {n e : Nat} {v : Int32} (h : Inv C R n) (hl : 0 < R.1 25 0 e) (hv : v &&& 2097150 = v) : Inv (mI C 0 e 8 v) (mI R 33 0 e v) n := by
  obtain ⟨⟨a1, a2, a3, a4, a5, a6, a7, a8, a9, a10, a11, a12⟩, a13, b1, b2, b3, b4, b5, b7, b9, b10, b11, b14⟩ := h
  refine ⟨⟨A1_skip a1 (by decide), a2, a3, a4, a5, ?_, ?_, ?_, a9, a10, a11, a12⟩, a13, b1, b2, b3, b4, b5, ?_, b9, b10, b11, b14⟩
  · intro e' he'
    have := a6 e' he'
    by_cases hc : e' = e
    · subst hc
      refine ⟨fun _ => by simp [mI, xu], fun q => ?_⟩
      have q : R.1 25 0 e' = 0 := q
      rw [q] at hl; exact absurd hl (by decide)
    · have x1 : (mI C 0 e 8 v).1 0 e' 8 = C.1 0 e' 8 := by simp [mI, xu, hc]
      have x2 : (mI R 33 0 e v).1 33 0 e' = R.1 33 0 e' := by simp [mI, xu, hc]
      rw [x1, x2]
      exact this
  · intro e' he' q1 q2
    rw [mI_ne3 (by decide)]
    exact a7 e' he' q1 q2
  · intro e' he' q1 q2
    rw [mI_ne3 (by decide)]
    exact a8 e' he' q1 q2
  · intro e' he' q
    by_cases hc : e' = e
    · subst hc
      have x2 : (mI R 33 0 e' v).1 33 0 e' = v := by simp [mI, xu]
      rw [x2]; exact hv
    · have x2 : (mI R 33 0 e v).1 33 0 e' = R.1 33 0 e' := by simp [mI, xu, hc]
      rw [x2]; exact b7 e' he' q
theorem Inv_stop1 {C R : xM} {n e s : Nat} (h : Inv C R n) (he : e < 24) (hl : 0 < R.1 25 0 e) (h4 : ¬ R.1 28 0 e = 4) : Inv (mI (mI (mI C 0 e 3 3) 0 e 15 (nI s)) 0 e 16 0) (f_stop1 R e s) n := by
  obtain ⟨⟨a1, a2, a3, a4, a5, a6, a7, a8, a9, a10, a11, a12⟩, a13, b1, b2, b3, b4, b5, b7, b9, b10, b11, b14⟩ := h
  have hs : ∀ e', (f_stop1 R e s).1 28 0 e' = if e' = e then 3 else R.1 28 0 e' := fun e' => by simp [f_stop1, mI, xu]
  refine ⟨⟨?_, a2, a3, a4, a5, ?_, ?_, ?_, ?_, a10, a11, a12⟩, a13, b1, b2, b3, b4, b5, b7, ?_, ?_, b11, b14⟩
  · have x1 : A1 (mI C 0 e 3 3) (mI R 28 0 e 3) := A1_set a1 (by decide)
    have x2 : A1 (mI (mI C 0 e 3 3) 0 e 15 (nI s)) (mI (mI R 28 0 e 3) 40 0 e (nI s)) := A1_skip x1 (by decide)
    exact A1_set x2 (by decide)
  · intro e' he'
    rw [mI_ne3 (by decide), mI_ne3 (by decide), mI_ne3 (by decide)]
    exact a6 e' he'
  · intro e' he' q1 q2
    by_cases hc : e' = e
    · subst hc
      simp [f_stop1, mI, xu]
    · rw [hs, if_neg hc] at q2
      have := a7 e' he' q1 q2
      simpa [f_stop1, mI, xu, hc] using this
  · intro e' he' q1 q2
    by_cases hc : e' = e
    · rw [hs, if_pos hc] at q2; exact absurd q2 (by decide)
    · rw [hs, if_neg hc] at q2
      rw [mI_ne3 (by decide), mI_ne3 (by decide), mI_ne3 (by decide)]
      exact a8 e' he' q1 q2
  · intro e' he' q1
    rcases a9 e' he' q1 with h | ⟨h1, q, h2, h3, h5, h6, h7, h8⟩
    · exact Or.inl h
    · refine Or.inr ⟨h1, q, h2, h3, h5, h6, ?_, h8⟩
      rw [hs]
      split
      · decide
      · exact h7
  · intro e' he' q2
    by_cases hc : e' = e
    · rw [hs, if_pos hc] at q2; exact absurd q2 (by decide)
    · rw [hs, if_neg hc] at q2
      exact b9 e' he' q2
  · refine ⟨?_, ?_⟩
    · intro e' he' q1 q2
      by_cases hc : e' = e
      · subst hc; exact b10.1 e' he' q1 h4
      · rw [hs, if_neg hc] at q2
        exact b10.1 e' he' q1 q2
    · rw [hs]
      split
      · decide
      · exact b10.2
theorem par_q {C R : xM} {n e : Nat} (h : Inv C R n) (he : e < 24) (hl : 0 < R.1 25 0 e) (hp1 : ¬ R.1 25 0 e = 1) : ∃ q, q < 24 ∧ ¬ q = e ∧ C.2.2 0 e 1 = some q ∧ 0 < R.1 25 0 q ∧ ¬ R.1 28 0 q = 4 ∧ R.1 26 0 e = R.1 25 0 q := by
  rcases h.1.2.2.2.2.2.2.2.2.1 e he hl with ⟨z, -⟩ | ⟨-, q, z⟩
  · have := B3_0 h.2.2.1 h.2.2.2.2.1 he hl
    rw [z] at hp1
    exact absurd this hp1
  · exact ⟨q, z⟩
theorem c_stop {d n e s : Nat} {C R : xM} (h : Inv C R n) (he : e < 24) (hl : 0 < R.1 25 0 e) (hp1 : ¬ R.1 25 0 e = 1) (h4 : ¬ R.1 28 0 e = 4) (hn : n < 1224) : Rn (d + 1) 29 (0, xen 29 [vR 9 0, vR 0 e, vI (nI s)], [], C) (fun r C' => r = none ∧ ∃ n', n' ≤ n + 1 ∧ Inv C' (if rste R e = 3 then R else f_stop R e s) n') := by
  have v3 : C.1 0 e 3 = R.1 28 0 e := f1 h.1.1 he (by decide)
  by_cases h3 : rste R e = 3
  · rw [if_pos h3]
    show Rn _ 29 (0, [some (vR 9 0), some (vR 0 e), some (vI (nI s))], [], _) _
    refine rn_aload_n (pc' := 1) rfl rfl rfl ?_
    refine rn_getI (N := 24) (pc' := 4) rfl rfl rfl rfl (by decide) rfl (by first | assumption | decide | omega) ?_
    refine rn_iconst (pc' := 5) (v := 3) rfl rfl (by decide) ?_
    refine rn_ic_ne (t := 9) (pc' := 8) rfl rfl rfl (fun h2 => ?_) (fun h2 => ?_)
    · exact absurd (v3.trans h3) h2
    · refine rn_return rfl rfl ?_
      exact ⟨rfl, n, by omega, h⟩
  · rw [if_neg h3]
    have h1 := Inv_stop1 (s := s) h he hl h4
    obtain ⟨q, hq, hqe, hpq, hql, hqs, hqp⟩ := par_q h he hl hp1
    have fe : f_stop R e s = f_sendTo (f_wake (f_stop1 R e s) (R.1 25 0 q)) (R.1 25 0 q) 17 := by
      have e1 : rpar (f_stop1 R e s) e = R.1 25 0 q := hqp
      have e2 : rpar (f_wake (f_stop1 R e s) (rpar (f_stop1 R e s) e)) e = R.1 25 0 q := by
        show (f_wake (f_stop1 R e s) (rpar (f_stop1 R e s) e)).1 26 0 e = _
        rw [wake_25 _ _ 26 (by decide)]; exact hqp
      unfold f_stop
      rw [e2, e1]
    have eu : eo (f_stop1 R e s) (R.1 25 0 q) = some q := eo_is h1.2.2.2.1 hq hql rfl
    have hw := c_wake (d := d) h1 eu
    have s2 : ∀ D, Inv D (f_wake (f_stop1 R e s) (R.1 25 0 q)) n → _ := fun D hD => c_send (d := d) (s := 17) (e := q) hD hn hq (by rw [wake_25 _ _ 25 (by decide)]; exact hql) (by omega) (by omega)
    have fe2 : f_stop R e s = f_send (f_wake (f_stop1 R e s) (R.1 25 0 q)) q (nI 17) := by
      rw [fe]
      unfold f_sendTo
      rw [eo_row (Y := f_stop1 R e s) (fun k => by rw [wake_25 _ _ 25 (by decide)]), eu]
      rfl
    rw [← fe2] at s2
    generalize hE : mI (mI (mI C 0 e 3 3) 0 e 15 (nI s)) 0 e 16 0 = E at h1 hw
    have hpE : E.2.2 0 e 1 = some q := by rw [← hE]; exact hpq
    have s3 : ∀ D, Inv D (f_wake (f_stop1 R e s) (R.1 25 0 q)) n → Rn (d + 1) 29 (38, [some (vR 9 0), some (vR 0 e), some (vI (nI s))], [], D) (fun r C' => r = none ∧ ∃ n', n' ≤ n + 1 ∧ Inv C' (f_stop R e s) n') := by
      intro D hD
      have hpD : D.2.2 0 e 1 = some q := by
        obtain ⟨q', z1, z2, z3, z4, z5, z6⟩ := par_q hD he (by rw [wake_25 _ _ 25 (by decide)]; exact hl) (by rw [wake_25 _ _ 25 (by decide)]; exact hp1)
        rw [wake_25 _ _ 26 (by decide), wake_25 _ _ 25 (by decide)] at z6
        have := h.2.2.2.1 q q' hq z1 hql (z6.symm.trans hqp)
        rw [z3, this]
      refine rn_aload_n (pc' := 39) rfl rfl rfl ?_
      refine rn_aload_n (pc' := 40) rfl rfl rfl ?_
      refine rn_getV (N := 24) (t' := 0) (pc' := 43) rfl rfl rfl rfl (by decide) rfl (by first | assumption | decide | omega) ?_
      refine rn_topO hpD ?_
      refine rn_bipush (pc' := 45) (v := 17) rfl rfl (by decide) ?_
      refine rn_callV (pc' := 48) (as := [_, _]) rfl rfl rfl ⟨Nat.le_of_ble_eq_true rfl, rfl, rfl⟩ rfl (by first | assumption | decide | omega) (Nat.le_of_ble_eq_true rfl) (Nat.le_of_ble_eq_true rfl) rfl (s2 D hD) (fun r9 D9 hz9 => ?_)
      obtain ⟨rfl, hI, h149⟩ := hz9
      refine rn_return rfl rfl ?_
      exact ⟨rfl, _, Nat.le_refl _, hI⟩
    have s4 : Rn (d + 1) 29 (24, [some (vR 9 0), some (vR 0 e), some (vI (nI s))], [], E) (fun r C' => r = none ∧ ∃ n', n' ≤ n + 1 ∧ Inv C' (f_stop R e s) n') := by
      refine rn_aload_n (pc' := 25) rfl rfl rfl ?_
      refine rn_getV (N := 24) (t' := 0) (pc' := 28) rfl rfl rfl rfl (by decide) rfl (by first | assumption | decide | omega) ?_
      refine rn_topO hpE ?_
      refine rn_ifnull (t := 48) (pc' := 31) rfl rfl rfl (fun h2 => ?_) (fun h2 => ?_)
      · exact nomatch h2
      · refine rn_aload_n (pc' := 32) rfl rfl rfl ?_
        refine rn_getV (N := 24) (t' := 0) (pc' := 35) rfl rfl rfl rfl (by decide) rfl (by first | assumption | decide | omega) ?_
        refine rn_topO hpE ?_
        refine rn_callV (pc' := 38) (as := []) rfl rfl rfl ⟨Nat.le_of_ble_eq_true rfl, rfl, rfl⟩ rfl (by first | assumption | decide | omega) (Nat.le_of_ble_eq_true rfl) (Nat.le_of_ble_eq_true rfl) rfl hw (fun r9 D9 hz9 => ?_)
        obtain ⟨rfl, hI, h149⟩ := hz9
        exact s3 _ hI
    rw [← hE] at s4
    show Rn _ 29 (0, [some (vR 9 0), some (vR 0 e), some (vI (nI s))], [], _) _
    refine rn_aload_n (pc' := 1) rfl rfl rfl ?_
    refine rn_getI (N := 24) (pc' := 4) rfl rfl rfl rfl (by decide) rfl (by first | assumption | decide | omega) ?_
    refine rn_iconst (pc' := 5) (v := 3) rfl rfl (by decide) ?_
    refine rn_ic_ne (t := 9) (pc' := 8) rfl rfl rfl (fun h2 => ?_) (fun h2 => ?_)
    · refine rn_aload_n (pc' := 10) rfl rfl rfl ?_
      refine rn_iconst (pc' := 11) (v := 3) rfl rfl (by decide) ?_
      refine rn_putI (N := 24) (pc' := 14) rfl rfl rfl rfl rfl (by first | assumption | decide | omega) ?_
      refine rn_aload_n (pc' := 15) rfl rfl rfl ?_
      refine rn_iload_n (pc' := 16) rfl rfl rfl ?_
      refine rn_putI (N := 24) (pc' := 19) rfl rfl rfl rfl rfl (by first | assumption | decide | omega) ?_
      refine rn_aload_n (pc' := 20) rfl rfl rfl ?_
      refine rn_iconst (pc' := 21) (v := 0) rfl rfl (by decide) ?_
      refine rn_putZ (N := 24) (pc' := 24) rfl rfl rfl rfl rfl (by first | assumption | decide | omega) (by decide) ?_
      exact s4
    · exact absurd (v3.symm.trans h2) h3
theorem c_happen {d n e s : Nat} {C R : xM} (h : Inv C R n) (he : e < 24) (hs : s < 21) (hl : 0 < R.1 25 0 e) (h4 : ¬ R.1 28 0 e = 4) (hn : ¬ R.1 25 0 e = 1 → n + 49 ≤ 1224) : Rn (d + 4) 28 (0, xen 28 [vR 9 0, vR 0 e, vI (nI s)], [], C) (fun r C' => r = none ∧ ∃ n', n' ≤ n + 49 ∧ ((s = 19 ∨ s = 20) → n' ≤ n + 1) ∧ Inv C' (f_happen R e s) n') := by
  have v0 : C.1 0 e 0 = R.1 25 0 e := f1 h.1.1 he (by decide)
  have vs : C.1 2 e s = rdoe R e s := h.1.2.2.1 e he s hs
  by_cases q1 : rdoe R e s = 1 ∨ nI s = 17 ∨ nI s = 18 ∨ rpid R e = 1
  · have ef : f_happen R e s = R := by unfold f_happen; rw [if_pos q1]
    rw [ef]
    show Rn _ 28 (0, [some (vR 9 0), some (vR 0 e), some (vI (nI s))], [], _) _
    refine rn_aload_n (pc' := 1) rfl rfl rfl ?_
    refine rn_getF (N := 24) (t' := 2) (pc' := 4) rfl rfl rfl rfl rfl (by first | assumption | decide | omega) ?_
    refine rn_iload_n (pc' := 5) rfl rfl rfl ?_
    refine rn_iald (N := 24) (K := 21) (pc' := 6) rfl rfl ⟨rfl, rfl⟩ rfl (by first | assumption | decide | omega) rfl (by decide) rfl (by first | assumption | decide | omega) ?_
    refine rn_iconst (pc' := 7) (v := 1) rfl rfl (by decide) ?_
    refine rn_ic_eq (t := 30) (pc' := 10) rfl rfl rfl (fun h1 => ?_) (fun h1 => ?_)
    · refine rn_return rfl rfl ?_
      exact ⟨rfl, n, by omega, fun _ => by omega, h⟩
    · refine rn_iload_n (pc' := 11) rfl rfl rfl ?_
      refine rn_bipush (pc' := 13) (v := 17) rfl rfl (by decide) ?_
      refine rn_ic_eq (t := 30) (pc' := 16) rfl rfl rfl (fun h2 => ?_) (fun h2 => ?_)
      · refine rn_return rfl rfl ?_
        exact ⟨rfl, n, by omega, fun _ => by omega, h⟩
      · refine rn_iload_n (pc' := 17) rfl rfl rfl ?_
        refine rn_bipush (pc' := 19) (v := 18) rfl rfl (by decide) ?_
        refine rn_ic_eq (t := 30) (pc' := 22) rfl rfl rfl (fun h3 => ?_) (fun h3 => ?_)
        · refine rn_return rfl rfl ?_
          exact ⟨rfl, n, by omega, fun _ => by omega, h⟩
        · refine rn_aload_n (pc' := 23) rfl rfl rfl ?_
          refine rn_getI (N := 24) (pc' := 26) rfl rfl rfl rfl (by decide) rfl (by first | assumption | decide | omega) ?_
          refine rn_iconst (pc' := 27) (v := 1) rfl rfl (by decide) ?_
          refine rn_ic_ne (t := 31) (pc' := 30) rfl rfl rfl (fun h5 => ?_) (fun h5 => ?_)
          · (rcases q1 with q | q | q | q; (· exact absurd (vs.trans q) h1); (· exact absurd q h2); (· exact absurd q h3); exact absurd (v0.trans q) h5)
          · refine rn_return rfl rfl ?_
            exact ⟨rfl, n, by omega, fun _ => by omega, h⟩
  · have n1 : ¬ C.1 2 e s = 1 := fun z => q1 (Or.inl (vs.symm.trans z))
    have n2 : ¬ nI s = 17 := fun z => q1 (Or.inr (Or.inl z))
    have n3 : ¬ nI s = 18 := fun z => q1 (Or.inr (Or.inr (Or.inl z)))
    have n4 : ¬ R.1 25 0 e = 1 := fun z => q1 (Or.inr (Or.inr (Or.inr z)))
    have hn := hn n4
    by_cases q2 : ¬ nI s = 19 ∧ ¬ nI s = 20
    · have ef : f_happen R e s = f_end R e (nI s) := by unfold f_happen; rw [if_neg q1, if_pos q2]
      rw [ef]
      show Rn _ 28 (0, [some (vR 9 0), some (vR 0 e), some (vI (nI s))], [], _) _
      refine rn_aload_n (pc' := 1) rfl rfl rfl ?_
      refine rn_getF (N := 24) (t' := 2) (pc' := 4) rfl rfl rfl rfl rfl (by first | assumption | decide | omega) ?_
      refine rn_iload_n (pc' := 5) rfl rfl rfl ?_
      refine rn_iald (N := 24) (K := 21) (pc' := 6) rfl rfl ⟨rfl, rfl⟩ rfl (by first | assumption | decide | omega) rfl (by decide) rfl (by first | assumption | decide | omega) ?_
      refine rn_iconst (pc' := 7) (v := 1) rfl rfl (by decide) ?_
      refine rn_ic_eq (t := 30) (pc' := 10) rfl rfl rfl (fun h1 => ?_) (fun h1 => ?_)
      · first | exact absurd h1 n1 | exact absurd h2 n2 | exact absurd h3 n3 | exact absurd (v0.symm.trans h5) n4
      · refine rn_iload_n (pc' := 11) rfl rfl rfl ?_
        refine rn_bipush (pc' := 13) (v := 17) rfl rfl (by decide) ?_
        refine rn_ic_eq (t := 30) (pc' := 16) rfl rfl rfl (fun h2 => ?_) (fun h2 => ?_)
        · first | exact absurd h1 n1 | exact absurd h2 n2 | exact absurd h3 n3 | exact absurd (v0.symm.trans h5) n4
        · refine rn_iload_n (pc' := 17) rfl rfl rfl ?_
          refine rn_bipush (pc' := 19) (v := 18) rfl rfl (by decide) ?_
          refine rn_ic_eq (t := 30) (pc' := 22) rfl rfl rfl (fun h3 => ?_) (fun h3 => ?_)
          · first | exact absurd h1 n1 | exact absurd h2 n2 | exact absurd h3 n3 | exact absurd (v0.symm.trans h5) n4
          · refine rn_aload_n (pc' := 23) rfl rfl rfl ?_
            refine rn_getI (N := 24) (pc' := 26) rfl rfl rfl rfl (by decide) rfl (by first | assumption | decide | omega) ?_
            refine rn_iconst (pc' := 27) (v := 1) rfl rfl (by decide) ?_
            refine rn_ic_ne (t := 31) (pc' := 30) rfl rfl rfl (fun h5 => ?_) (fun h5 => ?_)
            · refine rn_iload_n (pc' := 32) rfl rfl rfl ?_
              refine rn_bipush (pc' := 34) (v := 19) rfl rfl (by decide) ?_
              refine rn_ic_eq (t := 43) (pc' := 37) rfl rfl rfl (fun h6 => ?_) (fun h6 => ?_)
              · first | exact absurd h6 q2.1 | exact absurd h7 q2.2
              · refine rn_iload_n (pc' := 38) rfl rfl rfl ?_
                refine rn_bipush (pc' := 40) (v := 20) rfl rfl (by decide) ?_
                refine rn_ic_ne (t := 52) (pc' := 43) rfl rfl rfl (fun h7 => ?_) (fun h7 => ?_)
                · refine rn_aload_n (pc' := 53) rfl rfl rfl ?_
                  refine rn_aload_n (pc' := 54) rfl rfl rfl ?_
                  refine rn_iload_n (pc' := 55) rfl rfl rfl ?_
                  refine rn_callV (pc' := 58) (as := [_, _]) rfl rfl rfl ⟨Nat.le_of_ble_eq_true rfl, rfl, rfl⟩ rfl (by first | assumption | decide | omega) (Nat.le_of_ble_eq_true rfl) (Nat.le_of_ble_eq_true rfl) rfl (c_end (d := d) (nI s) h he hl (fun _ => hn)) (fun r9 D9 hz9 => ?_)
                  obtain ⟨rfl, n', hb, hI⟩ := hz9
                  refine rn_return rfl rfl ?_
                  exact ⟨rfl, n', hb, fun z => (by rcases z with z | z <;> (subst z; exact absurd q2 (by decide))), hI⟩
                · first | exact absurd h6 q2.1 | exact absurd h7 q2.2
            · first | exact absurd h1 n1 | exact absurd h2 n2 | exact absurd h3 n3 | exact absurd (v0.symm.trans h5) n4
    · have ef : f_happen R e s = if rste R e = 3 then R else f_stop R e s := by unfold f_happen; rw [if_neg q1, if_neg q2]
      rw [ef]
      show Rn _ 28 (0, [some (vR 9 0), some (vR 0 e), some (vI (nI s))], [], _) _
      refine rn_aload_n (pc' := 1) rfl rfl rfl ?_
      refine rn_getF (N := 24) (t' := 2) (pc' := 4) rfl rfl rfl rfl rfl (by first | assumption | decide | omega) ?_
      refine rn_iload_n (pc' := 5) rfl rfl rfl ?_
      refine rn_iald (N := 24) (K := 21) (pc' := 6) rfl rfl ⟨rfl, rfl⟩ rfl (by first | assumption | decide | omega) rfl (by decide) rfl (by first | assumption | decide | omega) ?_
      refine rn_iconst (pc' := 7) (v := 1) rfl rfl (by decide) ?_
      refine rn_ic_eq (t := 30) (pc' := 10) rfl rfl rfl (fun h1 => ?_) (fun h1 => ?_)
      · first | exact absurd h1 n1 | exact absurd h2 n2 | exact absurd h3 n3 | exact absurd (v0.symm.trans h5) n4
      · refine rn_iload_n (pc' := 11) rfl rfl rfl ?_
        refine rn_bipush (pc' := 13) (v := 17) rfl rfl (by decide) ?_
        refine rn_ic_eq (t := 30) (pc' := 16) rfl rfl rfl (fun h2 => ?_) (fun h2 => ?_)
        · first | exact absurd h1 n1 | exact absurd h2 n2 | exact absurd h3 n3 | exact absurd (v0.symm.trans h5) n4
        · refine rn_iload_n (pc' := 17) rfl rfl rfl ?_
          refine rn_bipush (pc' := 19) (v := 18) rfl rfl (by decide) ?_
          refine rn_ic_eq (t := 30) (pc' := 22) rfl rfl rfl (fun h3 => ?_) (fun h3 => ?_)
          · first | exact absurd h1 n1 | exact absurd h2 n2 | exact absurd h3 n3 | exact absurd (v0.symm.trans h5) n4
          · refine rn_aload_n (pc' := 23) rfl rfl rfl ?_
            refine rn_getI (N := 24) (pc' := 26) rfl rfl rfl rfl (by decide) rfl (by first | assumption | decide | omega) ?_
            refine rn_iconst (pc' := 27) (v := 1) rfl rfl (by decide) ?_
            refine rn_ic_ne (t := 31) (pc' := 30) rfl rfl rfl (fun h5 => ?_) (fun h5 => ?_)
            · refine rn_iload_n (pc' := 32) rfl rfl rfl ?_
              refine rn_bipush (pc' := 34) (v := 19) rfl rfl (by decide) ?_
              refine rn_ic_eq (t := 43) (pc' := 37) rfl rfl rfl (fun h6 => ?_) (fun h6 => ?_)
              · refine rn_aload_n (pc' := 44) rfl rfl rfl ?_
                refine rn_aload_n (pc' := 45) rfl rfl rfl ?_
                refine rn_iload_n (pc' := 46) rfl rfl rfl ?_
                refine rn_callV (pc' := 49) (as := [_, _]) rfl rfl rfl ⟨Nat.le_of_ble_eq_true rfl, rfl, rfl⟩ rfl (by first | assumption | decide | omega) (Nat.le_of_ble_eq_true rfl) (Nat.le_of_ble_eq_true rfl) rfl (c_stop (d := d + 2) h he hl n4 h4 (by omega)) (fun r9 D9 hz9 => ?_)
                obtain ⟨rfl, n', hb, hI⟩ := hz9
                refine rn_goto (pc' := 58) rfl rfl ?_
                refine rn_return rfl rfl ?_
                exact ⟨rfl, n', by omega, fun _ => hb, hI⟩
              · refine rn_iload_n (pc' := 38) rfl rfl rfl ?_
                refine rn_bipush (pc' := 40) (v := 20) rfl rfl (by decide) ?_
                refine rn_ic_ne (t := 52) (pc' := 43) rfl rfl rfl (fun h7 => ?_) (fun h7 => ?_)
                · exact absurd ⟨h6, h7⟩ q2
                · refine rn_aload_n (pc' := 44) rfl rfl rfl ?_
                  refine rn_aload_n (pc' := 45) rfl rfl rfl ?_
                  refine rn_iload_n (pc' := 46) rfl rfl rfl ?_
                  refine rn_callV (pc' := 49) (as := [_, _]) rfl rfl rfl ⟨Nat.le_of_ble_eq_true rfl, rfl, rfl⟩ rfl (by first | assumption | decide | omega) (Nat.le_of_ble_eq_true rfl) (Nat.le_of_ble_eq_true rfl) rfl (c_stop (d := d + 2) h he hl n4 h4 (by omega)) (fun r9 D9 hz9 => ?_)
                  obtain ⟨rfl, n', hb, hI⟩ := hz9
                  refine rn_goto (pc' := 58) rfl rfl ?_
                  refine rn_return rfl rfl ?_
                  exact ⟨rfl, n', by omega, fun _ => hb, hI⟩
            · first | exact absurd h1 n1 | exact absurd h2 n2 | exact absurd h3 n3 | exact absurd (v0.symm.trans h5) n4
