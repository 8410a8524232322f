def Same (jc jr : Nat) (as : List xV) (t : Nat) (C R : xM) : Prop := ∃ v F t', t' ≤ t + 200 ∧ Rn 6 jr (0, xen jr (vR 20 0 :: as), [], R) (fun r M' => r = some (vI v) ∧ M' = F) ∧ Rn 7 jc (0, xen jc (vR 9 0 :: as), [], C) (fun r C' => r = some (vI v) ∧ GI t' C' F)
theorem Same.q {jc jr : Nat} {as : List xV} {t : Nat} {C R : xM} {v : Int32} (h : GI t C R) (k1 : Rn 6 jr (0, xen jr (vR 20 0 :: as), [], R) (fun r M' => r = some (vI v) ∧ M' = R)) (k2 : Rn 7 jc (0, xen jc (vR 9 0 :: as), [], C) (fun r C' => r = some (vI v) ∧ C' = C)) : Same jc jr as t C R :=
  ⟨v, R, t, by omega, k1, k2.imp (fun r C' hz => ⟨hz.1, by rw [hz.2]; exact h⟩)⟩
theorem Rn.uni {d j : Nat} {c : xC} {v v' : Int32} {F F' : xM} (h : Rn d j c (fun r M' => r = some (vI v) ∧ M' = F)) (k : Rn d j c (fun r M' => r = some (vI v') ∧ M' = F')) : v' = v ∧ F' = F := by
  obtain ⟨n1, r1, M1, q1, q2, q3⟩ := h
  obtain ⟨n2, r2, M2, k1, k2, k3⟩ := k
  have a1 := xr_le (n' := max n1 n2) (by omega) q1
  have a2 := xr_le (n' := max n1 n2) (by omega) k1
  rw [a1] at a2
  cases a2
  rw [q2] at k2
  cases k2
  exact ⟨rfl, k3.symm.trans q3⟩
theorem tick_loop : ∀ (m i n c t : Nat) (C R : xM), i + m = n → n ≤ 200 → c ≤ i → t + m < 2 ^ 30 → GI t C R → ∃ v F, (∀ x4, Rn 6 87 (20, [some (vR 20 0), some (vI (nI n)), some (vI (nI c)), some (vI (nI i)), x4], [], R) (fun r M' => r = some (vI v) ∧ M' = F)) ∧ ∀ x4, Rn 7 13 (19, [some (vR 9 0), some (vI (nI n)), some (vI (nI c)), some (vI (nI i)), x4], [], C) (fun r C' => r = some (vI v) ∧ GI (t + m) C' F) := by
  intro m
  induction m with
  | zero =>
    intro i n c t C R hi hn hc ht h
    refine ⟨nI c, R, fun x4 => r_tickE R (nI c) x4 (by omega) (by omega) (by omega), fun x4 => ?_⟩
    have hlt : ¬ nI i < nI n := fun q => absurd ((nI_ltI (by omega) (by omega)).mp q) (by omega)
    refine rn_iload_n (pc' := 20) rfl rfl rfl ?_
    refine rn_iload_n (pc' := 21) rfl rfl rfl ?_
    refine rn_ic_ge (t := 84) (pc' := 24) rfl rfl rfl (fun h1 => ?_) (fun h1 => ?_)
    · refine rn_iload_n (pc' := 85) rfl rfl rfl ?_
      refine rn_ireturn rfl rfl ?_
      exact ⟨rfl, h⟩
    · exact absurd h1 hlt
  | succ m ih =>
    intro i n c t C R hi hn hc ht h
    obtain ⟨w, N2, N3, N4, hw, t1, t2, t3, t4⟩ := tick1 (d := 0) h (by omega)
    have hw01 : nI w = 0 ∨ nI w = 1 := by
      rcases (show w = 0 ∨ w = 1 by omega) with rfl | rfl
      · exact Or.inl rfl
      · exact Or.inr rfl
    obtain ⟨C4, hC4⟩ : ∃ C4, GI (t + 1) C4 N4 := by
      have := t4 (fun _ M => ∃ C', GI (t + 1) C' N4) (nI 1) 0 0 none (by decide) (fun C' x4 hG => by
        have n1 : ¬ nI (0 + 1) < nI 1 := by decide
        refine rn_iload_n (pc' := 20) rfl rfl rfl ?_
        refine rn_iload_n (pc' := 21) rfl rfl rfl ?_
        refine rn_ic_ge (t := 84) (pc' := 24) rfl rfl rfl (fun h1 => ?_) (fun h1 => ?_)
        · refine rn_iload_n (pc' := 85) rfl rfl rfl ?_
          refine rn_ireturn rfl rfl ?_
          exact ⟨C', hG⟩
        · exact absurd h1 n1
        )
      obtain ⟨r, M, hz⟩ := this.ex
      exact hz
    obtain ⟨v, F, q1, q2⟩ := ih (i + 1) n (c + w) (t + 1) C4 N4 (by omega) hn (by omega) (by omega) hC4
    refine ⟨v, F, fun x4 => ?_, fun x4 => ?_⟩
    · refine r_tickS (d := 5) (r0 := 0) R N2 N3 N4 (nI c) (nI w) x4 _ (by omega) (by omega) h.1.2.1.2.1 (by omega) hw01 t1 t2 t3 (fun x4 => ?_)
      rw [nI_add]
      exact q1 x4
    · have hlt : nI i < nI n := (nI_ltI (by omega) (by omega)).mpr (by omega)
      refine t4 _ (nI n) c i x4 hlt (fun C' x4 hG => ?_)
      obtain ⟨v', F', q1', q2'⟩ := ih (i + 1) n (c + w) (t + 1) C' N4 (by omega) hn (by omega) (by omega) hG
      obtain ⟨e1, e2⟩ := Rn.uni (q1 none) (q1' none)
      rw [e1, e2, show t + 1 + m = t + (m + 1) by omega] at q2'
      exact q2' x4
theorem same_tick {t : Nat} {C R : xM} (n : Int32) (h : GI t C R) (ht : t + 200 < 2 ^ 30) : Same 13 87 [vI n] t C R := by
  have e0 : (0 : Int32).toInt = 0 := by decide
  have e2 : (200 : Int32).toInt = 200 := by decide
  rcases in_cases n 0 200 0 200 (by decide) (by decide) with ⟨h1, h2⟩ | ⟨k, -, k2, rfl, k3, k4⟩
  · refine Same.q h (r_tickO R n h1) ?_
    show Rn _ 13 (0, [some (vR 9 0), some (vI n), none, none, none], [], _) _
    refine rn_iload_n (pc' := 1) rfl rfl rfl ?_
    refine rn_if_lt (t := 11) (pc' := 4) rfl rfl rfl (fun hb1 => ?_) (fun hb1 => ?_)
    · refine rn_sipush (pc' := 14) (v := (-1002)) rfl rfl (by decide) ?_
      refine rn_ireturn rfl rfl ?_
      exact ⟨rfl, rfl⟩
    · refine rn_iload_n (pc' := 5) rfl rfl rfl ?_
      refine rn_sipush (pc' := 8) (v := 200) rfl rfl (by decide) ?_
      refine rn_ic_le (t := 15) (pc' := 11) rfl rfl rfl (fun hb2 => ?_) (fun hb2 => ?_)
      · exact absurd h2 (by rw [Int32.lt_iff_toInt_lt] at hb1 hb2; omega)
      · refine rn_sipush (pc' := 14) (v := (-1002)) rfl rfl (by decide) ?_
        refine rn_ireturn rfl rfl ?_
        exact ⟨rfl, rfl⟩
  · obtain ⟨v, F, q1, q2⟩ := tick_loop k 0 k 0 t C R (by omega) k2 (by omega) (by omega) h
    refine ⟨v, F, t + k, by omega, r_tick0 R (nI k) _ k4 (q1 none), ?_⟩
    have q2 := q2 none
    have n0 := nI_pos (n := k) (by omega)
    have n2 : ¬ (200 : Int32) < nI k := fun q => absurd ((nI_ltI (a := 200) (b := k) (by decide) (by omega)).mp q) (by omega)
    show Rn _ 13 (0, [some (vR 9 0), some (vI (nI k)), none, none, none], [], _) _
    refine rn_iload_n (pc' := 1) rfl rfl rfl ?_
    refine rn_if_lt (t := 11) (pc' := 4) rfl rfl rfl (fun hb1 => ?_) (fun hb1 => ?_)
    · first | exact absurd hb1 n0 | exact absurd hb2 n2
    · refine rn_iload_n (pc' := 5) rfl rfl rfl ?_
      refine rn_sipush (pc' := 8) (v := 200) rfl rfl (by decide) ?_
      refine rn_ic_le (t := 15) (pc' := 11) rfl rfl rfl (fun hb2 => ?_) (fun hb2 => ?_)
      · refine rn_iconst (pc' := 16) (v := 0) rfl rfl (by decide) ?_
        refine rn_istore_n (pc' := 17) rfl rfl rfl (Nat.le_of_ble_eq_true rfl) rfl ?_
        refine rn_iconst (pc' := 18) (v := 0) rfl rfl (by decide) ?_
        refine rn_istore_n (pc' := 19) rfl rfl rfl (Nat.le_of_ble_eq_true rfl) rfl ?_
        exact q2
      · first | exact absurd hb1 n0 | exact absurd hb2 n2
theorem eo_live {R : xM} {p : Int32} {e : Nat} (he : eo R p = some e) : 0 < R.1 25 0 e := by
  obtain ⟨q1, q2, q3⟩ := eoF_some he
  rw [show R.1 25 0 e = p from q3]
  exact q2
theorem same_kill {t : Nat} {C R : xM} (p s : Int32) (h : GI t C R) : Same 14 99 [vI p, vI s] t C R := by
  obtain ⟨hI, h30, hT⟩ := id h
  have hf := c_find (d := 6) p hI.1.1 hI.2.2.2.1
  cases he : eo R p with
  | none =>
    refine Same.q h (r_killU R p s he) ?_
    rw [he] at hf
    show Rn _ 14 (0, [some (vR 9 0), some (vI p), some (vI s), none], [], _) _
    refine rn_aload_n (pc' := 1) rfl rfl rfl ?_
    refine rn_iload_n (pc' := 2) rfl rfl rfl ?_
    refine rn_callV (pc' := 5) (as := [_]) rfl rfl rfl ⟨Nat.le_of_ble_eq_true rfl, rfl, rfl⟩ rfl (by first | assumption | decide | omega) (Nat.le_of_ble_eq_true rfl) (Nat.le_of_ble_eq_true rfl) rfl hf (fun r1 M1 hz => ?_)
    obtain ⟨rfl, hm_⟩ := hz
    refine rn_mem hm_ ?_
    clear hm_
    refine rn_astore_n (pc' := 6) rfl rfl rfl (Nat.le_of_ble_eq_true rfl) rfl ?_
    refine rn_aload_n (pc' := 7) rfl rfl rfl ?_
    refine rn_ifnonnull (t := 14) (pc' := 10) rfl rfl rfl (fun h1 => ?_) (fun h1 => ?_)
    · exact absurd rfl h1
    · refine rn_sipush (pc' := 13) (v := (-1001)) rfl rfl (by decide) ?_
      refine rn_ireturn rfl rfl ?_
      exact ⟨rfl, rfl⟩
  | some e =>
    have e24 := eo_lt he
    have hl := eo_live he
    rw [he] at hf
    have hsg := c_isSignal (d := 6) (C := C) s
    by_cases hs : isS1 s
    · obtain ⟨k, k1, k2, rfl⟩ := isS1_n hs
      rw [decide_eq_true ((isS1_iff _).mp hs)] at hsg
      have hsd := c_send (d := 6) hI (by omega) e24 hl k1 k2
      obtain ⟨r1, C1, -, i1, -⟩ := hsd.ex
      have hT' : Tm t t (f_send R e (nI k)) := hT.calm (Calm.send R e (nI k))
      have i1 : Inv C1 (f_send R e (nI k)) 1 := i1
      have hP : Pt (f_send R e (nI k)) 1 1 1 := by
        have := Pt_of i1 (by omega)
        exact ⟨this.1, this.2.1, by have := this.2.2; omega⟩
      have row := r_rowOk (d := 0) i1 h30 hP hT' none none
      have crow : ∀ D, Inv D (f_send R e (nI k)) 1 → Rn 6 25 (0, xen 25 [vR 9 0], [], D) (fun r C' => r = none ∧ GI t C' (f_rw (f_send R e (nI k)))) := fun D hD => (c_deliverRow (d := 0) hD h30 hP hT').imp (fun r C' hz => ⟨hz.1, hz.2.1, hz.2.2.2, hz.2.2.1⟩)
      refine ⟨1, f_rw (f_send R e (nI k)), t, by omega, r_killOut R _ p (nI k) he hs hI.2.1.2.1 (by omega) row, ?_⟩
      show Rn _ 14 (0, [some (vR 9 0), some (vI p), some (vI (nI k)), none], [], _) _
      refine rn_aload_n (pc' := 1) rfl rfl rfl ?_
      refine rn_iload_n (pc' := 2) rfl rfl rfl ?_
      refine rn_callV (pc' := 5) (as := [_]) rfl rfl rfl ⟨Nat.le_of_ble_eq_true rfl, rfl, rfl⟩ rfl (by first | assumption | decide | omega) (Nat.le_of_ble_eq_true rfl) (Nat.le_of_ble_eq_true rfl) rfl hf (fun r1 M1 hz => ?_)
      obtain ⟨rfl, hm_⟩ := hz
      refine rn_mem hm_ ?_
      clear hm_
      refine rn_astore_n (pc' := 6) rfl rfl rfl (Nat.le_of_ble_eq_true rfl) rfl ?_
      refine rn_aload_n (pc' := 7) rfl rfl rfl ?_
      refine rn_ifnonnull (t := 14) (pc' := 10) rfl rfl rfl (fun h1 => ?_) (fun h1 => ?_)
      · refine rn_iload_n (pc' := 15) rfl rfl rfl ?_
        refine rn_callS (pc' := 18) (as := [_]) rfl rfl rfl ⟨rfl, rfl, rfl⟩ (Nat.le_of_ble_eq_true rfl) (Nat.le_of_ble_eq_true rfl) rfl hsg (fun r3 M3 hz => ?_)
        obtain ⟨rfl, hm_⟩ := hz
        refine rn_mem hm_ ?_
        clear hm_
        refine rn_if_ne (t := 25) (pc' := 21) rfl rfl rfl (fun h2 => ?_) (fun h2 => ?_)
        · refine rn_aload_n (pc' := 26) rfl rfl rfl ?_
          refine rn_aload_n (pc' := 27) rfl rfl rfl ?_
          refine rn_iload_n (pc' := 28) rfl rfl rfl ?_
          refine rn_callV (pc' := 31) (as := [_, _]) rfl rfl rfl ⟨Nat.le_of_ble_eq_true rfl, rfl, rfl⟩ rfl (by first | assumption | decide | omega) (Nat.le_of_ble_eq_true rfl) (Nat.le_of_ble_eq_true rfl) rfl hsd (fun r9 D9 hz9 => ?_)
          obtain ⟨rfl, kk, -⟩ := hz9
          refine rn_aload_n (pc' := 32) rfl rfl rfl ?_
          refine rn_callV (pc' := 35) (as := []) rfl rfl rfl ⟨Nat.le_of_ble_eq_true rfl, rfl, rfl⟩ rfl (by first | assumption | decide | omega) (Nat.le_of_ble_eq_true rfl) (Nat.le_of_ble_eq_true rfl) rfl (crow D9 kk) (fun r8 D8 hz8 => ?_)
          obtain ⟨rfl, kg⟩ := hz8
          refine rn_iconst (pc' := 36) (v := 1) rfl rfl (by decide) ?_
          refine rn_ireturn rfl rfl ?_
          exact ⟨rfl, kg⟩
        · exact absurd h2 (by decide)
      · exact nomatch h1
    · rw [decide_eq_false (fun z => hs ((isS1_iff s).mpr z))] at hsg
      refine Same.q h (r_killO R p s he hs) ?_
      show Rn _ 14 (0, [some (vR 9 0), some (vI p), some (vI s), none], [], _) _
      refine rn_aload_n (pc' := 1) rfl rfl rfl ?_
      refine rn_iload_n (pc' := 2) rfl rfl rfl ?_
      refine rn_callV (pc' := 5) (as := [_]) rfl rfl rfl ⟨Nat.le_of_ble_eq_true rfl, rfl, rfl⟩ rfl (by first | assumption | decide | omega) (Nat.le_of_ble_eq_true rfl) (Nat.le_of_ble_eq_true rfl) rfl hf (fun r1 M1 hz => ?_)
      obtain ⟨rfl, hm_⟩ := hz
      refine rn_mem hm_ ?_
      clear hm_
      refine rn_astore_n (pc' := 6) rfl rfl rfl (Nat.le_of_ble_eq_true rfl) rfl ?_
      refine rn_aload_n (pc' := 7) rfl rfl rfl ?_
      refine rn_ifnonnull (t := 14) (pc' := 10) rfl rfl rfl (fun h1 => ?_) (fun h1 => ?_)
      · refine rn_iload_n (pc' := 15) rfl rfl rfl ?_
        refine rn_callS (pc' := 18) (as := [_]) rfl rfl rfl ⟨rfl, rfl, rfl⟩ (Nat.le_of_ble_eq_true rfl) (Nat.le_of_ble_eq_true rfl) rfl hsg (fun r3 M3 hz => ?_)
        obtain ⟨rfl, hm_⟩ := hz
        refine rn_mem hm_ ?_
        clear hm_
        refine rn_if_ne (t := 25) (pc' := 21) rfl rfl rfl (fun h2 => ?_) (fun h2 => ?_)
        · exact absurd rfl h2
        · refine rn_sipush (pc' := 24) (v := (-1002)) rfl rfl (by decide) ?_
          refine rn_ireturn rfl rfl ?_
          exact ⟨rfl, rfl⟩
      · exact nomatch h1
theorem fa_21 {R : xM} {k m : Nat} {op a b : Int32} (hm : R.1 21 0 k = nI m) (p : Nat) : (f_act R k m op a b).1 21 0 p = if p = k then nI (m + 1) else R.1 21 0 p := by
  show (if (21 : Nat) = 21 ∧ (0 : Nat) = 0 ∧ p = k then R.1 21 0 k + 1 else R.1 21 0 p) = _
  by_cases hp : p = k
  · rw [if_pos ⟨rfl, rfl, hp⟩, if_pos hp, hm]; exact nI_1 m
  · rw [if_neg (fun z => hp z.2.2), if_neg hp]
def acC (C : xM) (k m : Nat) (op a b : Int32) : xM := mI (mI (mI (mI C 6 k m op) 7 k m a) 8 k m b) 5 k 3 (nI (m + 1))
theorem ac_5 {C : xM} {k m : Nat} {op a b : Int32} (p : Nat) : (acC C k m op a b).1 5 p 3 = if p = k then nI (m + 1) else C.1 5 p 3 := by
  show (if (5 : Nat) = 5 ∧ p = k ∧ (3 : Nat) = 3 then nI (m + 1) else C.1 5 p 3) = _
  by_cases hp : p = k
  · rw [if_pos ⟨rfl, hp, rfl⟩, if_pos hp]
  · rw [if_neg (fun z => hp z.2.1), if_neg hp]
theorem ite_ix {C : Int32} {R : Int32} {v : Int32} {p k i m : Nat} (hi : i < 60) (hm : m < 60) (h : C = R) : (if p = k ∧ i = m then v else C) = if 60 * p + i = 60 * k + m then v else R := by
  by_cases hq : p = k ∧ i = m
  · rw [if_pos hq, if_pos (by omega)]
  · rw [if_neg hq, if_neg (by omega), h]
theorem Inv_act {C R : xM} {n k m : Nat} {op a b : Int32} (h : Inv C R n) (hm : R.1 21 0 k = nI m) (h60 : m < 60) : Inv (acC C k m op a b) (f_act R k m op a b) n := by
  obtain ⟨⟨a1, a2, a3, a4, a5, a6, a7, a8, a9, a10, a11, a12⟩, a13, b1, b2, b3, b4, b5, b7, b9, b10, b11, b14⟩ := h
  refine ⟨⟨a1, a2, a3, a4, a5, a6, a7, a8, a9, a10, a11, ?_⟩, a13, b1, b2, b3, b4, b5, b7, b9, b10, b11, ?_, b14.2⟩
  · intro p hp
    obtain ⟨q1, q2⟩ := a12 p hp
    refine ⟨?_, fun i hi => ?_⟩
    · rw [ac_5, fa_21 hm, q1]
    · obtain ⟨r1, r2, r3⟩ := q2 i hi
      refine ⟨?_, ?_, ?_⟩
      · have c1 : (acC C k m op a b).1 6 p i = if p = k ∧ i = m then op else C.1 6 p i := by simp [acC, mI, xu]
        have c2 : (f_act R k m op a b).1 22 0 (60 * p + i) = if 60 * p + i = 60 * k + m then op else R.1 22 0 (60 * p + i) := by simp [f_act, mI, xu]
        rw [c1, c2]; exact ite_ix hi h60 r1
      · have c1 : (acC C k m op a b).1 7 p i = if p = k ∧ i = m then a else C.1 7 p i := by simp [acC, mI, xu]
        have c2 : (f_act R k m op a b).1 23 0 (60 * p + i) = if 60 * p + i = 60 * k + m then a else R.1 23 0 (60 * p + i) := by simp [f_act, mI, xu]
        rw [c1, c2]; exact ite_ix hi h60 r2
      · have c1 : (acC C k m op a b).1 8 p i = if p = k ∧ i = m then b else C.1 8 p i := by simp [acC, mI, xu]
        have c2 : (f_act R k m op a b).1 24 0 (60 * p + i) = if 60 * p + i = 60 * k + m then b else R.1 24 0 (60 * p + i) := by simp [f_act, mI, xu]
        rw [c1, c2]; exact ite_ix hi h60 r3
  · intro p hp
    rw [fa_21 hm]
    split
    · exact ⟨m + 1, by omega, rfl⟩
    · exact b14.1 p hp
theorem same_act {t : Nat} {C R : xM} (p op a b : Int32) (h : GI t C R) : Same 9 70 [vI p, vI op, vI a, vI b] t C R := by
  obtain ⟨hI, h30, hT⟩ := id h
  have hq := c_isProgram (d := 6) (C := C) p
  by_cases hp : isPr p
  · obtain ⟨k, hk, rfl⟩ := isPr_n hp
    rw [decide_eq_true ((isPr_iff _).mp hp)] at hq
    obtain ⟨m, hm60, hm⟩ := hI.2.2.2.2.2.2.2.2.2.2.2.1 k hk
    have v3 : C.1 5 k 3 = nI m := (hI.1.2.2.2.2.2.2.2.2.2.2.2 k hk).1.trans hm
    by_cases h60 : m < 60
    · refine ⟨nI (m + 1), f_act R k m op a b, t, by omega, r_actY R op a b hp hk hm h60, ?_⟩
      have hlt : C.1 5 k 3 < 60 := by rw [v3]; exact (nI_ltI (a := m) (b := 60) (by omega) (by decide)).mpr h60
      have e1 : C.1 5 k 3 + 1 = nI (m + 1) := by rw [v3]; exact nI_1 m
      have hG : GI t (acC C k m op a b) (f_act R k m op a b) := ⟨Inv_act hI hm h60, h30, hT⟩
      have e5 : (mI (mI (mI (mI C 6 k m op) 7 k m a) 8 k m b) 5 k 3 (nI (m + 1))).1 5 k 3 = nI (m + 1) := by
        have := ac_5 (C := C) (k := k) (m := m) (op := op) (a := a) (b := b) k
        rw [if_pos rfl] at this
        exact this
      show Rn _ 9 (0, [some (vR 9 0), some (vI (nI k)), some (vI op), some (vI a), some (vI b), none], [], _) _
      refine rn_iload_n (pc' := 1) rfl rfl rfl ?_
      refine rn_callS (pc' := 4) (as := [_]) rfl rfl rfl ⟨rfl, rfl, rfl⟩ (Nat.le_of_ble_eq_true rfl) (Nat.le_of_ble_eq_true rfl) rfl hq (fun r1 M1 hz => ?_)
      obtain ⟨rfl, hm_⟩ := hz
      refine rn_mem hm_ ?_
      clear hm_
      refine rn_if_ne (t := 11) (pc' := 7) rfl rfl rfl (fun h1 => ?_) (fun h1 => ?_)
      · refine rn_aload_n (pc' := 12) rfl rfl rfl ?_
        refine rn_getF (N := 1) (t' := 10) (pc' := 15) rfl rfl rfl rfl rfl (by first | assumption | decide | omega) ?_
        refine rn_iload_n (pc' := 16) rfl rfl rfl ?_
        refine rn_aaldF (t' := 5) (N := 1) (K := 16) (pc' := 17) rfl rfl rfl rfl rfl (by first | assumption | decide | omega) rfl (by decide) rfl (by first | assumption | decide | omega) ?_
        refine rn_astore (pc' := 19) rfl rfl rfl (Nat.le_of_ble_eq_true rfl) rfl ?_
        refine rn_aload (pc' := 21) rfl rfl rfl ?_
        refine rn_getI (N := 16) (pc' := 24) rfl rfl rfl rfl (by decide) rfl (by first | assumption | decide | omega) ?_
        refine rn_bipush (pc' := 26) (v := 60) rfl rfl (by decide) ?_
        refine rn_ic_lt (t := 33) (pc' := 29) rfl rfl rfl (fun h2 => ?_) (fun h2 => ?_)
        · refine rn_aload (pc' := 35) rfl rfl rfl ?_
          refine rn_getF (N := 16) (t' := 6) (pc' := 38) rfl rfl rfl rfl rfl (by first | assumption | decide | omega) ?_
          refine rn_aload (pc' := 40) rfl rfl rfl ?_
          refine rn_getI (N := 16) (pc' := 43) rfl rfl rfl rfl (by decide) rfl (by first | assumption | decide | omega) ?_
          refine rn_iload_n (pc' := 44) rfl rfl rfl ?_
          refine rn_iast (k := m) (N := 16) (K := 60) (pc' := 45) rfl rfl ⟨rfl, rfl⟩ rfl (by first | assumption | decide | omega) rfl (by decide) (v3) (by first | assumption | decide | omega) ?_
          refine rn_aload (pc' := 47) rfl rfl rfl ?_
          refine rn_getF (N := 16) (t' := 7) (pc' := 50) rfl rfl rfl rfl rfl (by first | assumption | decide | omega) ?_
          refine rn_aload (pc' := 52) rfl rfl rfl ?_
          refine rn_getI (N := 16) (pc' := 55) rfl rfl rfl rfl (by decide) rfl (by first | assumption | decide | omega) ?_
          refine rn_iload_n (pc' := 56) rfl rfl rfl ?_
          refine rn_iast (k := m) (N := 16) (K := 60) (pc' := 57) rfl rfl ⟨rfl, rfl⟩ rfl (by first | assumption | decide | omega) rfl (by decide) (v3) (by first | assumption | decide | omega) ?_
          refine rn_aload (pc' := 59) rfl rfl rfl ?_
          refine rn_getF (N := 16) (t' := 8) (pc' := 62) rfl rfl rfl rfl rfl (by first | assumption | decide | omega) ?_
          refine rn_aload (pc' := 64) rfl rfl rfl ?_
          refine rn_getI (N := 16) (pc' := 67) rfl rfl rfl rfl (by decide) rfl (by first | assumption | decide | omega) ?_
          refine rn_iload (pc' := 69) rfl rfl rfl ?_
          refine rn_iast (k := m) (N := 16) (K := 60) (pc' := 70) rfl rfl ⟨rfl, rfl⟩ rfl (by first | assumption | decide | omega) rfl (by decide) (v3) (by first | assumption | decide | omega) ?_
          refine rn_aload (pc' := 72) rfl rfl rfl ?_
          refine rn_dupA (pc' := 73) rfl rfl ?_
          refine rn_getI (N := 16) (pc' := 76) rfl rfl rfl rfl (by decide) rfl (by first | assumption | decide | omega) ?_
          refine rn_iconst (pc' := 77) (v := 1) rfl rfl (by decide) ?_
          refine rn_iadd (pc' := 78) rfl rfl ?_
          refine rn_topI (y := nI (m + 1)) e1 ?_
          refine rn_putI (N := 16) (pc' := 81) rfl rfl rfl rfl rfl (by first | assumption | decide | omega) ?_
          refine rn_aload (pc' := 83) rfl rfl rfl ?_
          refine rn_getI (N := 16) (pc' := 86) rfl rfl rfl rfl (by decide) rfl (by first | assumption | decide | omega) ?_
          refine rn_topI e5 ?_
          refine rn_ireturn rfl rfl ?_
          exact ⟨rfl, hG⟩
        · exact absurd hlt h2
      · exact absurd h1 (by decide)
    · have h6 : m = 60 := by omega
      subst h6
      refine Same.q h (r_actF R op a b hp hk hm) ?_
      have hlt : ¬ C.1 5 k 3 < 60 := by rw [v3]; decide
      show Rn _ 9 (0, [some (vR 9 0), some (vI (nI k)), some (vI op), some (vI a), some (vI b), none], [], _) _
      refine rn_iload_n (pc' := 1) rfl rfl rfl ?_
      refine rn_callS (pc' := 4) (as := [_]) rfl rfl rfl ⟨rfl, rfl, rfl⟩ (Nat.le_of_ble_eq_true rfl) (Nat.le_of_ble_eq_true rfl) rfl hq (fun r1 M1 hz => ?_)
      obtain ⟨rfl, hm_⟩ := hz
      refine rn_mem hm_ ?_
      clear hm_
      refine rn_if_ne (t := 11) (pc' := 7) rfl rfl rfl (fun h1 => ?_) (fun h1 => ?_)
      · refine rn_aload_n (pc' := 12) rfl rfl rfl ?_
        refine rn_getF (N := 1) (t' := 10) (pc' := 15) rfl rfl rfl rfl rfl (by first | assumption | decide | omega) ?_
        refine rn_iload_n (pc' := 16) rfl rfl rfl ?_
        refine rn_aaldF (t' := 5) (N := 1) (K := 16) (pc' := 17) rfl rfl rfl rfl rfl (by first | assumption | decide | omega) rfl (by decide) rfl (by first | assumption | decide | omega) ?_
        refine rn_astore (pc' := 19) rfl rfl rfl (Nat.le_of_ble_eq_true rfl) rfl ?_
        refine rn_aload (pc' := 21) rfl rfl rfl ?_
        refine rn_getI (N := 16) (pc' := 24) rfl rfl rfl rfl (by decide) rfl (by first | assumption | decide | omega) ?_
        refine rn_bipush (pc' := 26) (v := 60) rfl rfl (by decide) ?_
        refine rn_ic_lt (t := 33) (pc' := 29) rfl rfl rfl (fun h2 => ?_) (fun h2 => ?_)
        · exact absurd h2 hlt
        · refine rn_sipush (pc' := 32) (v := (-1004)) rfl rfl (by decide) ?_
          refine rn_ireturn rfl rfl ?_
          exact ⟨rfl, rfl⟩
      · exact absurd h1 (by decide)
  · rw [decide_eq_false (fun z => hp ((isPr_iff p).mpr z))] at hq
    refine Same.q h (r_actU R p op a b hp) ?_
    show Rn _ 9 (0, [some (vR 9 0), some (vI p), some (vI op), some (vI a), some (vI b), none], [], _) _
    refine rn_iload_n (pc' := 1) rfl rfl rfl ?_
    refine rn_callS (pc' := 4) (as := [_]) rfl rfl rfl ⟨rfl, rfl, rfl⟩ (Nat.le_of_ble_eq_true rfl) (Nat.le_of_ble_eq_true rfl) rfl hq (fun r1 M1 hz => ?_)
    obtain ⟨rfl, hm_⟩ := hz
    refine rn_mem hm_ ?_
    clear hm_
    refine rn_if_ne (t := 11) (pc' := 7) rfl rfl rfl (fun h1 => ?_) (fun h1 => ?_)
    · exact absurd rfl h1
    · refine rn_sipush (pc' := 10) (v := (-1001)) rfl rfl (by decide) ?_
      refine rn_ireturn rfl rfl ?_
      exact ⟨rfl, rfl⟩
theorem Inv_wipe {C R : xM} {n k : Nat} (h : Inv C R n) : Inv (mI C 5 k 3 0) (mI R 21 0 k 0) n := by
  obtain ⟨⟨a1, a2, a3, a4, a5, a6, a7, a8, a9, a10, a11, a12⟩, a13, b1, b2, b3, b4, b5, b7, b9, b10, b11, b14⟩ := h
  have e1 : ∀ p, (mI R 21 0 k 0).1 21 0 p = if p = k then 0 else R.1 21 0 p := fun p => by simp [mI, xu]
  have e2 : ∀ p, (mI C 5 k 3 0).1 5 p 3 = if p = k then 0 else C.1 5 p 3 := fun p => by simp [mI, xu]
  refine ⟨⟨a1, a2, a3, a4, a5, a6, a7, a8, a9, a10, a11, ?_⟩, a13, b1, b2, b3, b4, b5, b7, b9, b10, b11, ?_, b14.2⟩
  · intro p hp
    refine ⟨?_, (a12 p hp).2⟩
    rw [e1, e2, (a12 p hp).1]
  · intro p hp
    rw [e1]
    split
    · exact ⟨0, by omega, rfl⟩
    · exact b14.1 p hp
theorem same_wipe {t : Nat} {C R : xM} (p : Int32) (h : GI t C R) : Same 10 71 [vI p] t C R := by
  obtain ⟨hI, h30, hT⟩ := id h
  have hq := c_isProgram (d := 6) (C := C) p
  by_cases hp : isPr p
  · obtain ⟨k, hk, rfl⟩ := isPr_n hp
    rw [decide_eq_true ((isPr_iff _).mp hp)] at hq
    have v3 : C.1 5 k 3 = R.1 21 0 k := (hI.1.2.2.2.2.2.2.2.2.2.2.2 k hk).1
    refine ⟨R.1 21 0 k, mI R 21 0 k 0, t, by omega, r_wipeY R hp hk, ?_⟩
    have hG : GI t (mI C 5 k 3 0) (mI R 21 0 k 0) := ⟨Inv_wipe hI, h30, hT⟩
    show Rn _ 10 (0, [some (vR 9 0), some (vI (nI k)), none], [], _) _
    refine rn_iload_n (pc' := 1) rfl rfl rfl ?_
    refine rn_callS (pc' := 4) (as := [_]) rfl rfl rfl ⟨rfl, rfl, rfl⟩ (Nat.le_of_ble_eq_true rfl) (Nat.le_of_ble_eq_true rfl) rfl hq (fun r1 M1 hz => ?_)
    obtain ⟨rfl, hm_⟩ := hz
    refine rn_mem hm_ ?_
    clear hm_
    refine rn_if_ne (t := 11) (pc' := 7) rfl rfl rfl (fun h1 => ?_) (fun h1 => ?_)
    · refine rn_aload_n (pc' := 12) rfl rfl rfl ?_
      refine rn_getF (N := 1) (t' := 10) (pc' := 15) rfl rfl rfl rfl rfl (by first | assumption | decide | omega) ?_
      refine rn_iload_n (pc' := 16) rfl rfl rfl ?_
      refine rn_aaldF (t' := 5) (N := 1) (K := 16) (pc' := 17) rfl rfl rfl rfl rfl (by first | assumption | decide | omega) rfl (by decide) rfl (by first | assumption | decide | omega) ?_
      refine rn_getI (N := 16) (pc' := 20) rfl rfl rfl rfl (by decide) rfl (by first | assumption | decide | omega) ?_
      refine rn_topI v3 ?_
      refine rn_istore_n (pc' := 21) rfl rfl rfl (Nat.le_of_ble_eq_true rfl) rfl ?_
      refine rn_aload_n (pc' := 22) rfl rfl rfl ?_
      refine rn_getF (N := 1) (t' := 10) (pc' := 25) rfl rfl rfl rfl rfl (by first | assumption | decide | omega) ?_
      refine rn_iload_n (pc' := 26) rfl rfl rfl ?_
      refine rn_aaldF (t' := 5) (N := 1) (K := 16) (pc' := 27) rfl rfl rfl rfl rfl (by first | assumption | decide | omega) rfl (by decide) rfl (by first | assumption | decide | omega) ?_
      refine rn_iconst (pc' := 28) (v := 0) rfl rfl (by decide) ?_
      refine rn_putI (N := 16) (pc' := 31) rfl rfl rfl rfl rfl (by first | assumption | decide | omega) ?_
      refine rn_iload_n (pc' := 32) rfl rfl rfl ?_
      refine rn_ireturn rfl rfl ?_
      exact ⟨rfl, hG⟩
    · exact absurd h1 (by decide)
  · rw [decide_eq_false (fun z => hp ((isPr_iff p).mpr z))] at hq
    refine Same.q h (r_wipeU R p hp) ?_
    show Rn _ 10 (0, [some (vR 9 0), some (vI p), none], [], _) _
    refine rn_iload_n (pc' := 1) rfl rfl rfl ?_
    refine rn_callS (pc' := 4) (as := [_]) rfl rfl rfl ⟨rfl, rfl, rfl⟩ (Nat.le_of_ble_eq_true rfl) (Nat.le_of_ble_eq_true rfl) rfl hq (fun r1 M1 hz => ?_)
    obtain ⟨rfl, hm_⟩ := hz
    refine rn_mem hm_ ?_
    clear hm_
    refine rn_if_ne (t := 11) (pc' := 7) rfl rfl rfl (fun h1 => ?_) (fun h1 => ?_)
    · exact absurd rfl h1
    · refine rn_sipush (pc' := 10) (v := (-1001)) rfl rfl (by decide) ?_
      refine rn_ireturn rfl rfl ?_
      exact ⟨rfl, rfl⟩
