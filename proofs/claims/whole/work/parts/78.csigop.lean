theorem isS1_iff (s : Int32) : isS1 s ↔ (¬ s < 1 ∧ ¬ 20 < s) := by
  unfold isS1
  rw [i64_in, Int32.lt_iff_toInt_lt, Int32.lt_iff_toInt_lt]
  have h1 : (1 : Int64).toInt = 1 := by decide
  have h2 : (20 : Int64).toInt = 20 := by decide
  have h3 : (1 : Int32).toInt = 1 := by decide
  have h4 : (20 : Int32).toInt = 20 := by decide
  omega
theorem isS1_n {s : Int32} (h : isS1 s) : ∃ k, 1 ≤ k ∧ k < 21 ∧ s = nI k := by
  rcases in_cases s 1 20 1 20 (by decide) (by decide) with ⟨h1, -⟩ | ⟨k, k1, k2, k3, -⟩
  · exact absurd h h1
  · exact ⟨k, k1, by omega, k3⟩
theorem isSg_iff (s : Int32) : isSg s ↔ (s = 0 ∨ isS1 s) := by
  unfold isSg isS1
  rw [i64_in, i64_in, ← Int32.toInt_inj]
  have h0 : (0 : Int64).toInt = 0 := by decide
  have h1 : (1 : Int64).toInt = 1 := by decide
  have h2 : (20 : Int64).toInt = 20 := by decide
  have h3 : (0 : Int32).toInt = 0 := by decide
  omega
theorem mI_mI (M : xM) (t e k : Nat) (v w : Int32) : mI (mI M t e k v) t e k w = mI M t e k w := by
  refine xM_ext (fun x y z => ?_) rfl
  simp only [mI, xu]
  split <;> rfl
theorem send_31 (M : xM) (k i : Nat) (x s : Int32) : f_send (mI M 31 0 k x) i s = mI (f_send M i s) 31 0 k x := by
  refine xM_ext (fun a b c => ?_) rfl
  simp only [f_send, mI, xu]
  by_cases h : a = 31 ∧ b = 0 ∧ c = k
  · obtain ⟨rfl, rfl, rfl⟩ := h
    simp
  · simp only [if_neg h]
    simp
    rfl
theorem c_killN {d e t ja jb : Nat} {D N : xM} (h : Cx e t D N) (hja : ja < 8) (hjb : jb < 8) (hs : ¬ isSg (N.1 31 0 (8 * e + jb))) : Rn (d + 1) 53 (0, xen 53 [vR 9 0, vR 0 e, vI (nI ja), vI (nI jb)], [], D) (fun r C' => r = none ∧ AP e (N.1 25 0 e) (t + 1) C' (mI N 31 0 (8 * e + ja) (-22))) := by
  have he := h.1
  have n0 : ¬ N.1 31 0 (8 * e + jb) = 0 := fun z => hs ((isSg_iff _).mpr (Or.inl z))
  have n1 : ¬ (¬ N.1 31 0 (8 * e + jb) < 1 ∧ ¬ 20 < N.1 31 0 (8 * e + jb)) := fun z => hs ((isSg_iff _).mpr (Or.inr ((isS1_iff _).mpr z)))
  have hp := c_isSignal (d := d) (C := D) (N.1 31 0 (8 * e + jb))
  rw [decide_eq_false n1] at hp
  show Rn _ 53 (0, [some (vR 9 0), some (vR 0 e), some (vI (nI ja)), some (vI (nI jb)), none, none, none, none, none, none, none], [], _) _
  refine rn_aload_n (pc' := 1) rfl rfl rfl ?_
  refine rn_getF (N := 24) (t' := 1) (pc' := 4) rfl rfl rfl rfl rfl (by first | assumption | decide | omega) ?_
  refine rn_iload_n (pc' := 5) rfl rfl rfl ?_
  refine rn_iald (N := 24) (K := 8) (pc' := 6) rfl rfl ⟨rfl, rfl⟩ rfl (by first | assumption | decide | omega) rfl (by decide) rfl (by first | assumption | decide | omega) ?_
  refine rn_istore (pc' := 8) rfl rfl rfl (Nat.le_of_ble_eq_true rfl) rfl ?_
  refine rn_aload_n (pc' := 9) rfl rfl rfl ?_
  refine rn_getF (N := 24) (t' := 1) (pc' := 12) rfl rfl rfl rfl rfl (by first | assumption | decide | omega) ?_
  refine rn_iload_n (pc' := 13) rfl rfl rfl ?_
  refine rn_iald (N := 24) (K := 8) (pc' := 14) rfl rfl ⟨rfl, rfl⟩ rfl (by first | assumption | decide | omega) rfl (by decide) rfl (by first | assumption | decide | omega) ?_
  refine rn_topI (reg_eq h hjb) ?_
  refine rn_istore (pc' := 16) rfl rfl rfl (Nat.le_of_ble_eq_true rfl) rfl ?_
  refine rn_iload (pc' := 18) rfl rfl rfl ?_
  refine rn_if_eq (t := 38) (pc' := 21) rfl rfl rfl (fun h1 => ?_) (fun h1 => ?_)
  · first | exact absurd h1 n0 | exact absurd rfl h2
  · refine rn_iload (pc' := 23) rfl rfl rfl ?_
    refine rn_callS (pc' := 26) (as := [_]) rfl rfl rfl ⟨rfl, rfl, rfl⟩ (Nat.le_of_ble_eq_true rfl) (Nat.le_of_ble_eq_true rfl) rfl hp (fun r2 M2 hz => ?_)
    obtain ⟨rfl, hm_⟩ := hz
    refine rn_mem hm_ ?_
    clear hm_
    refine rn_if_ne (t := 38) (pc' := 29) rfl rfl rfl (fun h2 => ?_) (fun h2 => ?_)
    · first | exact absurd h1 n0 | exact absurd rfl h2
    · refine rn_aload_n (pc' := 30) rfl rfl rfl ?_
      refine rn_getF (N := 24) (t' := 1) (pc' := 33) rfl rfl rfl rfl rfl (by first | assumption | decide | omega) ?_
      refine rn_iload_n (pc' := 34) rfl rfl rfl ?_
      refine rn_bipush (pc' := 36) (v := (-22)) rfl rfl (by decide) ?_
      refine rn_iast (N := 24) (K := 8) (pc' := 37) rfl rfl ⟨rfl, rfl⟩ rfl (by first | assumption | decide | omega) rfl (by decide) rfl (by first | assumption | decide | omega) ?_
      refine rn_return rfl rfl ?_
      exact ⟨rfl, AP_reg h hja⟩
theorem c_killY {d e t ja jb : Nat} {D N : xM} (h : Cx e t D N) (hja : ja < 8) (hjb : jb < 8) (hs : isSg (N.1 31 0 (8 * e + jb))) : Rn (d + 1) 53 (0, xen 53 [vR 9 0, vR 0 e, vI (nI ja), vI (nI jb)], [], D) (fun r C' => r = none ∧ AP e (N.1 25 0 e) (t + 1) C' (f_killY N e ja (N.1 31 0 (8 * e + ja)) (N.1 31 0 (8 * e + jb)))) := by
  have he := h.1
  obtain ⟨v, hv⟩ : ∃ v, v = N.1 31 0 (8 * e + ja) := ⟨_, rfl⟩
  obtain ⟨s, hse⟩ : ∃ s, s = N.1 31 0 (8 * e + jb) := ⟨_, rfl⟩
  have hrv : D.1 1 e ja = v := (reg_eq h hja).trans hv.symm
  have hrs : D.1 1 e jb = s := (reg_eq h hjb).trans hse.symm
  rw [← hse] at hs
  rw [← hv, ← hse]
  unfold f_killY
  obtain ⟨T, hT⟩ : ∃ T, T = ksF e v s 24 0 (N, 0) := ⟨_, rfl⟩
  rw [← hT]
  have hsn : ¬ s = 0 → ∃ k, 1 ≤ k ∧ k < 21 ∧ s = nI k := fun q => isS1_n (((isSg_iff s).mp hs).resolve_left q)
  have hs0 : 0 < s ↔ ¬ s = 0 := by
    constructor
    · intro q z; rw [z] at q; exact absurd q (by decide)
    · intro q
      obtain ⟨k, k1, k2, k3⟩ := hsn q
      rw [k3]
      exact nI_lt (a := 0) (by omega) (by omega)
  have hsv : ∀ c : Nat, c ≤ 24 → ((0 : Int32) < nI c ↔ 0 < c) := fun c hc => nI_ltI (a := 0) (by decide) (by omega)
  have loop : ∀ (m i n c : Nat) (E M : xM) (x9 x10 : Option xV), i + m = 24 → c ≤ i → n ≤ i → Inv E (mI M 31 0 (8 * e + ja) (if 0 < nI c then 0 else -3)) n → (∀ t, ¬ (t = 45 ∨ t = 46 ∨ t = 20) → M.1 t = N.1 t) → Calm N M → ksF e v s m i (M, c) = T → Rn (d + 1) 53 (60, [some (vR 9 0), some (vR 0 e), some (vI (nI ja)), some (vI (nI jb)), some (vI v), some (vI s), some (vR 11 0), some (vI 24), some (vI (nI i)), x9, x10], [], E) (fun r C' => r = none ∧ AP e (N.1 25 0 e) (t + 1) C' (mI T.1 31 0 (8 * e + ja) (if 0 < nI T.2 then 0 else -3))) := by
    intro m
    induction m with
    | zero =>
      intro i n c E M x9 x10 hi hc hn hE hrow hcalm hq
      obtain rfl : i = 24 := by omega
      have hq : (M, c) = T := hq
      have q1 : T.1 = M := by rw [← hq]
      have q2 : T.2 = c := by rw [← hq]
      rw [q1, q2]
      have hAP : AP e (N.1 25 0 e) (t + 1) E (mI M 31 0 (8 * e + ja) (if 0 < nI c then 0 else -3)) := AP_of hE hn (hcalm.2.1.trans h.2.2.2.2.1) (h.tm.calm hcalm) (by rw [mI_nt (by decide), hrow 25 (by decide)]) (by rw [mI_nt (by decide), hrow 28 (by decide)]; exact h.n4)
      refine rn_iload (pc' := 62) rfl rfl rfl ?_
      refine rn_iload (pc' := 64) rfl rfl rfl ?_
      refine rn_ic_ge (t := 152) (pc' := 67) rfl rfl rfl (fun h1 => ?_) (fun h1 => ?_)
      · refine rn_return rfl rfl ?_
        exact ⟨rfl, hAP⟩
      · exact absurd ((lt24 (by omega)).mp h1) (by omega)
    | succ m ih =>
      intro i n c E M x9 x10 hi hc hn hE hrow hcalm hq
      have hi24 : i < 24 := by omega
      have r25 := hrow 25 (by decide)
      have r27 := hrow 27 (by decide)
      have v0 : E.1 0 i 0 = N.1 25 0 i := by rw [f1 hE.1.1 hi24 (k := 0) (t := 25) (by decide), mI_nt (by decide), r25]
      rw [show ksF e v s (m + 1) i (M, c) = ksF e v s m (i + 1) (if kpB M e v i = true ∧ 0 < s then f_send M i s else M, if kpB M e v i = true then c + 1 else c) from rfl] at hq
      have hmns : mns M e v i = mns N e v i := by unfold mns rpid rgrp; rw [r25, r27]
      have hkp : kpB M e v i = (decide (0 < N.1 25 0 i) && (if v = -1 then (!decide (i = e) && !decide (N.1 25 0 i = 1)) else mns N e v i)) := by
        unfold kpB rpid
        rw [hmns, r25]
      have hm := c_means (d := d) v hE he hi24
      have hmE : mns (mI M 31 0 (8 * e + ja) (if 0 < nI c then 0 else -3)) e v i = mns N e v i := hmns
      rw [hmE] at hm
      have go_ : ∀ (E' M' : xM) (n' c' : Nat) (x10 : Option xV), c' ≤ i + 1 → n' ≤ i + 1 → Inv E' (mI M' 31 0 (8 * e + ja) (if 0 < nI c' then 0 else -3)) n' → (∀ t, ¬ (t = 45 ∨ t = 46 ∨ t = 20) → M'.1 t = N.1 t) → Calm N M' → ksF e v s m (i + 1) (M', c') = T → Rn (d + 1) 53 (146, [some (vR 9 0), some (vR 0 e), some (vI (nI ja)), some (vI (nI jb)), some (vI v), some (vI s), some (vR 11 0), some (vI 24), some (vI (nI i)), some (vR 0 i), x10], [], E') (fun r C' => r = none ∧ AP e (N.1 25 0 e) (t + 1) C' (mI T.1 31 0 (8 * e + ja) (if 0 < nI T.2 then 0 else -3))) := by
        intro E' M' n' c' x10 hc' hn' hE' hrow' hcalm' hq'
        have := ih (i + 1) n' c' E' M' (some (vR 0 i)) x10 (by omega) hc' hn' hE' hrow' hcalm' hq'
        refine rn_iinc (pc' := 149) rfl rfl rfl (nI_inc _) rfl (Nat.le_of_ble_eq_true rfl) rfl ?_
        refine rn_goto (pc' := 60) rfl rfl ?_
        exact this
      cases hk : kpB M e v i with
      | false =>
        rw [hk] at hkp
        rw [hk, if_neg (by simp), if_neg (by simp)] at hq
        have go_ := fun x10 => go_ E M n c x10 (by omega) (by omega) hE hrow hcalm hq
        have hpos : ¬ N.1 25 0 i = 0 → 0 < N.1 25 0 i := fun q => by
          have := (lv_or hE.2.2.1 hi24)
          rw [mI_nt (by decide), r25] at this
          exact this.resolve_left q
        have bad : ¬ E.1 0 i 0 = 0 → ¬ (v = -1 ∧ (i = e ∨ N.1 25 0 i = 1)) → mns N e v i = true → False := fun q1 q2 q3 => by
          rw [v0] at q1
          have := hpos q1
          by_cases hv1 : v = -1
          · rw [if_pos hv1] at hkp
            simp [this, show ¬ i = e from fun z => q2 ⟨hv1, Or.inl z⟩, show ¬ N.1 25 0 i = 1 from fun z => q2 ⟨hv1, Or.inr z⟩] at hkp
          · rw [if_neg hv1] at hkp
            simp [this, q3] at hkp
        have bm : ¬ bI (mns N e v i) = 0 → mns N e v i = true := fun q => by simpa [bI_0] using q
        refine rn_iload (pc' := 62) rfl rfl rfl ?_
        refine rn_iload (pc' := 64) rfl rfl rfl ?_
        refine rn_ic_ge (t := 152) (pc' := 67) rfl rfl rfl (fun h1 => ?_) (fun h1 => ?_)
        · exact absurd ((lt24 (by omega)).mpr hi24) h1
        · refine rn_aload (pc' := 69) rfl rfl rfl ?_
          refine rn_iload (pc' := 71) rfl rfl rfl ?_
          refine rn_aaldF (t' := 0) (N := 1) (K := 24) (pc' := 72) rfl rfl rfl rfl rfl (by first | assumption | decide | omega) rfl (by decide) rfl (by first | assumption | decide | omega) ?_
          refine rn_astore (pc' := 74) rfl rfl rfl (Nat.le_of_ble_eq_true rfl) rfl ?_
          refine rn_iload (pc' := 76) rfl rfl rfl ?_
          refine rn_iconst (pc' := 77) (v := (-1)) rfl rfl (by decide) ?_
          refine rn_ic_ne (t := 99) (pc' := 80) rfl rfl rfl (fun h2 => ?_) (fun h2 => ?_)
          · refine rn_iconst (pc' := 100) (v := 0) rfl rfl (by decide) ?_
            refine rn_istore (pc' := 102) rfl rfl rfl (Nat.le_of_ble_eq_true rfl) rfl ?_
            refine rn_aload (pc' := 104) rfl rfl rfl ?_
            refine rn_getI (N := 24) (pc' := 107) rfl rfl rfl rfl (by decide) rfl (by first | assumption | decide | omega) ?_
            refine rn_if_eq (t := 146) (pc' := 110) rfl rfl rfl (fun h5 => ?_) (fun h5 => ?_)
            · exact go_ _
            · refine rn_iload (pc' := 112) rfl rfl rfl ?_
              refine rn_if_ne (t := 146) (pc' := 115) rfl rfl rfl (fun h6 => ?_) (fun h6 => ?_)
              · exact go_ _
              · refine rn_aload_n (pc' := 116) rfl rfl rfl ?_
                refine rn_iload (pc' := 118) rfl rfl rfl ?_
                refine rn_aload (pc' := 120) rfl rfl rfl ?_
                refine rn_callS (pc' := 123) (as := [_, _, _]) rfl rfl rfl ⟨rfl, rfl, rfl⟩ (Nat.le_of_ble_eq_true rfl) (Nat.le_of_ble_eq_true rfl) rfl hm (fun r5 M5 hz => ?_)
                obtain ⟨rfl, hm_⟩ := hz
                refine rn_mem hm_ ?_
                clear hm_
                refine rn_if_eq (t := 146) (pc' := 126) rfl rfl rfl (fun h7 => ?_) (fun h7 => ?_)
                · exact go_ _
                · first | exact absurd (show (1 : Int32) = 0 from h6) (by decide) | exact absurd (bm h7) (fun z => bad h5 (fun w => h2 w.1) z) | exact absurd (bm h7) (fun z => bad h5 (fun w => w.2.elim (fun y => h3 (by rw [y])) (fun y => h4 (v0.trans y))) z)
          · refine rn_aload (pc' := 82) rfl rfl rfl ?_
            refine rn_aload_n (pc' := 83) rfl rfl rfl ?_
            refine rn_ac_eq (t := 95) (pc' := 86) rfl rfl rfl (decide_eq_true hi24) (decide_eq_true he) (fun h3 => ?_) (fun h3 => ?_)
            · refine rn_iconst (pc' := 96) (v := 1) rfl rfl (by decide) ?_
              refine rn_goto (pc' := 100) rfl rfl ?_
              refine rn_istore (pc' := 102) rfl rfl rfl (Nat.le_of_ble_eq_true rfl) rfl ?_
              refine rn_aload (pc' := 104) rfl rfl rfl ?_
              refine rn_getI (N := 24) (pc' := 107) rfl rfl rfl rfl (by decide) rfl (by first | assumption | decide | omega) ?_
              refine rn_if_eq (t := 146) (pc' := 110) rfl rfl rfl (fun h5 => ?_) (fun h5 => ?_)
              · exact go_ _
              · refine rn_iload (pc' := 112) rfl rfl rfl ?_
                refine rn_if_ne (t := 146) (pc' := 115) rfl rfl rfl (fun h6 => ?_) (fun h6 => ?_)
                · exact go_ _
                · refine rn_aload_n (pc' := 116) rfl rfl rfl ?_
                  refine rn_iload (pc' := 118) rfl rfl rfl ?_
                  refine rn_aload (pc' := 120) rfl rfl rfl ?_
                  refine rn_callS (pc' := 123) (as := [_, _, _]) rfl rfl rfl ⟨rfl, rfl, rfl⟩ (Nat.le_of_ble_eq_true rfl) (Nat.le_of_ble_eq_true rfl) rfl hm (fun r6 M6 hz => ?_)
                  obtain ⟨rfl, hm_⟩ := hz
                  refine rn_mem hm_ ?_
                  clear hm_
                  refine rn_if_eq (t := 146) (pc' := 126) rfl rfl rfl (fun h7 => ?_) (fun h7 => ?_)
                  · exact go_ _
                  · first | exact absurd (show (1 : Int32) = 0 from h6) (by decide) | exact absurd (bm h7) (fun z => bad h5 (fun w => h2 w.1) z) | exact absurd (bm h7) (fun z => bad h5 (fun w => w.2.elim (fun y => h3 (by rw [y])) (fun y => h4 (v0.trans y))) z)
            · refine rn_aload (pc' := 88) rfl rfl rfl ?_
              refine rn_getI (N := 24) (pc' := 91) rfl rfl rfl rfl (by decide) rfl (by first | assumption | decide | omega) ?_
              refine rn_iconst (pc' := 92) (v := 1) rfl rfl (by decide) ?_
              refine rn_ic_ne (t := 99) (pc' := 95) rfl rfl rfl (fun h4 => ?_) (fun h4 => ?_)
              · refine rn_iconst (pc' := 100) (v := 0) rfl rfl (by decide) ?_
                refine rn_istore (pc' := 102) rfl rfl rfl (Nat.le_of_ble_eq_true rfl) rfl ?_
                refine rn_aload (pc' := 104) rfl rfl rfl ?_
                refine rn_getI (N := 24) (pc' := 107) rfl rfl rfl rfl (by decide) rfl (by first | assumption | decide | omega) ?_
                refine rn_if_eq (t := 146) (pc' := 110) rfl rfl rfl (fun h5 => ?_) (fun h5 => ?_)
                · exact go_ _
                · refine rn_iload (pc' := 112) rfl rfl rfl ?_
                  refine rn_if_ne (t := 146) (pc' := 115) rfl rfl rfl (fun h6 => ?_) (fun h6 => ?_)
                  · exact go_ _
                  · refine rn_aload_n (pc' := 116) rfl rfl rfl ?_
                    refine rn_iload (pc' := 118) rfl rfl rfl ?_
                    refine rn_aload (pc' := 120) rfl rfl rfl ?_
                    refine rn_callS (pc' := 123) (as := [_, _, _]) rfl rfl rfl ⟨rfl, rfl, rfl⟩ (Nat.le_of_ble_eq_true rfl) (Nat.le_of_ble_eq_true rfl) rfl hm (fun r7 M7 hz => ?_)
                    obtain ⟨rfl, hm_⟩ := hz
                    refine rn_mem hm_ ?_
                    clear hm_
                    refine rn_if_eq (t := 146) (pc' := 126) rfl rfl rfl (fun h7 => ?_) (fun h7 => ?_)
                    · exact go_ _
                    · first | exact absurd (show (1 : Int32) = 0 from h6) (by decide) | exact absurd (bm h7) (fun z => bad h5 (fun w => h2 w.1) z) | exact absurd (bm h7) (fun z => bad h5 (fun w => w.2.elim (fun y => h3 (by rw [y])) (fun y => h4 (v0.trans y))) z)
              · refine rn_iconst (pc' := 96) (v := 1) rfl rfl (by decide) ?_
                refine rn_goto (pc' := 100) rfl rfl ?_
                refine rn_istore (pc' := 102) rfl rfl rfl (Nat.le_of_ble_eq_true rfl) rfl ?_
                refine rn_aload (pc' := 104) rfl rfl rfl ?_
                refine rn_getI (N := 24) (pc' := 107) rfl rfl rfl rfl (by decide) rfl (by first | assumption | decide | omega) ?_
                refine rn_if_eq (t := 146) (pc' := 110) rfl rfl rfl (fun h5 => ?_) (fun h5 => ?_)
                · exact go_ _
                · refine rn_iload (pc' := 112) rfl rfl rfl ?_
                  refine rn_if_ne (t := 146) (pc' := 115) rfl rfl rfl (fun h6 => ?_) (fun h6 => ?_)
                  · exact go_ _
                  · refine rn_aload_n (pc' := 116) rfl rfl rfl ?_
                    refine rn_iload (pc' := 118) rfl rfl rfl ?_
                    refine rn_aload (pc' := 120) rfl rfl rfl ?_
                    refine rn_callS (pc' := 123) (as := [_, _, _]) rfl rfl rfl ⟨rfl, rfl, rfl⟩ (Nat.le_of_ble_eq_true rfl) (Nat.le_of_ble_eq_true rfl) rfl hm (fun r7 M7 hz => ?_)
                    obtain ⟨rfl, hm_⟩ := hz
                    refine rn_mem hm_ ?_
                    clear hm_
                    refine rn_if_eq (t := 146) (pc' := 126) rfl rfl rfl (fun h7 => ?_) (fun h7 => ?_)
                    · exact go_ _
                    · first | exact absurd (show (1 : Int32) = 0 from h6) (by decide) | exact absurd (bm h7) (fun z => bad h5 (fun w => h2 w.1) z) | exact absurd (bm h7) (fun z => bad h5 (fun w => w.2.elim (fun y => h3 (by rw [y])) (fun y => h4 (v0.trans y))) z)
      | true =>
        rw [hk] at hkp
        rw [hk, if_pos rfl] at hq
        have hlv : 0 < N.1 25 0 i := by
          have := hkp.symm
          simp only [Bool.and_eq_true, decide_eq_true_eq] at this
          exact this.1
        have hne : ¬ E.1 0 i 0 = 0 := by rw [v0]; exact fun q => by rw [q] at hlv; exact absurd hlv (by decide)
        have hsp : v = -1 → ¬ i = e ∧ ¬ N.1 25 0 i = 1 := fun hv1 => by
          have := hkp.symm
          rw [if_pos hv1] at this
          simp only [Bool.and_eq_true, decide_eq_true_eq, Bool.not_eq_true', decide_eq_false_iff_not] at this
          exact this.2
        have hmn : mns N e v i = true := by
          by_cases hv1 : v = -1
          · unfold mns
            rw [hv1]
            rfl
          · have := hkp.symm
            rw [if_neg hv1] at this
            simp only [Bool.and_eq_true, decide_eq_true_eq] at this
            exact this.2
        rw [hmn] at hm
        have hc1 : (if (0 : Int32) < nI (c + 1) then (0 : Int32) else -3) = 0 := by rw [if_pos ((hsv (c + 1) (by omega)).mpr (by omega))]
        have hE0 : Inv (mI E 1 e ja 0) (mI M 31 0 (8 * e + ja) 0) n := by
          have := Inv_reg (e := e) (r := ja) (v := 0) hE hja
          rw [mI_mI] at this
          exact this
        by_cases hz : s = 0
        · rw [if_neg (fun z => (hs0.mp z.2) hz)] at hq
          have go_ := fun x10 => go_ (mI E 1 e ja 0) M n (c + 1) x10 (by omega) (by omega) (by rw [hc1]; exact hE0) hrow hcalm hq
          refine rn_iload (pc' := 62) rfl rfl rfl ?_
          refine rn_iload (pc' := 64) rfl rfl rfl ?_
          refine rn_ic_ge (t := 152) (pc' := 67) rfl rfl rfl (fun h1 => ?_) (fun h1 => ?_)
          · exact absurd ((lt24 (by omega)).mpr hi24) h1
          · refine rn_aload (pc' := 69) rfl rfl rfl ?_
            refine rn_iload (pc' := 71) rfl rfl rfl ?_
            refine rn_aaldF (t' := 0) (N := 1) (K := 24) (pc' := 72) rfl rfl rfl rfl rfl (by first | assumption | decide | omega) rfl (by decide) rfl (by first | assumption | decide | omega) ?_
            refine rn_astore (pc' := 74) rfl rfl rfl (Nat.le_of_ble_eq_true rfl) rfl ?_
            refine rn_iload (pc' := 76) rfl rfl rfl ?_
            refine rn_iconst (pc' := 77) (v := (-1)) rfl rfl (by decide) ?_
            refine rn_ic_ne (t := 99) (pc' := 80) rfl rfl rfl (fun h2 => ?_) (fun h2 => ?_)
            · refine rn_iconst (pc' := 100) (v := 0) rfl rfl (by decide) ?_
              refine rn_istore (pc' := 102) rfl rfl rfl (Nat.le_of_ble_eq_true rfl) rfl ?_
              refine rn_aload (pc' := 104) rfl rfl rfl ?_
              refine rn_getI (N := 24) (pc' := 107) rfl rfl rfl rfl (by decide) rfl (by first | assumption | decide | omega) ?_
              refine rn_if_eq (t := 146) (pc' := 110) rfl rfl rfl (fun h5 => ?_) (fun h5 => ?_)
              · first | exact go_ _ | exact absurd h5 hne | exact absurd rfl h6 | exact absurd h7 (by decide)
              · refine rn_iload (pc' := 112) rfl rfl rfl ?_
                refine rn_if_ne (t := 146) (pc' := 115) rfl rfl rfl (fun h6 => ?_) (fun h6 => ?_)
                · first | exact go_ _ | exact absurd h5 hne | exact absurd rfl h6 | exact absurd h7 (by decide)
                · refine rn_aload_n (pc' := 116) rfl rfl rfl ?_
                  refine rn_iload (pc' := 118) rfl rfl rfl ?_
                  refine rn_aload (pc' := 120) rfl rfl rfl ?_
                  refine rn_callS (pc' := 123) (as := [_, _, _]) rfl rfl rfl ⟨rfl, rfl, rfl⟩ (Nat.le_of_ble_eq_true rfl) (Nat.le_of_ble_eq_true rfl) rfl hm (fun r5 M5 hz => ?_)
                  obtain ⟨rfl, hm_⟩ := hz
                  refine rn_mem hm_ ?_
                  clear hm_
                  refine rn_if_eq (t := 146) (pc' := 126) rfl rfl rfl (fun h7 => ?_) (fun h7 => ?_)
                  · first | exact go_ _ | exact absurd h5 hne | exact absurd rfl h6 | exact absurd h7 (by decide)
                  · refine rn_aload_n (pc' := 127) rfl rfl rfl ?_
                    refine rn_getF (N := 24) (t' := 1) (pc' := 130) rfl rfl rfl rfl rfl (by first | assumption | decide | omega) ?_
                    refine rn_iload_n (pc' := 131) rfl rfl rfl ?_
                    refine rn_iconst (pc' := 132) (v := 0) rfl rfl (by decide) ?_
                    refine rn_iast (N := 24) (K := 8) (pc' := 133) rfl rfl ⟨rfl, rfl⟩ rfl (by first | assumption | decide | omega) rfl (by decide) rfl (by first | assumption | decide | omega) ?_
                    refine rn_iload (pc' := 135) rfl rfl rfl ?_
                    refine rn_if_eq (t := 146) (pc' := 138) rfl rfl rfl (fun h8 => ?_) (fun h8 => ?_)
                    · first | exact go_ _ | exact absurd h5 hne | exact absurd rfl h6 | exact absurd h7 (by decide)
                    · exact absurd hz h8
            · refine rn_aload (pc' := 82) rfl rfl rfl ?_
              refine rn_aload_n (pc' := 83) rfl rfl rfl ?_
              refine rn_ac_eq (t := 95) (pc' := 86) rfl rfl rfl (decide_eq_true hi24) (decide_eq_true he) (fun h3 => ?_) (fun h3 => ?_)
              · first | exact absurd (congrArg Prod.snd (Option.some.inj h3)) (hsp h2).1 | exact absurd (v0.symm.trans h4) (hsp h2).2
              · refine rn_aload (pc' := 88) rfl rfl rfl ?_
                refine rn_getI (N := 24) (pc' := 91) rfl rfl rfl rfl (by decide) rfl (by first | assumption | decide | omega) ?_
                refine rn_iconst (pc' := 92) (v := 1) rfl rfl (by decide) ?_
                refine rn_ic_ne (t := 99) (pc' := 95) rfl rfl rfl (fun h4 => ?_) (fun h4 => ?_)
                · refine rn_iconst (pc' := 100) (v := 0) rfl rfl (by decide) ?_
                  refine rn_istore (pc' := 102) rfl rfl rfl (Nat.le_of_ble_eq_true rfl) rfl ?_
                  refine rn_aload (pc' := 104) rfl rfl rfl ?_
                  refine rn_getI (N := 24) (pc' := 107) rfl rfl rfl rfl (by decide) rfl (by first | assumption | decide | omega) ?_
                  refine rn_if_eq (t := 146) (pc' := 110) rfl rfl rfl (fun h5 => ?_) (fun h5 => ?_)
                  · first | exact go_ _ | exact absurd h5 hne | exact absurd rfl h6 | exact absurd h7 (by decide)
                  · refine rn_iload (pc' := 112) rfl rfl rfl ?_
                    refine rn_if_ne (t := 146) (pc' := 115) rfl rfl rfl (fun h6 => ?_) (fun h6 => ?_)
                    · first | exact go_ _ | exact absurd h5 hne | exact absurd rfl h6 | exact absurd h7 (by decide)
                    · refine rn_aload_n (pc' := 116) rfl rfl rfl ?_
                      refine rn_iload (pc' := 118) rfl rfl rfl ?_
                      refine rn_aload (pc' := 120) rfl rfl rfl ?_
                      refine rn_callS (pc' := 123) (as := [_, _, _]) rfl rfl rfl ⟨rfl, rfl, rfl⟩ (Nat.le_of_ble_eq_true rfl) (Nat.le_of_ble_eq_true rfl) rfl hm (fun r7 M7 hz => ?_)
                      obtain ⟨rfl, hm_⟩ := hz
                      refine rn_mem hm_ ?_
                      clear hm_
                      refine rn_if_eq (t := 146) (pc' := 126) rfl rfl rfl (fun h7 => ?_) (fun h7 => ?_)
                      · first | exact go_ _ | exact absurd h5 hne | exact absurd rfl h6 | exact absurd h7 (by decide)
                      · refine rn_aload_n (pc' := 127) rfl rfl rfl ?_
                        refine rn_getF (N := 24) (t' := 1) (pc' := 130) rfl rfl rfl rfl rfl (by first | assumption | decide | omega) ?_
                        refine rn_iload_n (pc' := 131) rfl rfl rfl ?_
                        refine rn_iconst (pc' := 132) (v := 0) rfl rfl (by decide) ?_
                        refine rn_iast (N := 24) (K := 8) (pc' := 133) rfl rfl ⟨rfl, rfl⟩ rfl (by first | assumption | decide | omega) rfl (by decide) rfl (by first | assumption | decide | omega) ?_
                        refine rn_iload (pc' := 135) rfl rfl rfl ?_
                        refine rn_if_eq (t := 146) (pc' := 138) rfl rfl rfl (fun h8 => ?_) (fun h8 => ?_)
                        · first | exact go_ _ | exact absurd h5 hne | exact absurd rfl h6 | exact absurd h7 (by decide)
                        · exact absurd hz h8
                · first | exact absurd (congrArg Prod.snd (Option.some.inj h3)) (hsp h2).1 | exact absurd (v0.symm.trans h4) (hsp h2).2
        · rw [if_pos ⟨rfl, hs0.mpr hz⟩] at hq
          obtain ⟨k, k1, k2, k3⟩ := hsn hz
          have hlv' : 0 < (mI M 31 0 (8 * e + ja) 0).1 25 0 i := by rw [mI_nt (by decide), r25]; exact hlv
          have hsd := c_send (d := d) (s := k) hE0 (by omega) hi24 hlv' k1 k2
          rw [send_31, ← k3] at hsd
          have go_ := fun (E' : xM) (hE' : Inv E' (mI (f_send M i s) 31 0 (8 * e + ja) 0) (n + 1)) x10 => go_ E' (f_send M i s) (n + 1) (c + 1) x10 (by omega) (by omega) (by rw [hc1]; exact hE') (fun t ht => (send_row M i s t ht).trans (hrow t ht)) (hcalm.trans (Calm.send M i s)) hq
          refine rn_iload (pc' := 62) rfl rfl rfl ?_
          refine rn_iload (pc' := 64) rfl rfl rfl ?_
          refine rn_ic_ge (t := 152) (pc' := 67) rfl rfl rfl (fun h1 => ?_) (fun h1 => ?_)
          · exact absurd ((lt24 (by omega)).mpr hi24) h1
          · refine rn_aload (pc' := 69) rfl rfl rfl ?_
            refine rn_iload (pc' := 71) rfl rfl rfl ?_
            refine rn_aaldF (t' := 0) (N := 1) (K := 24) (pc' := 72) rfl rfl rfl rfl rfl (by first | assumption | decide | omega) rfl (by decide) rfl (by first | assumption | decide | omega) ?_
            refine rn_astore (pc' := 74) rfl rfl rfl (Nat.le_of_ble_eq_true rfl) rfl ?_
            refine rn_iload (pc' := 76) rfl rfl rfl ?_
            refine rn_iconst (pc' := 77) (v := (-1)) rfl rfl (by decide) ?_
            refine rn_ic_ne (t := 99) (pc' := 80) rfl rfl rfl (fun h2 => ?_) (fun h2 => ?_)
            · refine rn_iconst (pc' := 100) (v := 0) rfl rfl (by decide) ?_
              refine rn_istore (pc' := 102) rfl rfl rfl (Nat.le_of_ble_eq_true rfl) rfl ?_
              refine rn_aload (pc' := 104) rfl rfl rfl ?_
              refine rn_getI (N := 24) (pc' := 107) rfl rfl rfl rfl (by decide) rfl (by first | assumption | decide | omega) ?_
              refine rn_if_eq (t := 146) (pc' := 110) rfl rfl rfl (fun h5 => ?_) (fun h5 => ?_)
              · first | exact go_ _ hI _ | exact absurd h5 hne | exact absurd rfl h6 | exact absurd h7 (by decide) | exact absurd h8 hz
              · refine rn_iload (pc' := 112) rfl rfl rfl ?_
                refine rn_if_ne (t := 146) (pc' := 115) rfl rfl rfl (fun h6 => ?_) (fun h6 => ?_)
                · first | exact go_ _ hI _ | exact absurd h5 hne | exact absurd rfl h6 | exact absurd h7 (by decide) | exact absurd h8 hz
                · refine rn_aload_n (pc' := 116) rfl rfl rfl ?_
                  refine rn_iload (pc' := 118) rfl rfl rfl ?_
                  refine rn_aload (pc' := 120) rfl rfl rfl ?_
                  refine rn_callS (pc' := 123) (as := [_, _, _]) rfl rfl rfl ⟨rfl, rfl, rfl⟩ (Nat.le_of_ble_eq_true rfl) (Nat.le_of_ble_eq_true rfl) rfl hm (fun r5 M5 hz => ?_)
                  obtain ⟨rfl, hm_⟩ := hz
                  refine rn_mem hm_ ?_
                  clear hm_
                  refine rn_if_eq (t := 146) (pc' := 126) rfl rfl rfl (fun h7 => ?_) (fun h7 => ?_)
                  · first | exact go_ _ hI _ | exact absurd h5 hne | exact absurd rfl h6 | exact absurd h7 (by decide) | exact absurd h8 hz
                  · refine rn_aload_n (pc' := 127) rfl rfl rfl ?_
                    refine rn_getF (N := 24) (t' := 1) (pc' := 130) rfl rfl rfl rfl rfl (by first | assumption | decide | omega) ?_
                    refine rn_iload_n (pc' := 131) rfl rfl rfl ?_
                    refine rn_iconst (pc' := 132) (v := 0) rfl rfl (by decide) ?_
                    refine rn_iast (N := 24) (K := 8) (pc' := 133) rfl rfl ⟨rfl, rfl⟩ rfl (by first | assumption | decide | omega) rfl (by decide) rfl (by first | assumption | decide | omega) ?_
                    refine rn_iload (pc' := 135) rfl rfl rfl ?_
                    refine rn_if_eq (t := 146) (pc' := 138) rfl rfl rfl (fun h8 => ?_) (fun h8 => ?_)
                    · first | exact go_ _ hI _ | exact absurd h5 hne | exact absurd rfl h6 | exact absurd h7 (by decide) | exact absurd h8 hz
                    · refine rn_aload_n (pc' := 139) rfl rfl rfl ?_
                      refine rn_aload (pc' := 141) rfl rfl rfl ?_
                      refine rn_iload (pc' := 143) rfl rfl rfl ?_
                      refine rn_callV (pc' := 146) (as := [_, _]) rfl rfl rfl ⟨Nat.le_of_ble_eq_true rfl, rfl, rfl⟩ rfl (by first | assumption | decide | omega) (Nat.le_of_ble_eq_true rfl) (Nat.le_of_ble_eq_true rfl) rfl hsd (fun r9 D9 hz9 => ?_)
                      obtain ⟨rfl, hI, -⟩ := hz9
                      first | exact go_ _ hI _ | exact absurd h5 hne | exact absurd rfl h6 | exact absurd h7 (by decide) | exact absurd h8 hz
            · refine rn_aload (pc' := 82) rfl rfl rfl ?_
              refine rn_aload_n (pc' := 83) rfl rfl rfl ?_
              refine rn_ac_eq (t := 95) (pc' := 86) rfl rfl rfl (decide_eq_true hi24) (decide_eq_true he) (fun h3 => ?_) (fun h3 => ?_)
              · first | exact absurd (congrArg Prod.snd (Option.some.inj h3)) (hsp h2).1 | exact absurd (v0.symm.trans h4) (hsp h2).2
              · refine rn_aload (pc' := 88) rfl rfl rfl ?_
                refine rn_getI (N := 24) (pc' := 91) rfl rfl rfl rfl (by decide) rfl (by first | assumption | decide | omega) ?_
                refine rn_iconst (pc' := 92) (v := 1) rfl rfl (by decide) ?_
                refine rn_ic_ne (t := 99) (pc' := 95) rfl rfl rfl (fun h4 => ?_) (fun h4 => ?_)
                · refine rn_iconst (pc' := 100) (v := 0) rfl rfl (by decide) ?_
                  refine rn_istore (pc' := 102) rfl rfl rfl (Nat.le_of_ble_eq_true rfl) rfl ?_
                  refine rn_aload (pc' := 104) rfl rfl rfl ?_
                  refine rn_getI (N := 24) (pc' := 107) rfl rfl rfl rfl (by decide) rfl (by first | assumption | decide | omega) ?_
                  refine rn_if_eq (t := 146) (pc' := 110) rfl rfl rfl (fun h5 => ?_) (fun h5 => ?_)
                  · first | exact go_ _ hI _ | exact absurd h5 hne | exact absurd rfl h6 | exact absurd h7 (by decide) | exact absurd h8 hz
                  · refine rn_iload (pc' := 112) rfl rfl rfl ?_
                    refine rn_if_ne (t := 146) (pc' := 115) rfl rfl rfl (fun h6 => ?_) (fun h6 => ?_)
                    · first | exact go_ _ hI _ | exact absurd h5 hne | exact absurd rfl h6 | exact absurd h7 (by decide) | exact absurd h8 hz
                    · refine rn_aload_n (pc' := 116) rfl rfl rfl ?_
                      refine rn_iload (pc' := 118) rfl rfl rfl ?_
                      refine rn_aload (pc' := 120) rfl rfl rfl ?_
                      refine rn_callS (pc' := 123) (as := [_, _, _]) rfl rfl rfl ⟨rfl, rfl, rfl⟩ (Nat.le_of_ble_eq_true rfl) (Nat.le_of_ble_eq_true rfl) rfl hm (fun r7 M7 hz => ?_)
                      obtain ⟨rfl, hm_⟩ := hz
                      refine rn_mem hm_ ?_
                      clear hm_
                      refine rn_if_eq (t := 146) (pc' := 126) rfl rfl rfl (fun h7 => ?_) (fun h7 => ?_)
                      · first | exact go_ _ hI _ | exact absurd h5 hne | exact absurd rfl h6 | exact absurd h7 (by decide) | exact absurd h8 hz
                      · refine rn_aload_n (pc' := 127) rfl rfl rfl ?_
                        refine rn_getF (N := 24) (t' := 1) (pc' := 130) rfl rfl rfl rfl rfl (by first | assumption | decide | omega) ?_
                        refine rn_iload_n (pc' := 131) rfl rfl rfl ?_
                        refine rn_iconst (pc' := 132) (v := 0) rfl rfl (by decide) ?_
                        refine rn_iast (N := 24) (K := 8) (pc' := 133) rfl rfl ⟨rfl, rfl⟩ rfl (by first | assumption | decide | omega) rfl (by decide) rfl (by first | assumption | decide | omega) ?_
                        refine rn_iload (pc' := 135) rfl rfl rfl ?_
                        refine rn_if_eq (t := 146) (pc' := 138) rfl rfl rfl (fun h8 => ?_) (fun h8 => ?_)
                        · first | exact go_ _ hI _ | exact absurd h5 hne | exact absurd rfl h6 | exact absurd h7 (by decide) | exact absurd h8 hz
                        · refine rn_aload_n (pc' := 139) rfl rfl rfl ?_
                          refine rn_aload (pc' := 141) rfl rfl rfl ?_
                          refine rn_iload (pc' := 143) rfl rfl rfl ?_
                          refine rn_callV (pc' := 146) (as := [_, _]) rfl rfl rfl ⟨Nat.le_of_ble_eq_true rfl, rfl, rfl⟩ rfl (by first | assumption | decide | omega) (Nat.le_of_ble_eq_true rfl) (Nat.le_of_ble_eq_true rfl) rfl hsd (fun r9 D9 hz9 => ?_)
                          obtain ⟨rfl, hI, -⟩ := hz9
                          first | exact go_ _ hI _ | exact absurd h5 hne | exact absurd rfl h6 | exact absurd h7 (by decide) | exact absurd h8 hz
                · first | exact absurd (congrArg Prod.snd (Option.some.inj h3)) (hsp h2).1 | exact absurd (v0.symm.trans h4) (hsp h2).2
  have l0 := loop 24 0 0 0 (mI D 1 e ja (-3)) N none none rfl (Nat.le_refl _) (Nat.le_refl _) (Inv_reg h.2.1 hja) (fun _ _ => rfl) (Calm.refl N) hT.symm
  have hp := c_isSignal (d := d) (C := D) s
  show Rn _ 53 (0, [some (vR 9 0), some (vR 0 e), some (vI (nI ja)), some (vI (nI jb)), none, none, none, none, none, none, none], [], _) _
  refine rn_aload_n (pc' := 1) rfl rfl rfl ?_
  refine rn_getF (N := 24) (t' := 1) (pc' := 4) rfl rfl rfl rfl rfl (by first | assumption | decide | omega) ?_
  refine rn_iload_n (pc' := 5) rfl rfl rfl ?_
  refine rn_iald (N := 24) (K := 8) (pc' := 6) rfl rfl ⟨rfl, rfl⟩ rfl (by first | assumption | decide | omega) rfl (by decide) rfl (by first | assumption | decide | omega) ?_
  refine rn_topI hrv ?_
  refine rn_istore (pc' := 8) rfl rfl rfl (Nat.le_of_ble_eq_true rfl) rfl ?_
  refine rn_aload_n (pc' := 9) rfl rfl rfl ?_
  refine rn_getF (N := 24) (t' := 1) (pc' := 12) rfl rfl rfl rfl rfl (by first | assumption | decide | omega) ?_
  refine rn_iload_n (pc' := 13) rfl rfl rfl ?_
  refine rn_iald (N := 24) (K := 8) (pc' := 14) rfl rfl ⟨rfl, rfl⟩ rfl (by first | assumption | decide | omega) rfl (by decide) rfl (by first | assumption | decide | omega) ?_
  refine rn_topI hrs ?_
  refine rn_istore (pc' := 16) rfl rfl rfl (Nat.le_of_ble_eq_true rfl) rfl ?_
  refine rn_iload (pc' := 18) rfl rfl rfl ?_
  refine rn_if_eq (t := 38) (pc' := 21) rfl rfl rfl (fun h1 => ?_) (fun h1 => ?_)
  · refine rn_aload_n (pc' := 39) rfl rfl rfl ?_
    refine rn_getF (N := 24) (t' := 1) (pc' := 42) rfl rfl rfl rfl rfl (by first | assumption | decide | omega) ?_
    refine rn_iload_n (pc' := 43) rfl rfl rfl ?_
    refine rn_bipush (pc' := 45) (v := (-3)) rfl rfl (by decide) ?_
    refine rn_iast (N := 24) (K := 8) (pc' := 46) rfl rfl ⟨rfl, rfl⟩ rfl (by first | assumption | decide | omega) rfl (by decide) rfl (by first | assumption | decide | omega) ?_
    refine rn_aload_n (pc' := 47) rfl rfl rfl ?_
    refine rn_getF (N := 1) (t' := 11) (pc' := 50) rfl rfl rfl rfl rfl (by first | assumption | decide | omega) ?_
    refine rn_astore (pc' := 52) rfl rfl rfl (Nat.le_of_ble_eq_true rfl) rfl ?_
    refine rn_aload (pc' := 54) rfl rfl rfl ?_
    refine rn_alen (N := 1) (K := 24) (pc' := 55) (v := 24) rfl rfl rfl rfl (by first | assumption | decide | omega) rfl rfl ?_
    refine rn_istore (pc' := 57) rfl rfl rfl (Nat.le_of_ble_eq_true rfl) rfl ?_
    refine rn_iconst (pc' := 58) (v := 0) rfl rfl (by decide) ?_
    refine rn_istore (pc' := 60) rfl rfl rfl (Nat.le_of_ble_eq_true rfl) rfl ?_
    exact l0
  · refine rn_iload (pc' := 23) rfl rfl rfl ?_
    refine rn_callS (pc' := 26) (as := [_]) rfl rfl rfl ⟨rfl, rfl, rfl⟩ (Nat.le_of_ble_eq_true rfl) (Nat.le_of_ble_eq_true rfl) rfl hp (fun r2 M2 hz => ?_)
    obtain ⟨rfl, hm_⟩ := hz
    refine rn_mem hm_ ?_
    clear hm_
    refine rn_if_ne (t := 38) (pc' := 29) rfl rfl rfl (fun h2 => ?_) (fun h2 => ?_)
    · refine rn_aload_n (pc' := 39) rfl rfl rfl ?_
      refine rn_getF (N := 24) (t' := 1) (pc' := 42) rfl rfl rfl rfl rfl (by first | assumption | decide | omega) ?_
      refine rn_iload_n (pc' := 43) rfl rfl rfl ?_
      refine rn_bipush (pc' := 45) (v := (-3)) rfl rfl (by decide) ?_
      refine rn_iast (N := 24) (K := 8) (pc' := 46) rfl rfl ⟨rfl, rfl⟩ rfl (by first | assumption | decide | omega) rfl (by decide) rfl (by first | assumption | decide | omega) ?_
      refine rn_aload_n (pc' := 47) rfl rfl rfl ?_
      refine rn_getF (N := 1) (t' := 11) (pc' := 50) rfl rfl rfl rfl rfl (by first | assumption | decide | omega) ?_
      refine rn_astore (pc' := 52) rfl rfl rfl (Nat.le_of_ble_eq_true rfl) rfl ?_
      refine rn_aload (pc' := 54) rfl rfl rfl ?_
      refine rn_alen (N := 1) (K := 24) (pc' := 55) (v := 24) rfl rfl rfl rfl (by first | assumption | decide | omega) rfl rfl ?_
      refine rn_istore (pc' := 57) rfl rfl rfl (Nat.le_of_ble_eq_true rfl) rfl ?_
      refine rn_iconst (pc' := 58) (v := 0) rfl rfl (by decide) ?_
      refine rn_istore (pc' := 60) rfl rfl rfl (Nat.le_of_ble_eq_true rfl) rfl ?_
      exact l0
    · exact absurd ((isS1_iff s).mp (((isSg_iff s).mp hs).resolve_left h1)) (of_decide_eq_false ((bI_0 _).mp h2))
