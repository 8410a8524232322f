theorem c_forkN {d e t ja : Nat} {D N : xM} (h : Cx e t D N) (hja : ja < 8) (hfe : fe N = 24) : Rn (d + 1) 45 (0, xen 45 [vR 9 0, vR 0 e, vI (nI ja)], [], D) (fun r C' => r = none ∧ AP e (N.1 25 0 e) (t + 1) C' (f_forkN N e ja)) := by
  have he := h.1
  have hff := c_firstFree (d := d) h.2.1
  rw [hfe, if_neg (by omega)] at hff
  have v14 : D.1 9 0 14 = N.1 20 0 35 := A10_l.mp h.2.1.1.2.2.2.2.2.2.2.2.2.1 (14, 35) (by decide)
  have i1 := Inv_s (k := 14) (t := 35) (v := N.1 20 0 35 + 1) h.2.1 (by decide) (by decide) (by decide)
  have i2 := Inv_reg (e := e) (v := -11) i1 hja
  have ef : f_forkN N e ja = mI (mI N 20 0 35 (N.1 20 0 35 + 1)) 31 0 (8 * e + ja) (-11) := mI_comm N 0 (8 * e + ja) 0 35 (-11) (N.1 20 0 35 + 1) (by decide)
  rw [ef]
  have hAP := AP_of (e := e) (p := N.1 25 0 e) (t := t + 1) i2 (by omega) h.2.2.2.2.1 h.tm rfl h.n4
  show Rn _ 45 (0, [some (vR 9 0), some (vR 0 e), some (vI (nI ja)), none], [], _) _
  refine rn_aload_n (pc' := 1) rfl rfl rfl ?_
  refine rn_callV (pc' := 4) (as := []) rfl rfl rfl ⟨Nat.le_of_ble_eq_true rfl, rfl, rfl⟩ rfl (by first | assumption | decide | omega) (Nat.le_of_ble_eq_true rfl) (Nat.le_of_ble_eq_true rfl) rfl hff (fun r1 M1 hz => ?_)
  obtain ⟨rfl, hm_⟩ := hz
  refine rn_mem hm_ ?_
  clear hm_
  refine rn_astore_n (pc' := 5) rfl rfl rfl (Nat.le_of_ble_eq_true rfl) rfl ?_
  refine rn_aload_n (pc' := 6) rfl rfl rfl ?_
  refine rn_ifnonnull (t := 28) (pc' := 9) rfl rfl rfl (fun h1 => ?_) (fun h1 => ?_)
  · exact absurd rfl h1
  · refine rn_aload_n (pc' := 10) rfl rfl rfl ?_
    refine rn_dupA (pc' := 11) rfl rfl ?_
    refine rn_getI (N := 1) (pc' := 14) rfl rfl rfl rfl (by decide) rfl (by first | assumption | decide | omega) ?_
    refine rn_iconst (pc' := 15) (v := 1) rfl rfl (by decide) ?_
    refine rn_iadd (pc' := 16) rfl rfl ?_
    refine rn_topI (y := N.1 20 0 35 + 1) (congrArg (· + (1 : Int32)) v14) ?_
    refine rn_putI (N := 1) (pc' := 19) rfl rfl rfl rfl rfl (by first | assumption | decide | omega) ?_
    refine rn_aload_n (pc' := 20) rfl rfl rfl ?_
    refine rn_getF (N := 24) (t' := 1) (pc' := 23) rfl rfl rfl rfl rfl (by first | assumption | decide | omega) ?_
    refine rn_iload_n (pc' := 24) rfl rfl rfl ?_
    refine rn_bipush (pc' := 26) (v := (-11)) rfl rfl (by decide) ?_
    refine rn_iast (N := 24) (K := 8) (pc' := 27) rfl rfl ⟨rfl, rfl⟩ rfl (by first | assumption | decide | omega) rfl (by decide) rfl (by first | assumption | decide | omega) ?_
    refine rn_return rfl rfl ?_
    exact ⟨rfl, hAP⟩
theorem feF_is (N : xM) : ∀ (m i : Nat), feF N m i < i + m → ¬ 0 < N.1 25 0 (feF N m i) := by
  intro m
  induction m with
  | zero => intro i h; exact absurd h (by show ¬ i < i + 0; omega)
  | succ m ih =>
    intro i h
    unfold feF at h ⊢
    split
    · rename_i hc
      rw [if_pos hc] at h
      exact ih (i + 1) (by omega)
    · assumption
theorem c_forkY {d e t ja l m f : Nat} {D N : xM} (h : Cx e t D N) (hja : ja < 8) (hfe : fe N = f) (hf : f < 24) (hl : N.1 20 0 24 = nI l) (hl2 : l ≤ 999) (hm : m < 900) (hb : ∀ i, i < m → tk N (nI (nxi (i + 1) l)) = true) (hfr : tk N (nI (nxi (m + 1) l)) = false) : ¬ e = f ∧ Rn (d + 2) 45 (0, xen 45 [vR 9 0, vR 0 e, vI (nI ja)], [], D) (fun r C' => r = none ∧ AP e (N.1 25 0 e) (t + 1) C' (f_forkY N e f ja (nI (nxi (m + 1) l)))) := by
  have he := h.1
  have hff := c_firstFree (d := d + 1) h.2.1
  rw [hfe, if_pos hf] at hff
  have hfz : N.1 25 0 f = 0 := by
    have := feF_is N 24 0 (by show fe N < _; omega)
    rw [show feF N 24 0 = f from hfe] at this
    exact (lv_or h.2.1.2.2.1 hf).resolve_right this
  have hne : ¬ e = f := fun q => by
    have := h.2.2.1
    rw [q, hfz] at this
    exact absurd this (by decide)
  have hx : 1 ≤ nxi (m + 1) l ∧ nxi (m + 1) l ≤ 999 := by
    have : ∀ m l, 1 ≤ nxi (m + 1) l ∧ nxi (m + 1) l ≤ 999 := by
      intro m
      induction m with
      | zero => intro l; exact ⟨(nx_le (n := l)).2, (nx_le (n := l)).1⟩
      | succ m ih => intro l; exact ih (nx l)
    exact this m l
  have v12 : D.1 9 0 12 = nI l := (A10_l.mp h.2.1.1.2.2.2.2.2.2.2.2.2.1 (12, 24) (by decide)).trans hl
  have hnp := c_newPid (d := d) h.2.1 v12 hl2 hm hb hfr
  generalize hxx : nxi (m + 1) l = x at hx hnp hfr
  have hfr' : ∀ k, k < 24 → 0 < N.1 25 0 k → ¬ N.1 25 0 k = nI x := fun k hk hlk q => by
    have : tk N (nI x) = true := (tk_iff N _ 24).mpr ⟨k, hk, hlk, Or.inl q⟩
    rw [hfr] at this; cases this
  have hI := Inv_fork h.2.1 he hf hne hja h.2.2.1 h.n4 hfz hx.1 hx.2 hfr'
  have h30 : (f_forkY N e f ja (nI x)).1 20 0 30 = 0 := by rw [fk_20]; exact h.2.2.2.2.1
  have hT : Tm (t + 1) (t + 1) (f_forkY N e f ja (nI x)) := by
    obtain ⟨t1, t2, ⟨g, g1, g2⟩, t4⟩ := h.tm
    refine ⟨by rw [fk_20]; exact t1, t2, ⟨g, g1, by rw [fk_20]; exact g2⟩, fun k hk hlk => ?_⟩
    rw [fk_38]
    split
    · exact Or.inl rfl
    · rename_i hkf
      have := fk_t (N := N) (a := ja) (p := nI x) hne 25 (by decide) k
      rw [this, if_neg hkf] at hlk
      exact t4 k hk hlk
  have hp : (f_forkY N e f ja (nI x)).1 25 0 e = N.1 25 0 e := by
    have := fk_t (N := N) (a := ja) (p := nI x) hne 25 (by decide) e
    rw [this, if_neg hne]
  have h4 : ¬ (f_forkY N e f ja (nI x)).1 28 0 e = 4 := by
    have := fk_t (N := N) (a := ja) (p := nI x) hne 28 (by decide) e
    rw [this, if_neg hne]
    exact h.n4
  have hAP := AP_of (e := e) (p := N.1 25 0 e) (t := t + 1) hI (by omega) h30 hT hp h4
  refine ⟨hne, ?_⟩
  have hbg := c_begin_ (d := d + 1) (f := f) (mI D 9 0 12 (nI x)) (some e) (nI x) (D.1 0 e 2) (D.1 0 e 4) hf
  have hcp := c_copyFrom (d := d) (f := f) (e := e) (beg (mI D 9 0 12 (nI x)) f (some e) (nI x) (D.1 0 e 2) (D.1 0 e 4)) hf he
  have fin : Rn (d + 2) 45 (58, [some (vR 9 0), some (vR 0 e), some (vI (nI ja)), some (vR 0 f)], [], cpf (beg (mI D 9 0 12 (nI x)) f (some e) (nI x) (D.1 0 e 2) (D.1 0 e 4)) f e) (fun r C' => r = none ∧ AP e (N.1 25 0 e) (t + 1) C' (f_forkY N e f ja (nI x))) := by
    refine rn_aload_n (pc' := 59) rfl rfl rfl ?_
    refine rn_getF (N := 24) (t' := 1) (pc' := 62) rfl rfl rfl rfl rfl (by first | assumption | decide | omega) ?_
    refine rn_iload_n (pc' := 63) rfl rfl rfl ?_
    refine rn_iconst (pc' := 64) (v := 0) rfl rfl (by decide) ?_
    refine rn_iast (N := 24) (K := 8) (pc' := 65) rfl rfl ⟨rfl, rfl⟩ rfl (by first | assumption | decide | omega) rfl (by decide) rfl (by first | assumption | decide | omega) ?_
    refine rn_aload_n (pc' := 66) rfl rfl rfl ?_
    refine rn_getF (N := 24) (t' := 1) (pc' := 69) rfl rfl rfl rfl rfl (by first | assumption | decide | omega) ?_
    refine rn_iload_n (pc' := 70) rfl rfl rfl ?_
    refine rn_aload_n (pc' := 71) rfl rfl rfl ?_
    refine rn_getI (N := 1) (pc' := 74) rfl rfl rfl rfl (by decide) rfl (by first | assumption | decide | omega) ?_
    refine rn_topI (y := nI x) rfl ?_
    refine rn_iast (N := 24) (K := 8) (pc' := 75) rfl rfl ⟨rfl, rfl⟩ rfl (by first | assumption | decide | omega) rfl (by decide) rfl (by first | assumption | decide | omega) ?_
    refine rn_aload_n (pc' := 76) rfl rfl rfl ?_
    refine rn_dupA (pc' := 77) rfl rfl ?_
    refine rn_getI (N := 1) (pc' := 80) rfl rfl rfl rfl (by decide) rfl (by first | assumption | decide | omega) ?_
    refine rn_iconst (pc' := 81) (v := 1) rfl rfl (by decide) ?_
    refine rn_iadd (pc' := 82) rfl rfl ?_
    refine rn_topI (y := D.1 9 0 13 + 1) rfl ?_
    refine rn_putI (N := 1) (pc' := 85) rfl rfl rfl rfl rfl (by first | assumption | decide | omega) ?_
    refine rn_return rfl rfl ?_
    exact ⟨rfl, hAP⟩
  show Rn _ 45 (0, [some (vR 9 0), some (vR 0 e), some (vI (nI ja)), none], [], _) _
  refine rn_aload_n (pc' := 1) rfl rfl rfl ?_
  refine rn_callV (pc' := 4) (as := []) rfl rfl rfl ⟨Nat.le_of_ble_eq_true rfl, rfl, rfl⟩ rfl (by first | assumption | decide | omega) (Nat.le_of_ble_eq_true rfl) (Nat.le_of_ble_eq_true rfl) rfl hff (fun r1 M1 hz => ?_)
  obtain ⟨rfl, hm_⟩ := hz
  refine rn_mem hm_ ?_
  clear hm_
  refine rn_astore_n (pc' := 5) rfl rfl rfl (Nat.le_of_ble_eq_true rfl) rfl ?_
  refine rn_aload_n (pc' := 6) rfl rfl rfl ?_
  refine rn_ifnonnull (t := 28) (pc' := 9) rfl rfl rfl (fun h1 => ?_) (fun h1 => ?_)
  · refine rn_aload_n (pc' := 29) rfl rfl rfl ?_
    refine rn_aload_n (pc' := 30) rfl rfl rfl ?_
    refine rn_callV (pc' := 33) (as := []) rfl rfl rfl ⟨Nat.le_of_ble_eq_true rfl, rfl, rfl⟩ rfl (by first | assumption | decide | omega) (Nat.le_of_ble_eq_true rfl) (Nat.le_of_ble_eq_true rfl) rfl hnp (fun r3 M3 hz => ?_)
    obtain ⟨rfl, hm_⟩ := hz
    refine rn_mem hm_ ?_
    clear hm_
    refine rn_putI (N := 1) (pc' := 36) rfl rfl rfl rfl rfl (by first | assumption | decide | omega) ?_
    refine rn_aload_n (pc' := 37) rfl rfl rfl ?_
    refine rn_aload_n (pc' := 38) rfl rfl rfl ?_
    refine rn_getI (N := 1) (pc' := 41) rfl rfl rfl rfl (by decide) rfl (by first | assumption | decide | omega) ?_
    refine rn_topI (y := nI x) rfl ?_
    refine rn_aload_n (pc' := 42) rfl rfl rfl ?_
    refine rn_aload_n (pc' := 43) rfl rfl rfl ?_
    refine rn_getI (N := 24) (pc' := 46) rfl rfl rfl rfl (by decide) rfl (by first | assumption | decide | omega) ?_
    refine rn_topI (y := D.1 0 e 2) rfl ?_
    refine rn_aload_n (pc' := 47) rfl rfl rfl ?_
    refine rn_getI (N := 24) (pc' := 50) rfl rfl rfl rfl (by decide) rfl (by first | assumption | decide | omega) ?_
    refine rn_topI (y := D.1 0 e 4) rfl ?_
    refine rn_callV (pc' := 53) (as := [_, _, _, _]) rfl rfl rfl ⟨Nat.le_of_ble_eq_true rfl, rfl, rfl⟩ rfl (by first | assumption | decide | omega) (Nat.le_of_ble_eq_true rfl) (Nat.le_of_ble_eq_true rfl) rfl hbg (fun r4 M4 hz => ?_)
    obtain ⟨rfl, hm_⟩ := hz
    refine rn_mem hm_ ?_
    clear hm_
    refine rn_aload_n (pc' := 54) rfl rfl rfl ?_
    refine rn_aload_n (pc' := 55) rfl rfl rfl ?_
    refine rn_callV (pc' := 58) (as := [_]) rfl rfl rfl ⟨Nat.le_of_ble_eq_true rfl, rfl, rfl⟩ rfl (by first | assumption | decide | omega) (Nat.le_of_ble_eq_true rfl) (Nat.le_of_ble_eq_true rfl) rfl hcp (fun r5 M5 hz => ?_)
    obtain ⟨rfl, hm_⟩ := hz
    refine rn_mem hm_ ?_
    clear hm_
    exact fin
  · exact nomatch h1
theorem c_faPre {d e ja : Nat} {D : xM} (Z : Option xV → xM → Prop) (op a b : Int32) (ha : a &&& 7 = nI ja) (k : Rn (d + 1) 40 (7, [some (vR 9 0), some (vR 0 e), some (vI op), some (vI a), some (vI b), some (vI (nI ja))], [vI op], D) Z) : Rn (d + 1) 40 (0, xen 40 [vR 9 0, vR 0 e, vI op, vI a, vI b], [], D) Z := by
  show Rn _ 40 (0, [some (vR 9 0), some (vR 0 e), some (vI op), some (vI a), some (vI b), none], [], _) _
  refine rn_iload_n (pc' := 1) rfl rfl rfl ?_
  refine rn_callS (pc' := 4) (as := [_]) rfl rfl rfl ⟨rfl, rfl, rfl⟩ (Nat.le_of_ble_eq_true rfl) (Nat.le_of_ble_eq_true rfl) rfl (c_registerOf a) (fun r1 M1 hz => ?_)
  obtain ⟨rfl, hm_⟩ := hz
  refine rn_mem hm_ ?_
  clear hm_
  refine rn_topI ha ?_
  refine rn_istore (pc' := 6) rfl rfl rfl (Nat.le_of_ble_eq_true rfl) rfl ?_
  refine rn_iload_n (pc' := 7) rfl rfl rfl ?_
  exact k
theorem c_fa8 {d e ja : Nat} {D : xM} {P : xM → Prop} (op a b : Int32) (he : e < 24) (ha : a &&& 7 = nI ja) (hop : op.toInt = 8) (hc : Rn d 45 (0, xen 45 [vR 9 0, vR 0 e, vI (nI ja)], [], D) (fun r C' => r = none ∧ P C')) : Rn (d + 1) 40 (0, xen 40 [vR 9 0, vR 0 e, vI op, vI a, vI b], [], D) (fun r C' => r = none ∧ P C') := by
  refine c_faPre _ op a b ha ?_
  refine rn_swIn (k := 0) (t := 32) rfl hop (by decide) rfl rfl ?_
  refine rn_aload_n (pc' := 33) rfl rfl rfl ?_
  refine rn_aload_n (pc' := 34) rfl rfl rfl ?_
  refine rn_iload (pc' := 36) rfl rfl rfl ?_
  refine rn_callV (pc' := 39) (as := [_, _]) rfl rfl rfl ⟨Nat.le_of_ble_eq_true rfl, rfl, rfl⟩ rfl (by first | assumption | decide | omega) (Nat.le_of_ble_eq_true rfl) (Nat.le_of_ble_eq_true rfl) rfl hc (fun r9 D9 hz9 => ?_)
  obtain ⟨rfl, hp⟩ := hz9
  refine rn_goto (pc' := 89) rfl rfl ?_
  refine rn_return rfl rfl ?_
  exact ⟨rfl, hp⟩
theorem c_fa9 {d e ja : Nat} {D : xM} {P : xM → Prop} (op a b : Int32) (he : e < 24) (ha : a &&& 7 = nI ja) (hop : op.toInt = 9) (hc : Rn d 49 (0, xen 49 [vR 0 e, vI (nI ja), vI b], [], D) (fun r C' => r = none ∧ P C')) : Rn (d + 1) 40 (0, xen 40 [vR 9 0, vR 0 e, vI op, vI a, vI b], [], D) (fun r C' => r = none ∧ P C') := by
  refine c_faPre _ op a b ha ?_
  refine rn_swIn (k := 1) (t := 42) rfl hop (by decide) rfl rfl ?_
  refine rn_aload_n (pc' := 43) rfl rfl rfl ?_
  refine rn_iload (pc' := 45) rfl rfl rfl ?_
  refine rn_iload (pc' := 47) rfl rfl rfl ?_
  refine rn_callS (pc' := 50) (as := [_, _, _]) rfl rfl rfl ⟨rfl, rfl, rfl⟩ (Nat.le_of_ble_eq_true rfl) (Nat.le_of_ble_eq_true rfl) rfl hc (fun r9 D9 hz9 => ?_)
  obtain ⟨rfl, hp⟩ := hz9
  refine rn_goto (pc' := 89) rfl rfl ?_
  refine rn_return rfl rfl ?_
  exact ⟨rfl, hp⟩
theorem c_fa10 {d e t ja : Nat} {D N : xM} (op a b : Int32) (h : Cx e t D N) (hja : ja < 8) (ha : a &&& 7 = nI ja) (hop : op.toInt = 10) : Rn (d + 4) 40 (0, xen 40 [vR 9 0, vR 0 e, vI op, vI a, vI b], [], D) (fun r C' => r = none ∧ AP e (N.1 25 0 e) (t + 1) C' (f_end N e (256 * (N.1 31 0 (8 * e + ja) &&& 255)))) := by
  have he := h.1
  refine c_faPre _ op a b ha ?_
  refine rn_swIn (k := 2) (t := 53) rfl hop (by decide) rfl rfl ?_
  have hc := c_end (d := d) (256 * (N.1 31 0 (8 * e + ja) &&& 255)) h.2.1 he h.2.2.1 (fun _ => by omega)
  refine rn_aload_n (pc' := 54) rfl rfl rfl ?_
  refine rn_aload_n (pc' := 55) rfl rfl rfl ?_
  refine rn_sipush (pc' := 58) (v := 256) rfl rfl (by decide) ?_
  refine rn_aload_n (pc' := 59) rfl rfl rfl ?_
  refine rn_getF (N := 24) (t' := 1) (pc' := 62) rfl rfl rfl rfl rfl (by first | assumption | decide | omega) ?_
  refine rn_iload (pc' := 64) rfl rfl rfl ?_
  refine rn_iald (N := 24) (K := 8) (pc' := 65) rfl rfl ⟨rfl, rfl⟩ rfl (by first | assumption | decide | omega) rfl (by decide) rfl (by first | assumption | decide | omega) ?_
  refine rn_sipush (pc' := 68) (v := 255) rfl rfl (by decide) ?_
  refine rn_iand (pc' := 69) rfl rfl ?_
  refine rn_imul (pc' := 70) rfl rfl ?_
  refine rn_topI (y := 256 * (N.1 31 0 (8 * e + ja) &&& 255)) (by rw [reg_eq h hja]) ?_
  refine rn_callV (pc' := 73) (as := [_, _]) rfl rfl rfl ⟨Nat.le_of_ble_eq_true rfl, rfl, rfl⟩ rfl (by first | assumption | decide | omega) (Nat.le_of_ble_eq_true rfl) (Nat.le_of_ble_eq_true rfl) rfl hc (fun r9 D9 hz9 => ?_)
  obtain ⟨rfl, n', -, hI⟩ := hz9
  refine rn_goto (pc' := 89) rfl rfl ?_
  refine rn_return rfl rfl ?_
  exact ⟨rfl, AP_end _ h.2.1 (by omega) he h.2.2.1 h.n4 h.2.2.2.2.1 h.tm hI⟩
theorem c_fa11 {d e t ja jb : Nat} {D N : xM} (op a b : Int32) (h : Cx e t D N) (hja : ja < 8) (hjb : jb < 8) (ha : a &&& 7 = nI ja) (hb : b &&& 7 = nI jb) (hop : 10 < op.toInt) : Rn (d + 3) 40 (0, xen 40 [vR 9 0, vR 0 e, vI op, vI a, vI b], [], D) (fun r C' => r = none ∧ AP e (N.1 25 0 e) (t + 1) C' (f_await N e ja jb op)) := by
  have he := h.1
  refine c_faPre _ op a b ha ?_
  refine rn_swOut (t := 76) rfl (Or.inr hop) rfl ?_
  have hc := c_awaitChild (d := d) op h hja hjb
  refine rn_aload_n (pc' := 77) rfl rfl rfl ?_
  refine rn_aload_n (pc' := 78) rfl rfl rfl ?_
  refine rn_iload_n (pc' := 79) rfl rfl rfl ?_
  refine rn_iload (pc' := 81) rfl rfl rfl ?_
  refine rn_iload (pc' := 83) rfl rfl rfl ?_
  refine rn_callS (pc' := 86) (as := [_]) rfl rfl rfl ⟨rfl, rfl, rfl⟩ (Nat.le_of_ble_eq_true rfl) (Nat.le_of_ble_eq_true rfl) rfl (c_registerOf b) (fun r1 M1 hz => ?_)
  obtain ⟨rfl, hm_⟩ := hz
  refine rn_mem hm_ ?_
  clear hm_
  refine rn_topI hb ?_
  refine rn_callV (pc' := 89) (as := [_, _, _, _]) rfl rfl rfl ⟨Nat.le_of_ble_eq_true rfl, rfl, rfl⟩ rfl (by first | assumption | decide | omega) (Nat.le_of_ble_eq_true rfl) (Nat.le_of_ble_eq_true rfl) rfl hc (fun r9 D9 hz9 => ?_)
  obtain ⟨rfl, hp⟩ := hz9
  refine rn_return rfl rfl ?_
  exact ⟨rfl, hp⟩
