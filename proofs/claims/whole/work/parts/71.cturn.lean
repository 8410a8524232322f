theorem lv23 {C R : xM} {n : Nat} (h : Inv C R n) : cnt (lvB R) 24 ≤ 23 := by
  have h0 : ¬ lvB R 0 = true := fun z => by
    obtain ⟨z1, z2, -⟩ := (lvB_iff _ _).mp z
    rcases h.2.2.2.2.1 with q | q
    · exact z2 q
    · rw [q 0 (by omega)] at z1; exact absurd z1 (by decide)
  have := cnt_lt (p := lvB R) (r := fun _ => true) (j0 := 0) (k := 24) (fun _ _ _ => rfl) (by omega) rfl h0
  have := cnt_le (fun _ => true) 24
  omega
def AP (e : Nat) (p : Int32) (t : Nat) (C G : xM) : Prop := ∃ n w, Inv C G n ∧ Pt G n w (w + 20) ∧ G.1 20 0 30 = 0 ∧ Tm t t G ∧ ((G.1 25 0 e = p ∧ ¬ G.1 28 0 e = 4) ∨ C.1 0 e 8 = 0)
def QP (t : Nat) (C G : xM) : Prop := ∃ n w, Inv C G n ∧ Pt G n w w ∧ G.1 20 0 30 = 0 ∧ Tm t t G
theorem AP.q {e t : Nat} {p : Int32} {C G : xM} (h : AP e p t C G) : QP t C G := by
  obtain ⟨n, w, h1, h2, h3, h4, -⟩ := h
  exact ⟨n, w, h1, ⟨h2.1, h2.2.1, by have := h2.2.2; omega⟩, h3, h4⟩
theorem Pt_of {C R : xM} {n : Nat} (h : Inv C R n) (hn : n ≤ 24) : Pt R n n (n + 20) := by
  refine ⟨h.2.1.2.1, fun i h1 h2 => absurd h2 (by omega), ?_⟩
  have := lv23 h
  omega
theorem AP_of {e t n : Nat} {p : Int32} {C G : xM} (h : Inv C G n) (hn : n ≤ 24) (h30 : G.1 20 0 30 = 0) (hT : Tm t t G) (hp : G.1 25 0 e = p) (h4 : ¬ G.1 28 0 e = 4) : AP e p t C G := ⟨n, n, h, Pt_of h hn, h30, hT, Or.inl ⟨hp, h4⟩⟩
theorem end_33 {M : xM} {e : Nat} (how : Int32) (hp : ¬ M.1 25 0 e = 1) : (f_end M e how).1 33 0 e = 0 := by
  have ef : f_end M e how = tlF 999 1 (f_end0 (mI M 20 0 36 (M.1 20 0 36 + 1)) e how) := by unfold f_end; rw [if_neg hp]
  rw [ef, tlF_row 33 (by decide)]
  unfold f_end0 f_endE
  rw [sendTo_row _ _ _ 33 (by decide), endD_row _ _ _ 33 (by decide) (by decide)]
  simp [f_endC, mI, mJ, xu]
theorem end_8 {C R : xM} {n e : Nat} (how : Int32) (he : e < 24) (h : Inv C (f_end R e how) n) : C.1 0 e 8 = 0 := by
  by_cases hp : R.1 25 0 e = 1
  · have ef : f_end R e how = f_panic (mI R 20 0 36 (R.1 20 0 36 + 1)) := by unfold f_end; rw [if_pos hp]
    rw [ef] at h
    refine (h.1.2.2.2.2.2.1 e he).2 ?_
    show (if e < 24 then (0 : Int32) else _) = 0
    rw [if_pos he]
  · rcases lv_or h.2.2.1 he with q | q
    · exact (h.1.2.2.2.2.2.1 e he).2 q
    · rw [(h.1.2.2.2.2.2.1 e he).1 q]; exact end_33 how hp
theorem Tm_end {M : xM} {e t b : Nat} (how : Int32) (h : Tm t b M) : Tm t b (f_end M e how) := by
  by_cases hp : M.1 25 0 e = 1
  · have ef : f_end M e how = f_panic (mI M 20 0 36 (M.1 20 0 36 + 1)) := by unfold f_end; rw [if_pos hp]
    rw [ef]
    refine ⟨h.1, h.2.1, h.2.2.1, fun k hk hl => ?_⟩
    have : (f_panic (mI M 20 0 36 (M.1 20 0 36 + 1))).1 25 0 k = 0 := by
      show (if k < 24 then (0 : Int32) else _) = 0
      rw [if_pos hk]
    rw [this] at hl; exact absurd hl (by decide)
  · exact h.calm (Calm.end_ how hp)
theorem end_30 {M : xM} {e : Nat} (how : Int32) (h : M.1 20 0 30 = 0) : (f_end M e how).1 20 0 30 = 0 := by
  by_cases hp : M.1 25 0 e = 1
  · have ef : f_end M e how = f_panic (mI M 20 0 36 (M.1 20 0 36 + 1)) := by unfold f_end; rw [if_pos hp]
    rw [ef]; rfl
  · exact (Calm.end_ how hp).2.1.trans h
theorem AP_end {C C' R : xM} {n n' e t : Nat} {p : Int32} (how : Int32) (h : Inv C R n) (hn : n ≤ 24) (he : e < 24) (hl : 0 < R.1 25 0 e) (h4 : ¬ R.1 28 0 e = 4) (h30 : R.1 20 0 30 = 0) (hT : Tm t t R) (h' : Inv C' (f_end R e how) n') : AP e p t C' (f_end R e how) := by
  obtain ⟨n2, hP⟩ := end_pt how h he hl h4 (Pt_of h hn)
  have x1 : n' = n2 := rok_inj h'.2.1.2.1 hP.1 (by have := h'.2.1.2.2.1; omega) (by have := hP.2.2; omega)
  subst x1
  exact ⟨n', n, h', hP, end_30 how h30, Tm_end how hT, Or.inr (end_8 how he h')⟩
theorem lt2 (x : Int32) : x < 2 ↔ ¬ 1 < x := by
  rw [Int32.lt_iff_toInt_lt, Int32.lt_iff_toInt_lt]
  have h2 : (2 : Int32).toInt = 2 := by decide
  have h1 : (1 : Int32).toInt = 1 := by decide
  omega
theorem blkd_bt (M : xM) (e : Nat) {s : Nat} (hs : s < 21) : blkd M e s = bt (rblk M e) s := by
  unfold blkd
  have := bt_shr1 (rblk M e) hs
  cases hb : bt (rblk M e) s with
  | true => exact decide_eq_true (this.mpr hb)
  | false => exact decide_eq_false (fun z => by rw [this.mp z] at hb; cases hb)
theorem hpc_iff (M : xM) (e : Nat) {s : Nat} (hs : s < 21) : hpc M e s ↔ bt (rpnd M e) s = true ∧ blkd M e s = false ∧ hdl M e s = false := by
  unfold hpc
  rw [bt_and1 _ hs, bt_and, bt_not _ (by omega), blkd_bt M e hs, lt2]
  unfold hdl
  cases bt (rpnd M e) s <;> cases bt (rblk M e) s <;> simp
theorem happen_lv {M : xM} {e s : Nat} {p : Int32} (hp : M.1 25 0 e = p) (h4 : ¬ M.1 28 0 e = 4) : ((f_happen M e s).1 25 0 e = p ∧ ¬ (f_happen M e s).1 28 0 e = 4) ∨ (f_happen M e s = f_end M e (nI s)) := by
  unfold f_happen
  split
  · exact Or.inl ⟨hp, h4⟩
  · split
    · exact Or.inr rfl
    · split
      · exact Or.inl ⟨hp, h4⟩
      · obtain ⟨s1, s2, s3⟩ := stop_rows M e s
        refine Or.inl ⟨by rw [s1]; exact hp, ?_⟩
        rw [s3]; decide
theorem c_hp {d e t : Nat} {p : Int32} (he : e < 24) (hp0 : 0 < p) : ∀ (m s n w : Nat) (C M : xM), s + m = 21 → 1 ≤ s → Inv C M n → Pt M n w (w + m) → M.1 20 0 30 = 0 → Tm t t M → ((M.1 25 0 e = p ∧ ¬ M.1 28 0 e = 4) ∨ C.1 0 e 8 = 0) → Rn (d + 5) 22 (2, [some (vR 9 0), some (vR 0 e), some (vI (nI s))], [], C) (fun r C' => r = none ∧ QP t C' (hpF p e m s M)) := by
  intro m
  induction m with
  | zero =>
    intro s n w C M hs hs1 h hP h30 hT hc
    obtain rfl : s = 21 := by omega
    refine rn_iload_n (pc' := 3) rfl rfl rfl ?_
    refine rn_bipush (pc' := 5) (v := 20) rfl rfl (by decide) ?_
    refine rn_ic_gt (t := 61) (pc' := 8) rfl rfl rfl (fun h1 => ?_) (fun h1 => ?_)
    · refine rn_return rfl rfl ?_
      exact ⟨rfl, n, w, h, hP, h30, hT⟩
    · exact absurd (show (20 : Int32) < nI 21 by decide) h1
  | succ m ih =>
    intro s n w C M hs hs1 h hP h30 hT hc
    have hs21 : s < 21 := by omega
    have hs20 : ¬ (20 : Int32) < nI s := by
      show ¬ nI 20 < nI s
      exact nI_nlt (by omega) (by omega)
    have hP' : Pt M n w (w + m) := ⟨hP.1, hP.2.1, by have := hP.2.2; omega⟩
    by_cases hlv : M.1 25 0 e = p ∧ ¬ M.1 28 0 e = 4
    · have hl : 0 < M.1 25 0 e := by rw [hlv.1]; exact hp0
      have v8 := pnd_eq h he hl
      have hb := c_blocks2 (d := d + 4) h he hs21
      have hh := c_handles2 (d := d + 4) h he hs21
      have hbt := bt_and1 (C.1 0 e 8) hs21
      by_cases hh1 : hpc M e s
      · have ef : hpF p e (m + 1) s M = hpF p e m (s + 1) (f_happen (clr M e s) e s) := by
          rw [hpF, if_pos hlv, if_pos hh1]
        rw [ef]
        obtain ⟨g1, g2, g3⟩ := (hpc_iff M e hs21).mp hh1
        rw [g2] at hb
        rw [g3] at hh
        have ev : C.1 0 e 8 &&& (((1 : Int32) <<< (nI s &&& 31)) ^^^ (-1)) = rpnd M e &&& (((1 : Int32) <<< (nI s &&& 31)) ^^^ (-1)) := by rw [v8]
        have hC : Inv (mI C 0 e 8 (rpnd M e &&& (((1 : Int32) <<< (nI s &&& 31)) ^^^ (-1)))) (clr M e s) n := Inv_pend h hl (M_and (pnd_M h he hl) _)
        have hPc : Pt (clr M e s) n w (w + m + if s = 19 ∨ s = 20 then 1 else 0) := by
          have : Pt (clr M e s) n w (w + (m + 1)) := hP.of rfl rfl rfl (fun _ _ q => q)
          exact ⟨this.1, this.2.1, by have := this.2.2; split <;> omega⟩
        have h49 : ¬ M.1 25 0 e = 1 → n + 49 ≤ 1224 := fun z => by
          have := lv_pos (M := M) he hl z hlv.2
          have := hP.2.2
          omega
        obtain ⟨n2, hP2⟩ := happen_pt (e := e) (s := s) hC he hs21 hl hlv.2 hPc
        have hc := c_happen (d := d) hC he hs21 hl hlv.2 h49
        have nx : ∀ D n', Inv D (f_happen (clr M e s) e s) n' → Rn (d + 5) 22 (55, [some (vR 9 0), some (vR 0 e), some (vI (nI s))], [], D) (fun r C' => r = none ∧ QP t C' (hpF p e m (s + 1) (f_happen (clr M e s) e s))) := by
          intro D n' hD
          have x1 : n' = n2 := rok_inj hD.2.1.2.1 hP2.1 (by have := hD.2.1.2.2.1; omega) (by have := hP2.2.2; omega)
          subst x1
          have hc1 := Calm.happen (clr M e s) e s
          have hTc : Tm t t (clr M e s) := hT
          have hor : ((f_happen (clr M e s) e s).1 25 0 e = p ∧ ¬ (f_happen (clr M e s) e s).1 28 0 e = 4) ∨ D.1 0 e 8 = 0 := by
            rcases happen_lv (M := clr M e s) (e := e) (s := s) hlv.1 hlv.2 with q | q
            · exact Or.inl q
            · rw [q] at hD
              exact Or.inr (end_8 (nI s) he hD)
          have := ih (s + 1) n' w D _ (by omega) (by omega) hD hP2 (hc1.2.1.trans h30) (hTc.calm hc1) hor
          refine rn_iinc (pc' := 58) rfl rfl rfl (nI_inc _) rfl (Nat.le_of_ble_eq_true rfl) rfl ?_
          refine rn_goto (pc' := 2) rfl rfl ?_
          exact this
        refine rn_iload_n (pc' := 3) rfl rfl rfl ?_
        refine rn_bipush (pc' := 5) (v := 20) rfl rfl (by decide) ?_
        refine rn_ic_gt (t := 61) (pc' := 8) rfl rfl rfl (fun h1 => ?_) (fun h1 => ?_)
        · exact absurd h1 hs20
        · refine rn_aload_n (pc' := 9) rfl rfl rfl ?_
          refine rn_getI (N := 24) (pc' := 12) rfl rfl rfl rfl (by decide) rfl (by first | assumption | decide | omega) ?_
          refine rn_iconst (pc' := 13) (v := 1) rfl rfl (by decide) ?_
          refine rn_iload_n (pc' := 14) rfl rfl rfl ?_
          refine rn_ishl (pc' := 15) rfl rfl ?_
          refine rn_iand (pc' := 16) rfl rfl ?_
          refine rn_if_eq (t := 55) (pc' := 19) rfl rfl rfl (fun h2 => ?_) (fun h2 => ?_)
          · first | exact nx _ _ hI | exact absurd rfl h3 | exact absurd rfl h5 | (exfalso; have := hbt.mp h2; rw [v8, g1] at this; cases this)
          · refine rn_aload_n (pc' := 20) rfl rfl rfl ?_
            refine rn_iload_n (pc' := 21) rfl rfl rfl ?_
            refine rn_callV (pc' := 24) (as := [_]) rfl rfl rfl ⟨Nat.le_of_ble_eq_true rfl, rfl, rfl⟩ rfl (by first | assumption | decide | omega) (Nat.le_of_ble_eq_true rfl) (Nat.le_of_ble_eq_true rfl) rfl hb (fun r3 M3 hz => ?_)
            obtain ⟨rfl, hm_⟩ := hz
            refine rn_mem hm_ ?_
            clear hm_
            refine rn_if_ne (t := 55) (pc' := 27) rfl rfl rfl (fun h3 => ?_) (fun h3 => ?_)
            · first | exact nx _ _ hI | exact absurd rfl h3 | exact absurd rfl h5 | (exfalso; have := hbt.mp h2; rw [v8, g1] at this; cases this)
            · refine rn_aload_n (pc' := 28) rfl rfl rfl ?_
              refine rn_iload_n (pc' := 29) rfl rfl rfl ?_
              refine rn_callV (pc' := 32) (as := [_]) rfl rfl rfl ⟨Nat.le_of_ble_eq_true rfl, rfl, rfl⟩ rfl (by first | assumption | decide | omega) (Nat.le_of_ble_eq_true rfl) (Nat.le_of_ble_eq_true rfl) rfl hh (fun r5 M5 hz => ?_)
              obtain ⟨rfl, hm_⟩ := hz
              refine rn_mem hm_ ?_
              clear hm_
              refine rn_if_ne (t := 55) (pc' := 35) rfl rfl rfl (fun h5 => ?_) (fun h5 => ?_)
              · first | exact nx _ _ hI | exact absurd rfl h3 | exact absurd rfl h5 | (exfalso; have := hbt.mp h2; rw [v8, g1] at this; cases this)
              · refine rn_aload_n (pc' := 36) rfl rfl rfl ?_
                refine rn_dupA (pc' := 37) rfl rfl ?_
                refine rn_getI (N := 24) (pc' := 40) rfl rfl rfl rfl (by decide) rfl (by first | assumption | decide | omega) ?_
                refine rn_iconst (pc' := 41) (v := 1) rfl rfl (by decide) ?_
                refine rn_iload_n (pc' := 42) rfl rfl rfl ?_
                refine rn_ishl (pc' := 43) rfl rfl ?_
                refine rn_iconst (pc' := 44) (v := (-1)) rfl rfl (by decide) ?_
                refine rn_ixor (pc' := 45) rfl rfl ?_
                refine rn_iand (pc' := 46) rfl rfl ?_
                refine rn_topI ev ?_
                refine rn_putI (N := 24) (pc' := 49) rfl rfl rfl rfl rfl (by first | assumption | decide | omega) ?_
                refine rn_aload_n (pc' := 50) rfl rfl rfl ?_
                refine rn_aload_n (pc' := 51) rfl rfl rfl ?_
                refine rn_iload_n (pc' := 52) rfl rfl rfl ?_
                refine rn_callV (pc' := 55) (as := [_, _]) rfl rfl rfl ⟨Nat.le_of_ble_eq_true rfl, rfl, rfl⟩ rfl (by first | assumption | decide | omega) (Nat.le_of_ble_eq_true rfl) (Nat.le_of_ble_eq_true rfl) rfl hc (fun r9 D9 hz9 => ?_)
                obtain ⟨rfl, n', -, -, hI⟩ := hz9
                first | exact nx _ _ hI | exact absurd rfl h3 | exact absurd rfl h5 | (exfalso; have := hbt.mp h2; rw [v8, g1] at this; cases this)
      · have ef : hpF p e (m + 1) s M = hpF p e m (s + 1) M := by
          rw [hpF, if_pos hlv, if_neg hh1]
        rw [ef]
        have := ih (s + 1) n w C M (by omega) (by omega) h hP' h30 hT (Or.inl hlv)
        have nx : Rn (d + 5) 22 (55, [some (vR 9 0), some (vR 0 e), some (vI (nI s))], [], C) (fun r C' => r = none ∧ QP t C' (hpF p e m (s + 1) M)) := by
          refine rn_iinc (pc' := 58) rfl rfl rfl (nI_inc _) rfl (Nat.le_of_ble_eq_true rfl) rfl ?_
          refine rn_goto (pc' := 2) rfl rfl ?_
          exact this
        refine rn_iload_n (pc' := 3) rfl rfl rfl ?_
        refine rn_bipush (pc' := 5) (v := 20) rfl rfl (by decide) ?_
        refine rn_ic_gt (t := 61) (pc' := 8) rfl rfl rfl (fun h1 => ?_) (fun h1 => ?_)
        · exact absurd h1 hs20
        · refine rn_aload_n (pc' := 9) rfl rfl rfl ?_
          refine rn_getI (N := 24) (pc' := 12) rfl rfl rfl rfl (by decide) rfl (by first | assumption | decide | omega) ?_
          refine rn_iconst (pc' := 13) (v := 1) rfl rfl (by decide) ?_
          refine rn_iload_n (pc' := 14) rfl rfl rfl ?_
          refine rn_ishl (pc' := 15) rfl rfl ?_
          refine rn_iand (pc' := 16) rfl rfl ?_
          refine rn_if_eq (t := 55) (pc' := 19) rfl rfl rfl (fun h2 => ?_) (fun h2 => ?_)
          · exact nx
          · refine rn_aload_n (pc' := 20) rfl rfl rfl ?_
            refine rn_iload_n (pc' := 21) rfl rfl rfl ?_
            refine rn_callV (pc' := 24) (as := [_]) rfl rfl rfl ⟨Nat.le_of_ble_eq_true rfl, rfl, rfl⟩ rfl (by first | assumption | decide | omega) (Nat.le_of_ble_eq_true rfl) (Nat.le_of_ble_eq_true rfl) rfl hb (fun r3 M3 hz => ?_)
            obtain ⟨rfl, hm_⟩ := hz
            refine rn_mem hm_ ?_
            clear hm_
            refine rn_if_ne (t := 55) (pc' := 27) rfl rfl rfl (fun h3 => ?_) (fun h3 => ?_)
            · exact nx
            · refine rn_aload_n (pc' := 28) rfl rfl rfl ?_
              refine rn_iload_n (pc' := 29) rfl rfl rfl ?_
              refine rn_callV (pc' := 32) (as := [_]) rfl rfl rfl ⟨Nat.le_of_ble_eq_true rfl, rfl, rfl⟩ rfl (by first | assumption | decide | omega) (Nat.le_of_ble_eq_true rfl) (Nat.le_of_ble_eq_true rfl) rfl hh (fun r5 M5 hz => ?_)
              obtain ⟨rfl, hm_⟩ := hz
              refine rn_mem hm_ ?_
              clear hm_
              refine rn_if_ne (t := 55) (pc' := 35) rfl rfl rfl (fun h5 => ?_) (fun h5 => ?_)
              · exact nx
              · (refine absurd ((hpc_iff M e hs21).mpr ⟨?_, (bI_0 _).mp h3, (bI_0 _).mp h5⟩) hh1; cases hq : bt (rpnd M e) s with
                  | true => rfl
                  | false => exact absurd (hbt.mpr (by rw [v8]; exact hq)) h2)
    · have hz : C.1 0 e 8 = 0 := hc.resolve_left hlv
      have ef : hpF p e (m + 1) s M = hpF p e m (s + 1) M := by
        rw [hpF, if_neg hlv]
        cases m with
        | zero => rfl
        | succ m => rw [hpF, if_neg hlv]
      rw [ef]
      have := ih (s + 1) n w C M (by omega) (by omega) h hP' h30 hT (Or.inr hz)
      have nx : Rn (d + 5) 22 (55, [some (vR 9 0), some (vR 0 e), some (vI (nI s))], [], C) (fun r C' => r = none ∧ QP t C' (hpF p e m (s + 1) M)) := by
        refine rn_iinc (pc' := 58) rfl rfl rfl (nI_inc _) rfl (Nat.le_of_ble_eq_true rfl) rfl ?_
        refine rn_goto (pc' := 2) rfl rfl ?_
        exact this
      have hz2 : C.1 0 e 8 &&& ((1 : Int32) <<< (nI s &&& 31)) = 0 := by rw [hz]; exact Int32.zero_and
      refine rn_iload_n (pc' := 3) rfl rfl rfl ?_
      refine rn_bipush (pc' := 5) (v := 20) rfl rfl (by decide) ?_
      refine rn_ic_gt (t := 61) (pc' := 8) rfl rfl rfl (fun h1 => ?_) (fun h1 => ?_)
      · exact absurd h1 hs20
      · refine rn_aload_n (pc' := 9) rfl rfl rfl ?_
        refine rn_getI (N := 24) (pc' := 12) rfl rfl rfl rfl (by decide) rfl (by first | assumption | decide | omega) ?_
        refine rn_iconst (pc' := 13) (v := 1) rfl rfl (by decide) ?_
        refine rn_iload_n (pc' := 14) rfl rfl rfl ?_
        refine rn_ishl (pc' := 15) rfl rfl ?_
        refine rn_iand (pc' := 16) rfl rfl ?_
        refine rn_if_eq (t := 55) (pc' := 19) rfl rfl rfl (fun h2 => ?_) (fun h2 => ?_)
        · exact nx
        · exact absurd hz2 h2
theorem c_happenPending {d e t : Nat} {p : Int32} {C M : xM} (he : e < 24) (hp0 : 0 < p) (h : AP e p t C M) : Rn (d + 5) 22 (0, xen 22 [vR 9 0, vR 0 e], [], C) (fun r C' => r = none ∧ QP t C' (hpF p e 20 1 M)) := by
  obtain ⟨n, w, h1, h2, h3, h4, h5⟩ := h
  have := c_hp (d := d) (t := t) he hp0 20 1 n w C M rfl (Nat.le_refl _) h1 h2 h3 h4 h5
  show Rn _ 22 (0, [some (vR 9 0), some (vR 0 e), none], [], _) _
  refine rn_iconst (pc' := 1) (v := 1) rfl rfl (by decide) ?_
  refine rn_istore_n (pc' := 2) rfl rfl rfl (Nat.le_of_ble_eq_true rfl) rfl ?_
  exact this
theorem c_leastSignal {d : Nat} {C : xM} (x : Int32) : Rn d 20 (0, xen 20 [vI x], [], C) (fun r C' => ((∃ s, 1 ≤ s ∧ s < 21 ∧ bt x s = true ∧ (∀ i, 1 ≤ i → i < s → bt x i = false) ∧ r = some (vI (nI s))) ∨ ((∀ i, 1 ≤ i → i < 21 → bt x i = false) ∧ r = some (vI (-1)))) ∧ C' = C) := by
  have loop : ∀ m s : Nat, s + m = 21 → 1 ≤ s → (∀ i, 1 ≤ i → i < s → bt x i = false) → Rn d 20 (2, [some (vI x), some (vI (nI s))], [], C) (fun r C' => ((∃ s, 1 ≤ s ∧ s < 21 ∧ bt x s = true ∧ (∀ i, 1 ≤ i → i < s → bt x i = false) ∧ r = some (vI (nI s))) ∨ ((∀ i, 1 ≤ i → i < 21 → bt x i = false) ∧ r = some (vI (-1)))) ∧ C' = C) := by
    intro m
    induction m with
    | zero =>
      intro s hs hs1 hq
      obtain rfl : s = 21 := by omega
      refine rn_iload_n (pc' := 3) rfl rfl rfl ?_
      refine rn_bipush (pc' := 5) (v := 20) rfl rfl (by decide) ?_
      refine rn_ic_gt (t := 24) (pc' := 8) rfl rfl rfl (fun h1 => ?_) (fun h1 => ?_)
      · refine rn_iconst (pc' := 25) (v := (-1)) rfl rfl (by decide) ?_
        refine rn_ireturn rfl rfl ?_
        exact ⟨Or.inr ⟨hq, rfl⟩, rfl⟩
      · exact absurd (show (20 : Int32) < nI 21 by decide) h1
    | succ m ih =>
      intro s hs hs1 hq
      have hs21 : s < 21 := by omega
      have hs20 : ¬ (20 : Int32) < nI s := by
        show ¬ nI 20 < nI s
        exact nI_nlt (by omega) (by omega)
      have hbt := bt_and1 x hs21
      have yes : ¬ x &&& ((1 : Int32) <<< (nI s &&& 31)) = 0 → bt x s = true := fun z => by
        cases hq : bt x s with
        | true => rfl
        | false => exact absurd (hbt.mpr hq) z
      refine rn_iload_n (pc' := 3) rfl rfl rfl ?_
      refine rn_bipush (pc' := 5) (v := 20) rfl rfl (by decide) ?_
      refine rn_ic_gt (t := 24) (pc' := 8) rfl rfl rfl (fun h1 => ?_) (fun h1 => ?_)
      · exact absurd h1 hs20
      · refine rn_iload_n (pc' := 9) rfl rfl rfl ?_
        refine rn_iconst (pc' := 10) (v := 1) rfl rfl (by decide) ?_
        refine rn_iload_n (pc' := 11) rfl rfl rfl ?_
        refine rn_ishl (pc' := 12) rfl rfl ?_
        refine rn_iand (pc' := 13) rfl rfl ?_
        refine rn_if_eq (t := 18) (pc' := 16) rfl rfl rfl (fun h2 => ?_) (fun h2 => ?_)
        · refine rn_iinc (pc' := 21) rfl rfl rfl (nI_inc _) rfl (Nat.le_of_ble_eq_true rfl) rfl ?_
          refine rn_goto (pc' := 2) rfl rfl ?_
          exact ih (s + 1) (by omega) (by omega) (fun i q1 q2 => by by_cases hi : i = s; (· subst hi; exact hbt.mp h2); exact hq i q1 (by omega))
        · refine rn_iload_n (pc' := 17) rfl rfl rfl ?_
          refine rn_ireturn rfl rfl ?_
          exact ⟨Or.inl ⟨s, hs1, hs21, yes h2, hq, rfl⟩, rfl⟩
  show Rn _ 20 (0, [some (vI x), none], [], _) _
  refine rn_iconst (pc' := 1) (v := 1) rfl rfl (by decide) ?_
  refine rn_istore_n (pc' := 2) rfl rfl rfl (Nat.le_of_ble_eq_true rfl) rfl ?_
  exact loop 20 1 rfl (Nat.le_refl _) (fun i q1 q2 => absurd q2 (by omega))
theorem Inv_kn {C R : xM} {n e k : Nat} {v : Int32} (h : Inv C R n) (hk : k < 4) : Inv (mI C 3 e k v) (mI R 36 0 (4 * e + k) v) n := by
  obtain ⟨⟨a1, a2, a3, a4, a5, a6, a7, a8, a9, a10, a11, a12⟩, a13, b⟩ := h
  refine ⟨⟨a1, a2, a3, fun e' he' k' hk' => ⟨?_, (a4 e' he' k' hk').2⟩, a5, a6, a7, a8, a9, a10, a11, a12⟩, a13, b⟩
  simp only [mI, xu, true_and]
  by_cases h1 : e' = e ∧ k' = k
  · rw [if_pos h1, if_pos (by omega)]
  · rw [if_neg h1, if_neg (by omega)]
    exact (a4 e' he' k' hk').1
theorem Inv_kb {C R : xM} {n e k : Nat} {v : Int32} (h : Inv C R n) (hk : k < 4) : Inv (mI C 4 e k v) (mI R 37 0 (4 * e + k) v) n := by
  obtain ⟨⟨a1, a2, a3, a4, a5, a6, a7, a8, a9, a10, a11, a12⟩, a13, b⟩ := h
  refine ⟨⟨a1, a2, a3, fun e' he' k' hk' => ⟨(a4 e' he' k' hk').1, ?_⟩, a5, a6, a7, a8, a9, a10, a11, a12⟩, a13, b⟩
  simp only [mI, xu, true_and]
  by_cases h1 : e' = e ∧ k' = k
  · rw [if_pos h1, if_pos (by omega)]
  · rw [if_neg h1, if_neg (by omega)]
    exact (a4 e' he' k' hk').2
theorem Inv_s {C R : xM} {n k t : Nat} {v : Int32} (h : Inv C R n) (hk : (k, t) ∈ sp) (h24 : ¬ t = 24) (h25 : ¬ t = 25) : Inv (mI C 9 0 k v) (mI R 20 0 t v) n := by
  obtain ⟨⟨a1, a2, a3, a4, a5, a6, a7, a8, a9, a10, a11, a12⟩, ⟨c1, c2, c3, c4⟩, b1, b2, b3, b4, b5, b7, b9, b10, b11, b14⟩ := h
  have hn : ∀ q ∈ sp, ¬ q.1 = 4 ∧ ¬ q.1 = 8 ∧ ¬ q.1 = 9 ∧ ¬ q.2 = 29 ∧ ¬ q.2 = 30 ∧ ¬ q.2 = 31 := by decide
  obtain ⟨k4, k8, k9, t29, t30, t31⟩ := hn (k, t) hk
  refine ⟨⟨a1, a2, a3, a4, a5, a6, a7, a8, a9, A10_set a10 hk, ?_, a12⟩, ⟨?_, ?_, c3, c4⟩, b1, b2, b3, b4, b5, b7, b9, b10, ?_, b14⟩
  · obtain ⟨g, g0, g1, g2, g3, g4⟩ := a11
    exact ⟨g, g0, (mI_ne3 (Ne.symm t31)).trans g1, (mI_ne3 (Ne.symm k9)).trans g2, (mI_ne3 (Ne.symm k8)).trans g3, g4⟩
  · exact (mI_ne3 (Ne.symm k4)).trans c1
  · exact (mI_ne3 (Ne.symm t29)).trans c2
  · unfold B11
    rw [mI_ne3 (Ne.symm h24), mI_ne3 (Ne.symm h25), mI_ne3 (Ne.symm t30)]
    exact b11
theorem IR_hnd {R : xM} {e h : Nat} (hR : IR R) (hh : h ≤ 4) : IR (mI R 35 0 e (nI h)) := by
  obtain ⟨b1, b2, b3, b4, b5, b7, b9, b10, b11, b14⟩ := hR
  refine ⟨b1, b2, b3, b4, fun e' he' => ⟨(b5 e' he').1, ?_⟩, b7, b9, b10, b11, b14⟩
  by_cases hc : e' = e
  · exact ⟨h, hh, by simp [mI, xu, hc]⟩
  · obtain ⟨h', q1, q2⟩ := (b5 e' he').2
    exact ⟨h', q1, by rw [← q2]; simp [mI, xu, hc]⟩
theorem IR_prg {R : xM} {e p : Nat} (hR : IR R) (hp : p < 16) : IR (mI R 29 0 e (nI p)) := by
  obtain ⟨b1, b2, b3, b4, b5, b7, b9, b10, b11, b14⟩ := hR
  refine ⟨b1, b2, b3, b4, fun e' he' => ⟨?_, (b5 e' he').2⟩, b7, b9, b10, b11, b14⟩
  by_cases hc : e' = e
  · exact ⟨p, hp, by simp [mI, xu, hc]⟩
  · obtain ⟨h', q1, q2⟩ := (b5 e' he').1
    exact ⟨h', q1, by rw [← q2]; simp [mI, xu, hc]⟩
theorem IR_grp {R : xM} {e g : Nat} (hR : IR R) (h1 : 1 ≤ g) (h2 : g < 1000) : IR (mI R 27 0 e (nI g)) := by
  obtain ⟨b1, b2, b3, b4, b5, b7, b9, b10, b11, b14⟩ := hR
  refine ⟨b1, b2, b3, fun e' he' hl => ?_, b5, b7, b9, b10, b11, b14⟩
  by_cases hc : e' = e
  · exact ⟨g, h1, h2, by simp [mI, xu, hc]⟩
  · obtain ⟨h', q1, q2, q3⟩ := b4 e' he' hl
    exact ⟨h', q1, q2, by rw [← q3]; simp [mI, xu, hc]⟩
theorem c_begin {d e s h t : Nat} {C R : xM} (hI : Inv C R 0) (he : e < 24) (hl : 0 < R.1 25 0 e) (h0 : R.1 28 0 e = 0) (hs1 : 1 ≤ s) (hs : s < 21) (hh : R.1 35 0 e = nI h) (hh4 : h ≤ 4) (h30 : R.1 20 0 30 = 0) (hT : Tm t t R) : Rn (d + 4) 21 (0, xen 21 [vR 9 0, vR 0 e, vI (nI s)], [], C) (fun r C' => r = none ∧ QP t C' (if h = 4 then f_end R e 11 else f_beg R e s h)) := by
  have v12 : C.1 0 e 12 = nI h := (f1 hI.1.1 he (by decide)).trans hh
  have h4 : ¬ R.1 28 0 e = 4 := by rw [h0]; decide
  have hlt : nI h < 4 ↔ h < 4 := nI_ltI (by omega) (by decide)
  by_cases h4e : h = 4
  · rw [if_pos h4e]
    show Rn _ 21 (0, [some (vR 9 0), some (vR 0 e), some (vI (nI s))], [], _) _
    refine rn_aload_n (pc' := 1) rfl rfl rfl ?_
    refine rn_getI (N := 24) (pc' := 4) rfl rfl rfl rfl (by decide) rfl (by first | assumption | decide | omega) ?_
    refine rn_iconst (pc' := 5) (v := 4) rfl rfl (by decide) ?_
    refine rn_ic_lt (t := 16) (pc' := 8) rfl rfl rfl (fun h1 => ?_) (fun h1 => ?_)
    · (rw [v12] at h1; exact absurd (hlt.mp h1) (by omega))
    · refine rn_aload_n (pc' := 9) rfl rfl rfl ?_
      refine rn_aload_n (pc' := 10) rfl rfl rfl ?_
      refine rn_bipush (pc' := 12) (v := 11) rfl rfl (by decide) ?_
      refine rn_callV (pc' := 15) (as := [_, _]) rfl rfl rfl ⟨Nat.le_of_ble_eq_true rfl, rfl, rfl⟩ rfl (by first | assumption | decide | omega) (Nat.le_of_ble_eq_true rfl) (Nat.le_of_ble_eq_true rfl) rfl (c_end (d := d) 11 hI he hl (fun _ => by omega)) (fun r9 D9 hz9 => ?_)
      obtain ⟨rfl, n', -, hI'⟩ := hz9
      refine rn_return rfl rfl ?_
      exact ⟨rfl, (AP_end (p := 0) 11 hI (by omega) he hl h4 h30 hT hI').q⟩
  · rw [if_neg h4e]
    have hh4 : h < 4 := by omega
    have ef : f_beg R e s h = mI (mI (mI (mI (mI (mI (mI R 36 0 (4 * e + h) (R.1 30 0 e)) 37 0 (4 * e + h) (R.1 34 0 e)) 35 0 e (nI (h + 1))) 33 0 e (R.1 33 0 e &&& (((1 : Int32) <<< (nI s &&& 31)) ^^^ (-1)))) 34 0 e (R.1 34 0 e ||| ((1 : Int32) <<< (nI s &&& 31)))) 30 0 e (R.1 32 0 (21 * e + s) - 2)) 20 0 38 (R.1 20 0 38 + 1) := by
      have x1 : nI (h + 1) = R.1 35 0 e + 1 := by rw [hh]; exact (nI_1 h).symm
      rw [x1]
      rfl
    rw [ef]
    have i1 := Inv_kn (e := e) (v := R.1 30 0 e) hI hh4
    have i2 := Inv_kb (e := e) (v := R.1 34 0 e) i1 hh4
    have i3 := Inv_fld (e := e) (k := 12) (t := 35) (v := nI (h + 1)) i2 (by decide) (by decide) (by decide) (fun z => absurd z (by decide)) (IR_hnd i2.2.2 (by omega))
    have i4 := Inv_pend (e := e) (v := R.1 33 0 e &&& (((1 : Int32) <<< (nI s &&& 31)) ^^^ (-1))) i3 hl (M_and (pnd_M hI he hl) _)
    have i5 := Inv_fld (e := e) (k := 9) (t := 34) (v := R.1 34 0 e ||| ((1 : Int32) <<< (nI s &&& 31))) i4 (by decide) (by decide) (by decide) (fun z => absurd z (by decide)) i4.2.2
    have i6 := Inv_fld (e := e) (k := 5) (t := 30) (v := R.1 32 0 (21 * e + s) - 2) i5 (by decide) (by decide) (by decide) (fun _ z => absurd (show R.1 28 0 e = 1 ∨ R.1 28 0 e = 2 from z) (by rw [h0]; decide)) i5.2.2
    have i7 := Inv_s (k := 17) (t := 38) (v := R.1 20 0 38 + 1) i6 (by decide) (by decide) (by decide)
    have v5 : C.1 0 e 5 = R.1 30 0 e := f1 hI.1.1 he (by decide)
    have v9 : C.1 0 e 9 = R.1 34 0 e := f1 hI.1.1 he (by decide)
    have v8 := pnd_eq hI he hl
    have vs : C.1 2 e s = R.1 32 0 (21 * e + s) := hI.1.2.2.1 e he s hs
    have v17 : C.1 9 0 17 = R.1 20 0 38 := A10_l.mp hI.1.2.2.2.2.2.2.2.2.2.1 (17, 38) (by decide)
    have w12 : C.1 0 e 12 + 1 = nI (h + 1) := by rw [v12]; exact nI_1 h
    have fin := AP_of (e := e) (p := R.1 25 0 e) (t := t) i7 (by omega) h30 hT rfl h4
    show Rn _ 21 (0, [some (vR 9 0), some (vR 0 e), some (vI (nI s))], [], _) _
    refine rn_aload_n (pc' := 1) rfl rfl rfl ?_
    refine rn_getI (N := 24) (pc' := 4) rfl rfl rfl rfl (by decide) rfl (by first | assumption | decide | omega) ?_
    refine rn_iconst (pc' := 5) (v := 4) rfl rfl (by decide) ?_
    refine rn_ic_lt (t := 16) (pc' := 8) rfl rfl rfl (fun h1 => ?_) (fun h1 => ?_)
    · refine rn_aload_n (pc' := 17) rfl rfl rfl ?_
      refine rn_getF (N := 24) (t' := 3) (pc' := 20) rfl rfl rfl rfl rfl (by first | assumption | decide | omega) ?_
      refine rn_aload_n (pc' := 21) rfl rfl rfl ?_
      refine rn_getI (N := 24) (pc' := 24) rfl rfl rfl rfl (by decide) rfl (by first | assumption | decide | omega) ?_
      refine rn_aload_n (pc' := 25) rfl rfl rfl ?_
      refine rn_getI (N := 24) (pc' := 28) rfl rfl rfl rfl (by decide) rfl (by first | assumption | decide | omega) ?_
      refine rn_topI v5 ?_
      refine rn_iast (k := h) (N := 24) (K := 4) (pc' := 29) rfl rfl ⟨rfl, rfl⟩ rfl (by first | assumption | decide | omega) rfl (by decide) (v12) (by first | assumption | decide | omega) ?_
      refine rn_aload_n (pc' := 30) rfl rfl rfl ?_
      refine rn_getF (N := 24) (t' := 4) (pc' := 33) rfl rfl rfl rfl rfl (by first | assumption | decide | omega) ?_
      refine rn_aload_n (pc' := 34) rfl rfl rfl ?_
      refine rn_getI (N := 24) (pc' := 37) rfl rfl rfl rfl (by decide) rfl (by first | assumption | decide | omega) ?_
      refine rn_aload_n (pc' := 38) rfl rfl rfl ?_
      refine rn_getI (N := 24) (pc' := 41) rfl rfl rfl rfl (by decide) rfl (by first | assumption | decide | omega) ?_
      refine rn_topI (y := R.1 34 0 e) v9 ?_
      refine rn_iast (k := h) (N := 24) (K := 4) (pc' := 42) rfl rfl ⟨rfl, rfl⟩ rfl (by first | assumption | decide | omega) rfl (by decide) (v12) (by first | assumption | decide | omega) ?_
      refine rn_aload_n (pc' := 43) rfl rfl rfl ?_
      refine rn_dupA (pc' := 44) rfl rfl ?_
      refine rn_getI (N := 24) (pc' := 47) rfl rfl rfl rfl (by decide) rfl (by first | assumption | decide | omega) ?_
      refine rn_iconst (pc' := 48) (v := 1) rfl rfl (by decide) ?_
      refine rn_iadd (pc' := 49) rfl rfl ?_
      refine rn_topI (y := nI (h + 1)) w12 ?_
      refine rn_putI (N := 24) (pc' := 52) rfl rfl rfl rfl rfl (by first | assumption | decide | omega) ?_
      refine rn_aload_n (pc' := 53) rfl rfl rfl ?_
      refine rn_dupA (pc' := 54) rfl rfl ?_
      refine rn_getI (N := 24) (pc' := 57) rfl rfl rfl rfl (by decide) rfl (by first | assumption | decide | omega) ?_
      refine rn_iconst (pc' := 58) (v := 1) rfl rfl (by decide) ?_
      refine rn_iload_n (pc' := 59) rfl rfl rfl ?_
      refine rn_ishl (pc' := 60) rfl rfl ?_
      refine rn_iconst (pc' := 61) (v := (-1)) rfl rfl (by decide) ?_
      refine rn_ixor (pc' := 62) rfl rfl ?_
      refine rn_iand (pc' := 63) rfl rfl ?_
      refine rn_topI (y := R.1 33 0 e &&& (((1 : Int32) <<< (nI s &&& 31)) ^^^ (-1))) (by rw [mI_ne3 (by decide)]; exact congrArg (· &&& _) v8) ?_
      refine rn_putI (N := 24) (pc' := 66) rfl rfl rfl rfl rfl (by first | assumption | decide | omega) ?_
      refine rn_aload_n (pc' := 67) rfl rfl rfl ?_
      refine rn_dupA (pc' := 68) rfl rfl ?_
      refine rn_getI (N := 24) (pc' := 71) rfl rfl rfl rfl (by decide) rfl (by first | assumption | decide | omega) ?_
      refine rn_iconst (pc' := 72) (v := 1) rfl rfl (by decide) ?_
      refine rn_iload_n (pc' := 73) rfl rfl rfl ?_
      refine rn_ishl (pc' := 74) rfl rfl ?_
      refine rn_ior (pc' := 75) rfl rfl ?_
      refine rn_topI (y := R.1 34 0 e ||| ((1 : Int32) <<< (nI s &&& 31))) (by rw [mI_ne3 (by decide), mI_ne3 (by decide)]; exact congrArg (· ||| _) v9) ?_
      refine rn_putI (N := 24) (pc' := 78) rfl rfl rfl rfl rfl (by first | assumption | decide | omega) ?_
      refine rn_aload_n (pc' := 79) rfl rfl rfl ?_
      refine rn_aload_n (pc' := 80) rfl rfl rfl ?_
      refine rn_getF (N := 24) (t' := 2) (pc' := 83) rfl rfl rfl rfl rfl (by first | assumption | decide | omega) ?_
      refine rn_iload_n (pc' := 84) rfl rfl rfl ?_
      refine rn_iald (N := 24) (K := 21) (pc' := 85) rfl rfl ⟨rfl, rfl⟩ rfl (by first | assumption | decide | omega) rfl (by decide) rfl (by first | assumption | decide | omega) ?_
      refine rn_iconst (pc' := 86) (v := 2) rfl rfl (by decide) ?_
      refine rn_isub (pc' := 87) rfl rfl ?_
      refine rn_topI (y := R.1 32 0 (21 * e + s) - 2) (congrArg (· - (2 : Int32)) vs) ?_
      refine rn_putI (N := 24) (pc' := 90) rfl rfl rfl rfl rfl (by first | assumption | decide | omega) ?_
      refine rn_aload_n (pc' := 91) rfl rfl rfl ?_
      refine rn_dupA (pc' := 92) rfl rfl ?_
      refine rn_getI (N := 1) (pc' := 95) rfl rfl rfl rfl (by decide) rfl (by first | assumption | decide | omega) ?_
      refine rn_iconst (pc' := 96) (v := 1) rfl rfl (by decide) ?_
      refine rn_iadd (pc' := 97) rfl rfl ?_
      refine rn_topI (y := R.1 20 0 38 + 1) (congrArg (· + (1 : Int32)) v17) ?_
      refine rn_putI (N := 1) (pc' := 100) rfl rfl rfl rfl rfl (by first | assumption | decide | omega) ?_
      refine rn_return rfl rfl ?_
      exact ⟨rfl, fin.q⟩
    · (rw [v12] at h1; exact absurd (hlt.mpr hh4) h1)
