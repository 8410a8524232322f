theorem tr_is {M : xM} {t e : Nat} : ∀ {m k : Nat}, trF M t m k = some e → 0 < M.1 25 0 e ∧ M.1 28 0 e = 0 := by
  intro m
  induction m with
  | zero => intro k h; cases h
  | succ m ih =>
    intro k h
    unfold trF at h
    split at h
    · rename_i hc
      cases h; exact hc
    · exact ih h
theorem bt_0 (s : Nat) : bt 0 s = false := by
  unfold bt
  show (0#32).getLsbD s = false
  simp
theorem in_iff {x y : Int32} {n : Nat} (hn : n ≤ 60) (hy : y = nI n) : (0 ≤ x.toInt64 ∧ x.toInt64 ≤ (y - 1).toInt64) ↔ (¬ x < 0 ∧ x < y) := by
  rw [i64_in, Int32.lt_iff_toInt_lt, Int32.lt_iff_toInt_lt]
  have h0 : (0 : Int64).toInt = 0 := by decide
  have h1 : (0 : Int32).toInt = 0 := by decide
  have h2 : (y - 1).toInt64.toInt = (n : Int) - 1 := by
    rw [Int32.toInt_toInt64, hy]
    exact pk_sub_toInt (a := n) (b := 1) (by omega) (by decide)
  have h3 : y.toInt = n := by rw [hy]; exact nI_toInt (by omega)
  omega
theorem tt_ok {d e t u : Nat} {C R : xM} (h : Inv C R 0) (h30 : R.1 20 0 30 = 0) (hT : Tm (t + 1) t R) (hu : R.1 20 0 25 = nI u) (hu24 : u < 24) (htr : tr R u = some e) : ∃ F, Rn (d + 5) 88 (0, xen 88 [vR 20 0], [], R) (fun r M' => r = some (vI 1) ∧ M' = F) ∧ Rn (d + 6) 19 (0, xen 19 [vR 9 0, vR 0 e], [], mI C 9 0 11 (nI e)) (fun r C' => r = none ∧ QP (t + 1) C' F) := by
  have he := trF_lt htr
  obtain ⟨hl, h0⟩ := tr_is htr
  have h4 : ¬ R.1 28 0 e = 4 := by rw [h0]; decide
  have hI1 : Inv (mI C 9 0 11 (nI e)) (mI R 20 0 25 (nI e)) 0 := by
    obtain ⟨⟨a1, a2, a3, a4, a5, a6, a7, a8, a9, a10, a11, a12⟩, a13, b1, b2, b3, b4, b5, b7, b9, b10, b11, b14⟩ := h
    exact ⟨⟨a1, a2, a3, a4, a5, a6, a7, a8, a9, A10_set a10 (by decide), a11, a12⟩, a13, b1, b2, b3, b4, b5, b7, b9, b10, ⟨b11.1, ⟨e, he, rfl⟩, b11.2.2⟩, b14⟩
  have hT1 : Tm (t + 1) (t + 1) (mI R 20 0 25 (nI e)) := hT.mono (by omega)
  have v8 : C.1 0 e 8 = R.1 33 0 e := pnd_eq h he hl
  have v9 : C.1 0 e 9 = R.1 34 0 e := f1 h.1.1 he (by decide)
  have ex : C.1 0 e 8 &&& (C.1 0 e 9 ^^^ (-1)) = rdyV R e := by rw [v8, v9]
  have hM : rdyV R e &&& 2097150 = rdyV R e := M_and (pnd_M h he hl) _
  by_cases hr : rdyV R e = 0
  · -- an act
    have hls : Rn (d + 5) 20 (0, xen 20 [vI (rdyV R e)], [], mI C 9 0 11 (nI e)) (fun r C' => r = some (vI (-1)) ∧ C' = mI C 9 0 11 (nI e)) := by
      refine (c_leastSignal (d := d + 5) (C := mI C 9 0 11 (nI e)) (rdyV R e)).imp (fun r C' hz => ⟨?_, hz.2⟩)
      rcases hz.1 with ⟨s, s1, s2, s3, -⟩ | ⟨-, q⟩
      · rw [hr, bt_0] at s3; cases s3
      · exact q
    obtain ⟨⟨pp, hpp, hpp2⟩, -⟩ := h.2.2.2.2.2.2.1 e he
    obtain ⟨sz, hsz, hsz2⟩ := h.2.2.2.2.2.2.2.2.2.2.2.1 pp hpp
    have v4 : C.1 0 e 4 = nI pp := (f1 h.1.1 he (by decide)).trans hpp2
    have v5 : C.1 0 e 5 = R.1 30 0 e := f1 h.1.1 he (by decide)
    have vsz : C.1 5 pp 3 = R.1 21 0 pp := (h.1.2.2.2.2.2.2.2.2.2.2.2 pp hpp).1
    have hin := in_iff (x := rnxt R e) hsz hsz2
    by_cases hin2 : 0 ≤ (rnxt R e).toInt64 ∧ (rnxt R e).toInt64 ≤ (R.1 21 0 pp - 1).toInt64
    · obtain ⟨q1, q2⟩ := hin.mp hin2
      obtain ⟨i, i1, i2⟩ := nI_of q1
      have i3 : i < sz := by
        rw [i2, hsz2] at q2
        exact (nI_ltI i1 (by omega)).mp q2
      obtain ⟨ja, hja, ea1, ea2⟩ := eig_lt (R.1 23 0 (60 * pp + i))
      obtain ⟨jb, hjb, eb1, eb2⟩ := eig_lt (R.1 24 0 (60 * pp + i))
      have ok : aOk (mI R 20 0 25 (nI e)) e pp i ja jb := ⟨he, hpp, by omega, hja, hjb, hpp2, i2, ea1, eb1⟩
      have hcx : Cx e t (mI (mI C 9 0 11 (nI e)) 0 e 5 (R.1 30 0 e + 1)) (nAct (mI R 20 0 25 (nI e)) e) := by
        refine ⟨he, Inv_fld (e := e) (k := 5) (t := 30) (v := R.1 30 0 e + 1) hI1 (by decide) (by decide) (by decide) (fun _ z => absurd (show R.1 28 0 e = 1 ∨ R.1 28 0 e = 2 from z) (by rw [h0]; decide)) hI1.2.2, hl, h0, h30, hT⟩
      obtain ⟨G, g1, g2⟩ := act_ok (d := d) ok hcx
      obtain ⟨r0, C0, -, hAP⟩ := g2.ex
      have vo := (h.1.2.2.2.2.2.2.2.2.2.2.2 pp hpp).2 i (by omega)
      refine ⟨hpF (rpid R e) e 20 1 G, ?_, ?_⟩
      · refine r_ttA (d := d + 1) R G hu hu24 htr hr hpp2 hpp hin2 g1 (fun M' s => ∃ C' n w, Inv C' M' n ∧ Pt M' n w (w + (21 - s))) ?_ ?_
        · rintro M' s ⟨C', n, w, k1, k2⟩ s1 s2 q1 q2
          have hl' : 0 < M'.1 25 0 e := by rw [show M'.1 25 0 e = R.1 25 0 e from q1]; exact hl
          refine ⟨fun hh => ?_, fun _ => ⟨C', n, w, k1, ⟨k2.1, k2.2.1, by have := k2.2.2; omega⟩⟩⟩
          have hC : Inv (mI C' 0 e 8 (rpnd M' e &&& (((1 : Int32) <<< (nI s &&& 31)) ^^^ (-1)))) (clr M' e s) n := Inv_pend k1 hl' (M_and (pnd_M k1 he hl') _)
          have hPc : Pt (clr M' e s) n w (w + (21 - (s + 1)) + if s = 19 ∨ s = 20 then 1 else 0) := by
            have : Pt (clr M' e s) n w (w + (21 - s)) := k2.of rfl rfl rfl (fun _ _ q => q)
            exact ⟨this.1, this.2.1, by have := this.2.2; split <;> omega⟩
          have h49 : ¬ M'.1 25 0 e = 1 → n + 49 ≤ 1224 := fun z => by
            have := lv_pos (M := M') he hl' z q2
            have := k2.2.2
            omega
          obtain ⟨n2, hP2⟩ := happen_pt (e := e) (s := s) hC he s2 hl' q2 hPc
          obtain ⟨r9, C9, -, n9, -, -, hI9⟩ := (c_happen (d := 0) hC he s2 hl' q2 h49).ex
          have x1 : n9 = n2 := rok_inj hI9.2.1.2.1 hP2.1 (by have := hI9.2.1.2.2.1; omega) (by have := hP2.2.2; omega)
          subst x1
          exact ⟨⟨n, Inv_gOk k1, k1.2.1.2.1, by have := k1.2.1.2.2.1; omega, n9, hP2.1, by have := hP2.2.2; omega⟩, C9, n9, w, hI9, hP2⟩
        · obtain ⟨n, w, k1, k2, -⟩ := hAP
          exact ⟨C0, n, w, k1, k2⟩
      · have hhp := fun (C' : xM) (hA : AP e (R.1 25 0 e) (t + 1) C' G) => c_happenPending (d := d) he hl hA
        show Rn _ 19 (0, [some (vR 9 0), some (vR 0 e), none, none, none], [], _) _
        refine rn_aload_n (pc' := 1) rfl rfl rfl ?_
        refine rn_getI (N := 24) (pc' := 4) rfl rfl rfl rfl (by decide) rfl (by first | assumption | decide | omega) ?_
        refine rn_aload_n (pc' := 5) rfl rfl rfl ?_
        refine rn_getI (N := 24) (pc' := 8) rfl rfl rfl rfl (by decide) rfl (by first | assumption | decide | omega) ?_
        refine rn_iconst (pc' := 9) (v := (-1)) rfl rfl (by decide) ?_
        refine rn_ixor (pc' := 10) rfl rfl ?_
        refine rn_iand (pc' := 11) rfl rfl ?_
        refine rn_topI ex ?_
        refine rn_callS (pc' := 14) (as := [_]) rfl rfl rfl ⟨rfl, rfl, rfl⟩ (Nat.le_of_ble_eq_true rfl) (Nat.le_of_ble_eq_true rfl) rfl hls (fun r1 M1 hz => ?_)
        obtain ⟨rfl, hm_⟩ := hz
        refine rn_mem hm_ ?_
        clear hm_
        refine rn_istore_n (pc' := 15) rfl rfl rfl (Nat.le_of_ble_eq_true rfl) rfl ?_
        refine rn_iload_n (pc' := 16) rfl rfl rfl ?_
        refine rn_iconst (pc' := 17) (v := (-1)) rfl rfl (by decide) ?_
        refine rn_ic_eq (t := 27) (pc' := 20) rfl rfl rfl (fun h1 => ?_) (fun h1 => ?_)
        · refine rn_aload_n (pc' := 28) rfl rfl rfl ?_
          refine rn_getF (N := 1) (t' := 10) (pc' := 31) rfl rfl rfl rfl rfl (by first | assumption | decide | omega) ?_
          refine rn_aload_n (pc' := 32) rfl rfl rfl ?_
          refine rn_getI (N := 24) (pc' := 35) rfl rfl rfl rfl (by decide) rfl (by first | assumption | decide | omega) ?_
          refine rn_aaldF (t' := 5) (k := pp) (N := 1) (K := 16) (pc' := 36) rfl rfl rfl rfl rfl (by first | assumption | decide | omega) rfl (by decide) (v4) (by first | assumption | decide | omega) ?_
          refine rn_astore_n (pc' := 37) rfl rfl rfl (Nat.le_of_ble_eq_true rfl) rfl ?_
          refine rn_aload_n (pc' := 38) rfl rfl rfl ?_
          refine rn_getI (N := 24) (pc' := 41) rfl rfl rfl rfl (by decide) rfl (by first | assumption | decide | omega) ?_
          refine rn_topI (y := R.1 30 0 e) v5 ?_
          refine rn_istore (pc' := 43) rfl rfl rfl (Nat.le_of_ble_eq_true rfl) rfl ?_
          refine rn_iload (pc' := 45) rfl rfl rfl ?_
          refine rn_if_lt (t := 57) (pc' := 48) rfl rfl rfl (fun h2 => ?_) (fun h2 => ?_)
          · first | exact absurd h2 q1 | exact absurd (show rnxt R e < C.1 5 pp 3 by rw [vsz]; exact q2) h3
          · refine rn_iload (pc' := 50) rfl rfl rfl ?_
            refine rn_aload_n (pc' := 51) rfl rfl rfl ?_
            refine rn_getI (N := 16) (pc' := 54) rfl rfl rfl rfl (by decide) rfl (by first | assumption | decide | omega) ?_
            refine rn_ic_lt (t := 64) (pc' := 57) rfl rfl rfl (fun h3 => ?_) (fun h3 => ?_)
            · refine rn_aload_n (pc' := 65) rfl rfl rfl ?_
              refine rn_iload (pc' := 67) rfl rfl rfl ?_
              refine rn_iconst (pc' := 68) (v := 1) rfl rfl (by decide) ?_
              refine rn_iadd (pc' := 69) rfl rfl ?_
              refine rn_putI (N := 24) (pc' := 72) rfl rfl rfl rfl rfl (by first | assumption | decide | omega) ?_
              refine rn_aload_n (pc' := 73) rfl rfl rfl ?_
              refine rn_aload_n (pc' := 74) rfl rfl rfl ?_
              refine rn_aload_n (pc' := 75) rfl rfl rfl ?_
              refine rn_getF (N := 16) (t' := 6) (pc' := 78) rfl rfl rfl rfl rfl (by first | assumption | decide | omega) ?_
              refine rn_iload (pc' := 80) rfl rfl rfl ?_
              refine rn_iald (k := i) (N := 16) (K := 60) (pc' := 81) rfl rfl ⟨rfl, rfl⟩ rfl (by first | assumption | decide | omega) rfl (by decide) (i2) (by first | assumption | decide | omega) ?_
              refine rn_topI (y := R.1 22 0 (60 * pp + i)) vo.1 ?_
              refine rn_aload_n (pc' := 82) rfl rfl rfl ?_
              refine rn_getF (N := 16) (t' := 7) (pc' := 85) rfl rfl rfl rfl rfl (by first | assumption | decide | omega) ?_
              refine rn_iload (pc' := 87) rfl rfl rfl ?_
              refine rn_iald (k := i) (N := 16) (K := 60) (pc' := 88) rfl rfl ⟨rfl, rfl⟩ rfl (by first | assumption | decide | omega) rfl (by decide) (i2) (by first | assumption | decide | omega) ?_
              refine rn_topI (y := R.1 23 0 (60 * pp + i)) vo.2.1 ?_
              refine rn_aload_n (pc' := 89) rfl rfl rfl ?_
              refine rn_getF (N := 16) (t' := 8) (pc' := 92) rfl rfl rfl rfl rfl (by first | assumption | decide | omega) ?_
              refine rn_iload (pc' := 94) rfl rfl rfl ?_
              refine rn_iald (k := i) (N := 16) (K := 60) (pc' := 95) rfl rfl ⟨rfl, rfl⟩ rfl (by first | assumption | decide | omega) rfl (by decide) (i2) (by first | assumption | decide | omega) ?_
              refine rn_topI (y := R.1 24 0 (60 * pp + i)) vo.2.2 ?_
              refine rn_callV (pc' := 98) (as := [_, _, _, _]) rfl rfl rfl ⟨Nat.le_of_ble_eq_true rfl, rfl, rfl⟩ rfl (by first | assumption | decide | omega) (Nat.le_of_ble_eq_true rfl) (Nat.le_of_ble_eq_true rfl) rfl g2 (fun r9 D9 hz9 => ?_)
              obtain ⟨rfl, hA⟩ := hz9
              refine rn_aload_n (pc' := 99) rfl rfl rfl ?_
              refine rn_aload_n (pc' := 100) rfl rfl rfl ?_
              refine rn_callV (pc' := 103) (as := [_]) rfl rfl rfl ⟨Nat.le_of_ble_eq_true rfl, rfl, rfl⟩ rfl (by first | assumption | decide | omega) (Nat.le_of_ble_eq_true rfl) (Nat.le_of_ble_eq_true rfl) rfl (hhp D9 hA) (fun r8 D8 hz8 => ?_)
              obtain ⟨rfl, hQ⟩ := hz8
              refine rn_return rfl rfl ?_
              exact ⟨rfl, hQ⟩
            · first | exact absurd h2 q1 | exact absurd (show rnxt R e < C.1 5 pp 3 by rw [vsz]; exact q2) h3
        · exact absurd rfl h1
    · have hout : ¬ (¬ rnxt R e < 0 ∧ rnxt R e < R.1 21 0 pp) := fun z => hin2 (hin.mpr z)
      refine ⟨f_end (mI R 20 0 25 (nI e)) e 0, ?_, ?_⟩
      · refine r_ttE (d := d + 1) (n := 0) R hu hu24 htr hr hpp2 hpp hin2 (end_ref (d := d + 2) 0 hI1 (by omega) he hl h4) (fun z => ?_)
        by_cases hp1 : R.1 25 0 e = 1
        · have ef : f_end (mI R 20 0 25 (nI e)) e 0 = f_panic (mI (mI R 20 0 25 (nI e)) 20 0 36 ((mI R 20 0 25 (nI e)).1 20 0 36 + 1)) := by unfold f_end; rw [if_pos (show rpid (mI R 20 0 25 (nI e)) e = 1 from hp1)]
          have : rpid (f_end (mI R 20 0 25 (nI e)) e 0) e = 0 := by
            rw [ef]
            show (if e < 24 then (0 : Int32) else _) = 0
            rw [if_pos he]
          rw [this, show rpid R e = 1 from hp1] at z
          exact absurd z.1 (by decide)
        · exact z.2 (end_rows (M := mI R 20 0 25 (nI e)) (e := e) 0 hp1).2.2
      · have hc := c_end (d := d + 2) 0 hI1 he hl (fun _ => by omega)
        show Rn _ 19 (0, [some (vR 9 0), some (vR 0 e), none, none, none], [], _) _
        refine rn_aload_n (pc' := 1) rfl rfl rfl ?_
        refine rn_getI (N := 24) (pc' := 4) rfl rfl rfl rfl (by decide) rfl (by first | assumption | decide | omega) ?_
        refine rn_aload_n (pc' := 5) rfl rfl rfl ?_
        refine rn_getI (N := 24) (pc' := 8) rfl rfl rfl rfl (by decide) rfl (by first | assumption | decide | omega) ?_
        refine rn_iconst (pc' := 9) (v := (-1)) rfl rfl (by decide) ?_
        refine rn_ixor (pc' := 10) rfl rfl ?_
        refine rn_iand (pc' := 11) rfl rfl ?_
        refine rn_topI ex ?_
        refine rn_callS (pc' := 14) (as := [_]) rfl rfl rfl ⟨rfl, rfl, rfl⟩ (Nat.le_of_ble_eq_true rfl) (Nat.le_of_ble_eq_true rfl) rfl hls (fun r1 M1 hz => ?_)
        obtain ⟨rfl, hm_⟩ := hz
        refine rn_mem hm_ ?_
        clear hm_
        refine rn_istore_n (pc' := 15) rfl rfl rfl (Nat.le_of_ble_eq_true rfl) rfl ?_
        refine rn_iload_n (pc' := 16) rfl rfl rfl ?_
        refine rn_iconst (pc' := 17) (v := (-1)) rfl rfl (by decide) ?_
        refine rn_ic_eq (t := 27) (pc' := 20) rfl rfl rfl (fun h1 => ?_) (fun h1 => ?_)
        · refine rn_aload_n (pc' := 28) rfl rfl rfl ?_
          refine rn_getF (N := 1) (t' := 10) (pc' := 31) rfl rfl rfl rfl rfl (by first | assumption | decide | omega) ?_
          refine rn_aload_n (pc' := 32) rfl rfl rfl ?_
          refine rn_getI (N := 24) (pc' := 35) rfl rfl rfl rfl (by decide) rfl (by first | assumption | decide | omega) ?_
          refine rn_aaldF (t' := 5) (k := pp) (N := 1) (K := 16) (pc' := 36) rfl rfl rfl rfl rfl (by first | assumption | decide | omega) rfl (by decide) (v4) (by first | assumption | decide | omega) ?_
          refine rn_astore_n (pc' := 37) rfl rfl rfl (Nat.le_of_ble_eq_true rfl) rfl ?_
          refine rn_aload_n (pc' := 38) rfl rfl rfl ?_
          refine rn_getI (N := 24) (pc' := 41) rfl rfl rfl rfl (by decide) rfl (by first | assumption | decide | omega) ?_
          refine rn_topI (y := R.1 30 0 e) v5 ?_
          refine rn_istore (pc' := 43) rfl rfl rfl (Nat.le_of_ble_eq_true rfl) rfl ?_
          refine rn_iload (pc' := 45) rfl rfl rfl ?_
          refine rn_if_lt (t := 57) (pc' := 48) rfl rfl rfl (fun h2 => ?_) (fun h2 => ?_)
          · refine rn_aload_n (pc' := 58) rfl rfl rfl ?_
            refine rn_aload_n (pc' := 59) rfl rfl rfl ?_
            refine rn_iconst (pc' := 60) (v := 0) rfl rfl (by decide) ?_
            refine rn_callV (pc' := 63) (as := [_, _]) rfl rfl rfl ⟨Nat.le_of_ble_eq_true rfl, rfl, rfl⟩ rfl (by first | assumption | decide | omega) (Nat.le_of_ble_eq_true rfl) (Nat.le_of_ble_eq_true rfl) rfl hc (fun r9 D9 hz9 => ?_)
            obtain ⟨rfl, n', -, hI'⟩ := hz9
            refine rn_return rfl rfl ?_
            exact ⟨rfl, (AP_end (p := 0) 0 hI1 (by omega) he hl h4 h30 hT1 hI').q⟩
          · refine rn_iload (pc' := 50) rfl rfl rfl ?_
            refine rn_aload_n (pc' := 51) rfl rfl rfl ?_
            refine rn_getI (N := 16) (pc' := 54) rfl rfl rfl rfl (by decide) rfl (by first | assumption | decide | omega) ?_
            refine rn_ic_lt (t := 64) (pc' := 57) rfl rfl rfl (fun h3 => ?_) (fun h3 => ?_)
            · exact absurd ⟨h2, by rw [← vsz]; exact h3⟩ hout
            · refine rn_aload_n (pc' := 58) rfl rfl rfl ?_
              refine rn_aload_n (pc' := 59) rfl rfl rfl ?_
              refine rn_iconst (pc' := 60) (v := 0) rfl rfl (by decide) ?_
              refine rn_callV (pc' := 63) (as := [_, _]) rfl rfl rfl ⟨Nat.le_of_ble_eq_true rfl, rfl, rfl⟩ rfl (by first | assumption | decide | omega) (Nat.le_of_ble_eq_true rfl) (Nat.le_of_ble_eq_true rfl) rfl hc (fun r9 D9 hz9 => ?_)
              obtain ⟨rfl, n', -, hI'⟩ := hz9
              refine rn_return rfl rfl ?_
              exact ⟨rfl, (AP_end (p := 0) 0 hI1 (by omega) he hl h4 h30 hT1 hI').q⟩
        · exact absurd rfl h1
  · -- a handler
    obtain ⟨s, s1, s2, s3, s4⟩ : ∃ s, 1 ≤ s ∧ s < 21 ∧ bt (rdyV R e) s = true ∧ ∀ i, 1 ≤ i → i < s → bt (rdyV R e) i = false := by
      obtain ⟨r0, C0, hz, -⟩ := (c_leastSignal (d := 0) (C := C) (rdyV R e)).ex
      rcases hz with ⟨s, s1, s2, s3, s4, -⟩ | ⟨q, -⟩
      · exact ⟨s, s1, s2, s3, s4⟩
      · exact absurd (M_zero hM q) hr
    have hls : Rn (d + 5) 20 (0, xen 20 [vI (rdyV R e)], [], mI C 9 0 11 (nI e)) (fun r C' => r = some (vI (nI s)) ∧ C' = mI C 9 0 11 (nI e)) := by
      refine (c_leastSignal (d := d + 5) (C := mI C 9 0 11 (nI e)) (rdyV R e)).imp (fun r C' hz => ⟨?_, hz.2⟩)
      rcases hz.1 with ⟨s', y1, y2, y3, y4, y5⟩ | ⟨q, -⟩
      · have : s' = s := by
          by_cases hlt : s' < s
          · have := s4 s' y1 hlt; rw [y3] at this; cases this
          · by_cases hgt : s < s'
            · have := y4 s s1 hgt; rw [s3] at this; cases this
            · omega
        rw [y5, this]
      · rw [q s s1 s2] at s3; cases s3
    obtain ⟨-, hh, hh4, hh5⟩ := h.2.2.2.2.2.2.1 e he
    refine ⟨if hh = 4 then f_end (mI R 20 0 25 (nI e)) e 11 else f_beg (mI R 20 0 25 (nI e)) e s hh, ?_, ?_⟩
    · refine r_ttH (d := d + 4) R _ hu hu24 htr hr ?_
      refine r_begin (d := d + 1) (n := 0) _ (rdyV R e) he s1 s2 (fun i q1 q2 => ?_) (fun z => ?_) hh5 hh4 (Inv_gOk hI1) hI1.2.1.2.1 (by omega) (fun _ _ => ?_)
      · exact (bt_shr0 _ (by omega)).mpr (s4 i q1 q2)
      · rw [(bt_shr0 _ s2).mp z] at s3; cases s3
      · obtain ⟨n', hP⟩ := end_pt 11 hI1 he hl h4 (Pt_of hI1 (by omega))
        exact ⟨n', hP.1, by have := hP.2.2; omega⟩
    · have hb := c_begin (d := d + 1) hI1 he hl h0 s1 s2 hh5 hh4 h30 hT1
      have hne : ¬ nI s = -1 := fun z => by
        have := nI_pos (n := s) (by omega)
        rw [z] at this; exact this (by decide)
      show Rn _ 19 (0, [some (vR 9 0), some (vR 0 e), none, none, none], [], _) _
      refine rn_aload_n (pc' := 1) rfl rfl rfl ?_
      refine rn_getI (N := 24) (pc' := 4) rfl rfl rfl rfl (by decide) rfl (by first | assumption | decide | omega) ?_
      refine rn_aload_n (pc' := 5) rfl rfl rfl ?_
      refine rn_getI (N := 24) (pc' := 8) rfl rfl rfl rfl (by decide) rfl (by first | assumption | decide | omega) ?_
      refine rn_iconst (pc' := 9) (v := (-1)) rfl rfl (by decide) ?_
      refine rn_ixor (pc' := 10) rfl rfl ?_
      refine rn_iand (pc' := 11) rfl rfl ?_
      refine rn_topI ex ?_
      refine rn_callS (pc' := 14) (as := [_]) rfl rfl rfl ⟨rfl, rfl, rfl⟩ (Nat.le_of_ble_eq_true rfl) (Nat.le_of_ble_eq_true rfl) rfl hls (fun r1 M1 hz => ?_)
      obtain ⟨rfl, hm_⟩ := hz
      refine rn_mem hm_ ?_
      clear hm_
      refine rn_istore_n (pc' := 15) rfl rfl rfl (Nat.le_of_ble_eq_true rfl) rfl ?_
      refine rn_iload_n (pc' := 16) rfl rfl rfl ?_
      refine rn_iconst (pc' := 17) (v := (-1)) rfl rfl (by decide) ?_
      refine rn_ic_eq (t := 27) (pc' := 20) rfl rfl rfl (fun h1 => ?_) (fun h1 => ?_)
      · exact absurd h1 hne
      · refine rn_aload_n (pc' := 21) rfl rfl rfl ?_
        refine rn_aload_n (pc' := 22) rfl rfl rfl ?_
        refine rn_iload_n (pc' := 23) rfl rfl rfl ?_
        refine rn_callV (pc' := 26) (as := [_, _]) rfl rfl rfl ⟨Nat.le_of_ble_eq_true rfl, rfl, rfl⟩ rfl (by first | assumption | decide | omega) (Nat.le_of_ble_eq_true rfl) (Nat.le_of_ble_eq_true rfl) rfl hb (fun r9 D9 hz9 => ?_)
        obtain ⟨rfl, hQ⟩ := hz9
        refine rn_return rfl rfl ?_
        exact ⟨rfl, hQ⟩
theorem c_nextReady {d n u : Nat} {C R : xM} (h : Inv C R n) (hu : R.1 20 0 25 = nI u) (hu24 : u < 24) : Rn d 18 (0, xen 18 [vR 9 0], [], C) (fun r C' => r = some (vI (oI (tr R u))) ∧ C' = C) := by
  have v11 : C.1 9 0 11 = nI u := (A10_l.mp h.1.2.2.2.2.2.2.2.2.2.1 (11, 25) (by decide)).trans hu
  have loop : ∀ (m i : Nat) (x2 : Option xV), i + m = 25 → 1 ≤ i → trF R u m i = tr R u → Rn d 18 (2, [some (vR 9 0), some (vI (nI i)), x2], [], C) (fun r C' => r = some (vI (oI (tr R u))) ∧ C' = C) := by
    intro m
    induction m with
    | zero =>
      intro i x2 hi hi1 hq
      obtain rfl : i = 25 := by omega
      rw [← hq]
      refine rn_iload_n (pc' := 3) rfl rfl rfl ?_
      refine rn_bipush (pc' := 5) (v := 24) rfl rfl (by decide) ?_
      refine rn_ic_gt (t := 50) (pc' := 8) rfl rfl rfl (fun h1 => ?_) (fun h1 => ?_)
      · refine rn_iconst (pc' := 51) (v := (-1)) rfl rfl (by decide) ?_
        refine rn_ireturn rfl rfl ?_
        exact ⟨rfl, rfl⟩
      · exact absurd (show (24 : Int32) < nI 25 by decide) h1
    | succ m ih =>
      intro i x2 hi hi1 hq
      have n24 : ¬ (24 : Int32) < nI i := by
        show ¬ nI 24 < nI i
        exact nI_nlt (by omega) (by omega)
      have hk : (u + i) % 24 < 24 := Nat.mod_lt _ (by decide)
      have er : (C.1 9 0 11 + nI i) - (C.1 9 0 11 + nI i) / 24 * 24 = nI ((u + i) % 24) := by rw [v11]; exact rem24 u i (by omega)
      generalize hkk : (u + i) % 24 = k at hk er
      have v0 : C.1 0 k 0 = R.1 25 0 k := f1 h.1.1 hk (by decide)
      have v3 : C.1 0 k 3 = R.1 28 0 k := f1 h.1.1 hk (by decide)
      rw [show trF R u (m + 1) i = if 0 < rpid R ((u + i) % 24) ∧ rste R ((u + i) % 24) = 0 then some ((u + i) % 24) else trF R u m (i + 1) from rfl, hkk] at hq
      by_cases hc : 0 < rpid R k ∧ rste R k = 0
      · rw [if_pos hc] at hq
        rw [← hq]
        have hne : ¬ C.1 0 k 0 = 0 := by rw [v0]; exact fun q => by rw [show rpid R k = 0 from q] at hc; exact absurd hc.1 (by decide)
        refine rn_iload_n (pc' := 3) rfl rfl rfl ?_
        refine rn_bipush (pc' := 5) (v := 24) rfl rfl (by decide) ?_
        refine rn_ic_gt (t := 50) (pc' := 8) rfl rfl rfl (fun h1 => ?_) (fun h1 => ?_)
        · exact absurd h1 n24
        · refine rn_aload_n (pc' := 9) rfl rfl rfl ?_
          refine rn_getI (N := 1) (pc' := 12) rfl rfl rfl rfl (by decide) rfl (by first | assumption | decide | omega) ?_
          refine rn_iload_n (pc' := 13) rfl rfl rfl ?_
          refine rn_iadd (pc' := 14) rfl rfl ?_
          refine rn_bipush (pc' := 16) (v := 24) rfl rfl (by decide) ?_
          refine rn_irem (pc' := 17) rfl rfl (by decide) ?_
          refine rn_topI er ?_
          refine rn_istore_n (pc' := 18) rfl rfl rfl (Nat.le_of_ble_eq_true rfl) rfl ?_
          refine rn_aload_n (pc' := 19) rfl rfl rfl ?_
          refine rn_getF (N := 1) (t' := 11) (pc' := 22) rfl rfl rfl rfl rfl (by first | assumption | decide | omega) ?_
          refine rn_iload_n (pc' := 23) rfl rfl rfl ?_
          refine rn_aaldF (t' := 0) (N := 1) (K := 24) (pc' := 24) rfl rfl rfl rfl rfl (by first | assumption | decide | omega) rfl (by decide) rfl (by first | assumption | decide | omega) ?_
          refine rn_getI (N := 24) (pc' := 27) rfl rfl rfl rfl (by decide) rfl (by first | assumption | decide | omega) ?_
          refine rn_if_eq (t := 44) (pc' := 30) rfl rfl rfl (fun h2 => ?_) (fun h2 => ?_)
          · first | exact absurd h2 hne | exact absurd (v3.trans hc.2) h3
          · refine rn_aload_n (pc' := 31) rfl rfl rfl ?_
            refine rn_getF (N := 1) (t' := 11) (pc' := 34) rfl rfl rfl rfl rfl (by first | assumption | decide | omega) ?_
            refine rn_iload_n (pc' := 35) rfl rfl rfl ?_
            refine rn_aaldF (t' := 0) (N := 1) (K := 24) (pc' := 36) rfl rfl rfl rfl rfl (by first | assumption | decide | omega) rfl (by decide) rfl (by first | assumption | decide | omega) ?_
            refine rn_getI (N := 24) (pc' := 39) rfl rfl rfl rfl (by decide) rfl (by first | assumption | decide | omega) ?_
            refine rn_if_ne (t := 44) (pc' := 42) rfl rfl rfl (fun h3 => ?_) (fun h3 => ?_)
            · first | exact absurd h2 hne | exact absurd (v3.trans hc.2) h3
            · refine rn_iload_n (pc' := 43) rfl rfl rfl ?_
              refine rn_ireturn rfl rfl ?_
              exact ⟨rfl, rfl⟩
      · rw [if_neg hc] at hq
        have nx := fun x2 => ih (i + 1) x2 (by omega) (by omega) hq
        have hpos : ¬ R.1 25 0 k = 0 → 0 < R.1 25 0 k := fun q => (lv_or h.2.2.1 hk).resolve_left q
        refine rn_iload_n (pc' := 3) rfl rfl rfl ?_
        refine rn_bipush (pc' := 5) (v := 24) rfl rfl (by decide) ?_
        refine rn_ic_gt (t := 50) (pc' := 8) rfl rfl rfl (fun h1 => ?_) (fun h1 => ?_)
        · exact absurd h1 n24
        · refine rn_aload_n (pc' := 9) rfl rfl rfl ?_
          refine rn_getI (N := 1) (pc' := 12) rfl rfl rfl rfl (by decide) rfl (by first | assumption | decide | omega) ?_
          refine rn_iload_n (pc' := 13) rfl rfl rfl ?_
          refine rn_iadd (pc' := 14) rfl rfl ?_
          refine rn_bipush (pc' := 16) (v := 24) rfl rfl (by decide) ?_
          refine rn_irem (pc' := 17) rfl rfl (by decide) ?_
          refine rn_topI er ?_
          refine rn_istore_n (pc' := 18) rfl rfl rfl (Nat.le_of_ble_eq_true rfl) rfl ?_
          refine rn_aload_n (pc' := 19) rfl rfl rfl ?_
          refine rn_getF (N := 1) (t' := 11) (pc' := 22) rfl rfl rfl rfl rfl (by first | assumption | decide | omega) ?_
          refine rn_iload_n (pc' := 23) rfl rfl rfl ?_
          refine rn_aaldF (t' := 0) (N := 1) (K := 24) (pc' := 24) rfl rfl rfl rfl rfl (by first | assumption | decide | omega) rfl (by decide) rfl (by first | assumption | decide | omega) ?_
          refine rn_getI (N := 24) (pc' := 27) rfl rfl rfl rfl (by decide) rfl (by first | assumption | decide | omega) ?_
          refine rn_if_eq (t := 44) (pc' := 30) rfl rfl rfl (fun h2 => ?_) (fun h2 => ?_)
          · refine rn_iinc (pc' := 47) rfl rfl rfl (nI_inc _) rfl (Nat.le_of_ble_eq_true rfl) rfl ?_
            refine rn_goto (pc' := 2) rfl rfl ?_
            exact nx _
          · refine rn_aload_n (pc' := 31) rfl rfl rfl ?_
            refine rn_getF (N := 1) (t' := 11) (pc' := 34) rfl rfl rfl rfl rfl (by first | assumption | decide | omega) ?_
            refine rn_iload_n (pc' := 35) rfl rfl rfl ?_
            refine rn_aaldF (t' := 0) (N := 1) (K := 24) (pc' := 36) rfl rfl rfl rfl rfl (by first | assumption | decide | omega) rfl (by decide) rfl (by first | assumption | decide | omega) ?_
            refine rn_getI (N := 24) (pc' := 39) rfl rfl rfl rfl (by decide) rfl (by first | assumption | decide | omega) ?_
            refine rn_if_ne (t := 44) (pc' := 42) rfl rfl rfl (fun h3 => ?_) (fun h3 => ?_)
            · refine rn_iinc (pc' := 47) rfl rfl rfl (nI_inc _) rfl (Nat.le_of_ble_eq_true rfl) rfl ?_
              refine rn_goto (pc' := 2) rfl rfl ?_
              exact nx _
            · (rw [v0] at h2; exact absurd ⟨hpos h2, v3.symm.trans h3⟩ hc)
  show Rn _ 18 (0, [some (vR 9 0), none, none], [], _) _
  refine rn_iconst (pc' := 1) (v := 1) rfl rfl (by decide) ?_
  refine rn_istore_n (pc' := 2) rfl rfl rfl (Nat.le_of_ble_eq_true rfl) rfl ?_
  exact loop 24 1 none rfl (Nat.le_refl _) rfl
