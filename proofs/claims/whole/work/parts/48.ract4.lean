def kpB (M : xM) (e : Nat) (v : Int32) (k : Nat) : Bool := decide (0 < rpid M k) && (if v = -1 then (!decide (k = e) && !decide (rpid M k = 1)) else mns M e v k)
def ksF (e : Nat) (v s : Int32) : Nat → Nat → xM × Nat → xM × Nat
  | 0, _, q => q
  | m + 1, i, q => ksF e v s m (i + 1) (if kpB q.1 e v i = true ∧ 0 < s then f_send q.1 i s else q.1, if kpB q.1 e v i = true then q.2 + 1 else q.2)
abbrev isSg (s : Int32) : Prop := 0 ≤ s.toInt64 ∧ s.toInt64 ≤ 20
def f_killY (M : xM) (e a : Nat) (v s : Int32) : xM := mI (ksF e v s 24 0 (M, 0)).1 31 0 (8 * e + a) (if 0 < nI (ksF e v s 24 0 (M, 0)).2 then 0 else -3)
theorem ksF_rok (e : Nat) (v s : Int32) : ∀ (m i n c : Nat) (M : xM), rok M n → ∃ n', n ≤ n' ∧ n' ≤ n + m ∧ rok (ksF e v s m i (M, c)).1 n' := by
  intro m
  induction m with
  | zero => intro i n c M h; exact ⟨n, Nat.le_refl _, by omega, h⟩
  | succ m ih =>
    intro i n c M h
    unfold ksF
    by_cases hk : kpB M e v i = true ∧ 0 < s
    · simp only [if_pos hk]
      obtain ⟨n', h1, h2, h3⟩ := ih (i + 1) (n + 1) _ _ (rok_send h i s)
      exact ⟨n', by omega, by omega, h3⟩
    · simp only [if_neg hk]
      obtain ⟨n', h1, h2, h3⟩ := ih (i + 1) n _ _ h
      exact ⟨n', by omega, by omega, h3⟩
theorem r_killN {d e a b : Nat} (M : xM) (he : e < 24) (ha : a < 8) (hb : b < 8) (hs : ¬ isSg (M.1 31 0 (8 * e + b))) : Rn (d + 1) 97 (0, xen 97 [vR 20 0, vI (nI e), vI (nI (8 * e + a)), vI (nI (8 * e + b))], [], M) (fun r M' => r = none ∧ M' = mI M 31 0 (8 * e + a) (-22)) := by
  show Rn _ 97 (0, [some (vR 20 0), some (vI (nI e)), some (vI (nI (8 * e + a))), some (vI (nI (8 * e + b))), none, none, none, none, none], [], _) _
  refine rn_aload_n (pc' := 1) rfl rfl rfl ?_
  refine rn_getF (N := 1) (t' := 31) (pc' := 4) rfl rfl rfl rfl rfl (by first | assumption | decide | omega) ?_
  refine rn_iload_n (pc' := 5) rfl rfl rfl ?_
  refine rn_iald (N := 1) (K := 192) (pc' := 6) rfl rfl ⟨rfl, rfl⟩ rfl (by first | assumption | decide | omega) rfl (by decide) rfl (by first | assumption | decide | omega) ?_
  refine rn_istore (pc' := 8) rfl rfl rfl (Nat.le_of_ble_eq_true rfl) rfl ?_
  refine rn_aload_n (pc' := 9) rfl rfl rfl ?_
  refine rn_getF (N := 1) (t' := 31) (pc' := 12) rfl rfl rfl rfl rfl (by first | assumption | decide | omega) ?_
  refine rn_iload_n (pc' := 13) rfl rfl rfl ?_
  refine rn_iald (N := 1) (K := 192) (pc' := 14) rfl rfl ⟨rfl, rfl⟩ rfl (by first | assumption | decide | omega) rfl (by decide) rfl (by first | assumption | decide | omega) ?_
  refine rn_istore (pc' := 16) rfl rfl rfl (Nat.le_of_ble_eq_true rfl) rfl ?_
  refine rn_iload (pc' := 18) rfl rfl rfl ?_
  refine rn_i2l (pc' := 19) rfl rfl ?_
  refine rn_lconst (pc' := 20) (v := 0) rfl rfl rfl ?_
  refine rn_ldc2_w (pc' := 23) (v := 20) rfl rfl rfl ?_
  refine rn_callS (pc' := 26) (as := [_, _, _]) rfl rfl rfl ⟨rfl, rfl, rfl⟩ (Nat.le_of_ble_eq_true rfl) (Nat.le_of_ble_eq_true rfl) rfl (r_in M _ 0 20) (fun r1 M1 hz => ?_)
  obtain ⟨rfl, hm_⟩ := hz
  refine rn_mem hm_ ?_
  clear hm_
  refine rn_if_ne (t := 38) (pc' := 29) rfl rfl rfl (fun h2 => ?_) (fun h2 => ?_)
  · exact absurd (ite01.mpr hs) h2
  · refine rn_aload_n (pc' := 30) rfl rfl rfl ?_
    refine rn_getF (N := 1) (t' := 31) (pc' := 33) rfl rfl rfl rfl rfl (by first | assumption | decide | omega) ?_
    refine rn_iload_n (pc' := 34) rfl rfl rfl ?_
    refine rn_bipush (pc' := 36) (v := (-22)) rfl rfl (by decide) ?_
    refine rn_iast (N := 1) (K := 192) (pc' := 37) rfl rfl ⟨rfl, rfl⟩ rfl (by first | assumption | decide | omega) rfl (by decide) rfl (by first | assumption | decide | omega) ?_
    refine rn_return rfl rfl ?_
    exact ⟨rfl, rfl⟩
theorem r_killY {d e a b n : Nat} (M : xM) (he : e < 24) (ha : a < 8) (hb : b < 8) (hs : isSg (M.1 31 0 (8 * e + b))) (hn : rok M n) (hn4 : n + 24 ≤ 4000) : Rn (d + 1) 97 (0, xen 97 [vR 20 0, vI (nI e), vI (nI (8 * e + a)), vI (nI (8 * e + b))], [], M) (fun r M' => r = none ∧ M' = f_killY M e a (M.1 31 0 (8 * e + a)) (M.1 31 0 (8 * e + b))) := by
  generalize hv : M.1 31 0 (8 * e + a) = v
  generalize hsg : M.1 31 0 (8 * e + b) = s at hs
  have loop : ∀ (m i n c : Nat) (N : xM) (x8 : Option xV), i + m = 24 → c ≤ i → rok N n → n + m ≤ 4000 → ksF e v s m i (N, c) = ksF e v s 24 0 (M, 0) → Rn (d + 1) 97 (44, [some (vR 20 0), some (vI (nI e)), some (vI (nI (8 * e + a))), some (vI (nI (8 * e + b))), some (vI v), some (vI s), some (vI (nI c)), some (vI (nI i)), x8], [], N) (fun r M' => r = none ∧ M' = f_killY M e a v s) := by
    intro m
    induction m with
    | zero =>
      intro i n c N x8 hi hc hn hn4 hq
      obtain rfl : i = 24 := by omega
      have ef : f_killY M e a v s = mI N 31 0 (8 * e + a) (if 0 < nI c then 0 else -3) := by unfold f_killY; rw [← hq]; rfl
      rw [ef]
      refine rn_iload (pc' := 46) rfl rfl rfl ?_
      refine rn_bipush (pc' := 48) (v := 24) rfl rfl (by decide) ?_
      refine rn_ic_ge (t := 145) (pc' := 51) rfl rfl rfl (fun h1 => ?_) (fun h1 => ?_)
      · refine rn_aload_n (pc' := 146) rfl rfl rfl ?_
        refine rn_getF (N := 1) (t' := 31) (pc' := 149) rfl rfl rfl rfl rfl (by first | assumption | decide | omega) ?_
        refine rn_iload_n (pc' := 150) rfl rfl rfl ?_
        refine rn_iload (pc' := 152) rfl rfl rfl ?_
        refine rn_if_le (t := 159) (pc' := 155) rfl rfl rfl (fun h2 => ?_) (fun h2 => ?_)
        · refine rn_bipush (pc' := 161) (v := (-3)) rfl rfl (by decide) ?_
          refine rn_iast (N := 1) (K := 192) (pc' := 162) rfl rfl ⟨rfl, rfl⟩ rfl (by first | assumption | decide | omega) rfl (by decide) rfl (by first | assumption | decide | omega) ?_
          refine rn_return rfl rfl ?_
          first | exact ⟨rfl, by rw [if_pos h2]⟩ | exact ⟨rfl, by rw [if_neg h2]⟩
        · refine rn_iconst (pc' := 156) (v := 0) rfl rfl (by decide) ?_
          refine rn_goto (pc' := 161) rfl rfl ?_
          refine rn_iast (N := 1) (K := 192) (pc' := 162) rfl rfl ⟨rfl, rfl⟩ rfl (by first | assumption | decide | omega) rfl (by decide) rfl (by first | assumption | decide | omega) ?_
          refine rn_return rfl rfl ?_
          first | exact ⟨rfl, by rw [if_pos h2]⟩ | exact ⟨rfl, by rw [if_neg h2]⟩
      · exact absurd ((lt24 (by omega)).mp h1) (by omega)
    | succ m ih =>
      intro i n c N x8 hi hc hn hn4 hq
      have hi24 : i < 24 := by omega
      unfold ksF at hq
      have hie : nI i = nI e ↔ i = e := nI_eq (by omega) (by omega)
      have tl : ∀ x, Rn (d + 1) 97 (139, [some (vR 20 0), some (vI (nI e)), some (vI (nI (8 * e + a))), some (vI (nI (8 * e + b))), some (vI v), some (vI s), some (vI (nI (if kpB N e v i = true then c + 1 else c))), some (vI (nI i)), some x], [], if kpB N e v i = true ∧ 0 < s then f_send N i s else N) (fun r M' => r = none ∧ M' = f_killY M e a v s) := by
        intro x
        obtain ⟨n1, q1, q2⟩ : ∃ n1, rok (if kpB N e v i = true ∧ 0 < s then f_send N i s else N) n1 ∧ n1 ≤ n + 1 := by
          split
          · exact ⟨n + 1, rok_send hn i s, by omega⟩
          · exact ⟨n, hn, by omega⟩
        have hc' : (if kpB N e v i = true then c + 1 else c) ≤ i + 1 := by split <;> omega
        refine rn_iinc (pc' := 142) rfl rfl rfl (nI_inc _) rfl (Nat.le_of_ble_eq_true rfl) rfl ?_
        refine rn_goto (pc' := 44) rfl rfl ?_
        exact ih (i + 1) n1 _ _ (some x) (by omega) hc' q1 (by omega) hq
      have k1 : ∀ x, x = bI (kpB N e v i) → Rn (d + 1) 97 (104, [some (vR 20 0), some (vI (nI e)), some (vI (nI (8 * e + a))), some (vI (nI (8 * e + b))), some (vI v), some (vI s), some (vI (nI c)), some (vI (nI i)), x8], [vI x], N) (fun r M' => r = none ∧ M' = f_killY M e a v s) := by
        intro x hx
        subst hx
        cases hkp : kpB N e v i with
        | true =>
          have tl := tl (vI (bI (kpB N e v i)))
          rw [hkp] at tl
          simp only [if_true, true_and] at tl
          by_cases h0 : 0 < s
          · rw [if_pos h0] at tl
            refine rn_istore (pc' := 106) rfl rfl rfl (Nat.le_of_ble_eq_true rfl) rfl ?_
            refine rn_iload (pc' := 108) rfl rfl rfl ?_
            refine rn_iload (pc' := 110) rfl rfl rfl ?_
            refine rn_if_eq (t := 117) (pc' := 113) rfl rfl rfl (fun h1 => ?_) (fun h1 => ?_)
            · exact absurd h1 (by decide)
            · refine rn_iconst (pc' := 114) (v := 1) rfl rfl (by decide) ?_
              refine rn_goto (pc' := 118) rfl rfl ?_
              refine rn_iadd (pc' := 119) rfl rfl ?_
              refine rn_topI (nI_1 c) ?_
              refine rn_istore (pc' := 121) rfl rfl rfl (Nat.le_of_ble_eq_true rfl) rfl ?_
              refine rn_iload (pc' := 123) rfl rfl rfl ?_
              refine rn_if_eq (t := 139) (pc' := 126) rfl rfl rfl (fun h2 => ?_) (fun h2 => ?_)
              · first | exact absurd h2 (by decide) | exact absurd h0 h3 | exact tl
              · refine rn_iload (pc' := 128) rfl rfl rfl ?_
                refine rn_if_le (t := 139) (pc' := 131) rfl rfl rfl (fun h3 => ?_) (fun h3 => ?_)
                · first | exact absurd h2 (by decide) | exact absurd h0 h3 | exact tl
                · refine rn_aload_n (pc' := 132) rfl rfl rfl ?_
                  refine rn_iload (pc' := 134) rfl rfl rfl ?_
                  refine rn_iload (pc' := 136) rfl rfl rfl ?_
                  refine rn_callV (pc' := 139) (as := [_, _]) rfl rfl rfl ⟨Nat.le_of_ble_eq_true rfl, rfl, rfl⟩ rfl (by first | assumption | decide | omega) (Nat.le_of_ble_eq_true rfl) (Nat.le_of_ble_eq_true rfl) rfl (r_send N s hi24 hn (by omega)) (fun r4 M4 hz => ?_)
                  obtain ⟨rfl, hm_⟩ := hz
                  refine rn_mem hm_ ?_
                  clear hm_
                  first | exact absurd h2 (by decide) | exact absurd h0 h3 | exact tl
          · rw [if_neg h0] at tl
            refine rn_istore (pc' := 106) rfl rfl rfl (Nat.le_of_ble_eq_true rfl) rfl ?_
            refine rn_iload (pc' := 108) rfl rfl rfl ?_
            refine rn_iload (pc' := 110) rfl rfl rfl ?_
            refine rn_if_eq (t := 117) (pc' := 113) rfl rfl rfl (fun h1 => ?_) (fun h1 => ?_)
            · exact absurd h1 (by decide)
            · refine rn_iconst (pc' := 114) (v := 1) rfl rfl (by decide) ?_
              refine rn_goto (pc' := 118) rfl rfl ?_
              refine rn_iadd (pc' := 119) rfl rfl ?_
              refine rn_topI (nI_1 c) ?_
              refine rn_istore (pc' := 121) rfl rfl rfl (Nat.le_of_ble_eq_true rfl) rfl ?_
              refine rn_iload (pc' := 123) rfl rfl rfl ?_
              refine rn_if_eq (t := 139) (pc' := 126) rfl rfl rfl (fun h2 => ?_) (fun h2 => ?_)
              · first | exact absurd h2 (by decide) | exact tl
              · refine rn_iload (pc' := 128) rfl rfl rfl ?_
                refine rn_if_le (t := 139) (pc' := 131) rfl rfl rfl (fun h3 => ?_) (fun h3 => ?_)
                · first | exact absurd h2 (by decide) | exact tl
                · exact absurd h3 h0
        | false =>
          have tl := tl (vI (bI (kpB N e v i)))
          rw [hkp] at tl
          simp only [Bool.false_eq_true, if_false, false_and] at tl
          refine rn_istore (pc' := 106) rfl rfl rfl (Nat.le_of_ble_eq_true rfl) rfl ?_
          refine rn_iload (pc' := 108) rfl rfl rfl ?_
          refine rn_iload (pc' := 110) rfl rfl rfl ?_
          refine rn_if_eq (t := 117) (pc' := 113) rfl rfl rfl (fun h1 => ?_) (fun h1 => ?_)
          · refine rn_iconst (pc' := 118) (v := 0) rfl rfl (by decide) ?_
            refine rn_iadd (pc' := 119) rfl rfl ?_
            refine rn_topI (show nI c + 0 = nI c from Int32.add_zero _) ?_
            refine rn_istore (pc' := 121) rfl rfl rfl (Nat.le_of_ble_eq_true rfl) rfl ?_
            refine rn_iload (pc' := 123) rfl rfl rfl ?_
            refine rn_if_eq (t := 139) (pc' := 126) rfl rfl rfl (fun h2 => ?_) (fun h2 => ?_)
            · exact tl
            · exact absurd rfl h2
          · exact absurd rfl h1
      have hb5 : ∀ bb : Bool, ¬ bI bb = 0 → bb = true := fun bb h => by cases bb <;> simp [bI] at h ⊢
      refine rn_iload (pc' := 46) rfl rfl rfl ?_
      refine rn_bipush (pc' := 48) (v := 24) rfl rfl (by decide) ?_
      refine rn_ic_ge (t := 145) (pc' := 51) rfl rfl rfl (fun h1 => ?_) (fun h1 => ?_)
      · exact absurd ((lt24 (by omega)).mpr hi24) h1
      · refine rn_aload_n (pc' := 52) rfl rfl rfl ?_
        refine rn_getF (N := 1) (t' := 25) (pc' := 55) rfl rfl rfl rfl rfl (by first | assumption | decide | omega) ?_
        refine rn_iload (pc' := 57) rfl rfl rfl ?_
        refine rn_iald (N := 1) (K := 24) (pc' := 58) rfl rfl ⟨rfl, rfl⟩ rfl (by first | assumption | decide | omega) rfl (by decide) rfl (by first | assumption | decide | omega) ?_
        refine rn_if_le (t := 103) (pc' := 61) rfl rfl rfl (fun h2 => ?_) (fun h2 => ?_)
        · refine rn_iconst (pc' := 104) (v := 0) rfl rfl (by decide) ?_
          refine k1 _ ?_
          first | (simp [kpB, rpid, bI, *]; done) | (have h9 := (bI_0 _).mp h5; simp [kpB, rpid, bI, h9, *]; done) | (have h9 := hb5 _ h5; simp [kpB, rpid, bI, h9, *]; done) | (rw [hie] at h4; simp [kpB, rpid, bI, *]; done) | (rw [hie] at h4; simp_all [kpB, rpid, bI])
        · refine rn_iload (pc' := 63) rfl rfl rfl ?_
          refine rn_iconst (pc' := 64) (v := (-1)) rfl rfl (by decide) ?_
          refine rn_ic_ne (t := 87) (pc' := 67) rfl rfl rfl (fun h3 => ?_) (fun h3 => ?_)
          · refine rn_aload_n (pc' := 88) rfl rfl rfl ?_
            refine rn_iload_n (pc' := 89) rfl rfl rfl ?_
            refine rn_iload (pc' := 91) rfl rfl rfl ?_
            refine rn_iload (pc' := 93) rfl rfl rfl ?_
            refine rn_callV (pc' := 96) (as := [_, _, _]) rfl rfl rfl ⟨Nat.le_of_ble_eq_true rfl, rfl, rfl⟩ rfl (by first | assumption | decide | omega) (Nat.le_of_ble_eq_true rfl) (Nat.le_of_ble_eq_true rfl) rfl (r_means N v he hi24) (fun r4 M4 hz => ?_)
            obtain ⟨rfl, hm_⟩ := hz
            refine rn_mem hm_ ?_
            clear hm_
            refine rn_if_eq (t := 103) (pc' := 99) rfl rfl rfl (fun h5 => ?_) (fun h5 => ?_)
            · refine rn_iconst (pc' := 104) (v := 0) rfl rfl (by decide) ?_
              refine k1 _ ?_
              first | (simp [kpB, rpid, bI, *]; done) | (have h9 := (bI_0 _).mp h5; simp [kpB, rpid, bI, h9, *]; done) | (have h9 := hb5 _ h5; simp [kpB, rpid, bI, h9, *]; done) | (rw [hie] at h4; simp [kpB, rpid, bI, *]; done) | (rw [hie] at h4; simp_all [kpB, rpid, bI])
            · refine rn_iconst (pc' := 100) (v := 1) rfl rfl (by decide) ?_
              refine rn_goto (pc' := 104) rfl rfl ?_
              refine k1 _ ?_
              first | (simp [kpB, rpid, bI, *]; done) | (have h9 := (bI_0 _).mp h5; simp [kpB, rpid, bI, h9, *]; done) | (have h9 := hb5 _ h5; simp [kpB, rpid, bI, h9, *]; done) | (rw [hie] at h4; simp [kpB, rpid, bI, *]; done) | (rw [hie] at h4; simp_all [kpB, rpid, bI])
          · refine rn_iload (pc' := 69) rfl rfl rfl ?_
            refine rn_iload_n (pc' := 70) rfl rfl rfl ?_
            refine rn_ic_eq (t := 103) (pc' := 73) rfl rfl rfl (fun h4 => ?_) (fun h4 => ?_)
            · refine rn_iconst (pc' := 104) (v := 0) rfl rfl (by decide) ?_
              refine k1 _ ?_
              first | (simp [kpB, rpid, bI, *]; done) | (have h9 := (bI_0 _).mp h5; simp [kpB, rpid, bI, h9, *]; done) | (have h9 := hb5 _ h5; simp [kpB, rpid, bI, h9, *]; done) | (rw [hie] at h4; simp [kpB, rpid, bI, *]; done) | (rw [hie] at h4; simp_all [kpB, rpid, bI])
            · refine rn_aload_n (pc' := 74) rfl rfl rfl ?_
              refine rn_getF (N := 1) (t' := 25) (pc' := 77) rfl rfl rfl rfl rfl (by first | assumption | decide | omega) ?_
              refine rn_iload (pc' := 79) rfl rfl rfl ?_
              refine rn_iald (N := 1) (K := 24) (pc' := 80) rfl rfl ⟨rfl, rfl⟩ rfl (by first | assumption | decide | omega) rfl (by decide) rfl (by first | assumption | decide | omega) ?_
              refine rn_iconst (pc' := 81) (v := 1) rfl rfl (by decide) ?_
              refine rn_ic_eq (t := 103) (pc' := 84) rfl rfl rfl (fun h5 => ?_) (fun h5 => ?_)
              · refine rn_iconst (pc' := 104) (v := 0) rfl rfl (by decide) ?_
                refine k1 _ ?_
                first | (simp [kpB, rpid, bI, *]; done) | (have h9 := (bI_0 _).mp h5; simp [kpB, rpid, bI, h9, *]; done) | (have h9 := hb5 _ h5; simp [kpB, rpid, bI, h9, *]; done) | (rw [hie] at h4; simp [kpB, rpid, bI, *]; done) | (rw [hie] at h4; simp_all [kpB, rpid, bI])
              · refine rn_goto (pc' := 99) rfl rfl ?_
                refine rn_iconst (pc' := 100) (v := 1) rfl rfl (by decide) ?_
                refine rn_goto (pc' := 104) rfl rfl ?_
                refine k1 _ ?_
                first | (simp [kpB, rpid, bI, *]; done) | (have h9 := (bI_0 _).mp h5; simp [kpB, rpid, bI, h9, *]; done) | (have h9 := hb5 _ h5; simp [kpB, rpid, bI, h9, *]; done) | (rw [hie] at h4; simp [kpB, rpid, bI, *]; done) | (rw [hie] at h4; simp_all [kpB, rpid, bI])
  show Rn _ 97 (0, [some (vR 20 0), some (vI (nI e)), some (vI (nI (8 * e + a))), some (vI (nI (8 * e + b))), none, none, none, none, none], [], _) _
  refine rn_aload_n (pc' := 1) rfl rfl rfl ?_
  refine rn_getF (N := 1) (t' := 31) (pc' := 4) rfl rfl rfl rfl rfl (by first | assumption | decide | omega) ?_
  refine rn_iload_n (pc' := 5) rfl rfl rfl ?_
  refine rn_iald (N := 1) (K := 192) (pc' := 6) rfl rfl ⟨rfl, rfl⟩ rfl (by first | assumption | decide | omega) rfl (by decide) rfl (by first | assumption | decide | omega) ?_
  refine rn_topI hv ?_
  refine rn_istore (pc' := 8) rfl rfl rfl (Nat.le_of_ble_eq_true rfl) rfl ?_
  refine rn_aload_n (pc' := 9) rfl rfl rfl ?_
  refine rn_getF (N := 1) (t' := 31) (pc' := 12) rfl rfl rfl rfl rfl (by first | assumption | decide | omega) ?_
  refine rn_iload_n (pc' := 13) rfl rfl rfl ?_
  refine rn_iald (N := 1) (K := 192) (pc' := 14) rfl rfl ⟨rfl, rfl⟩ rfl (by first | assumption | decide | omega) rfl (by decide) rfl (by first | assumption | decide | omega) ?_
  refine rn_topI hsg ?_
  refine rn_istore (pc' := 16) rfl rfl rfl (Nat.le_of_ble_eq_true rfl) rfl ?_
  refine rn_iload (pc' := 18) rfl rfl rfl ?_
  refine rn_i2l (pc' := 19) rfl rfl ?_
  refine rn_lconst (pc' := 20) (v := 0) rfl rfl rfl ?_
  refine rn_ldc2_w (pc' := 23) (v := 20) rfl rfl rfl ?_
  refine rn_callS (pc' := 26) (as := [_, _, _]) rfl rfl rfl ⟨rfl, rfl, rfl⟩ (Nat.le_of_ble_eq_true rfl) (Nat.le_of_ble_eq_true rfl) rfl (r_in M _ 0 20) (fun r1 M1 hz => ?_)
  obtain ⟨rfl, hm_⟩ := hz
  refine rn_mem hm_ ?_
  clear hm_
  refine rn_if_ne (t := 38) (pc' := 29) rfl rfl rfl (fun h2 => ?_) (fun h2 => ?_)
  · refine rn_iconst (pc' := 39) (v := 0) rfl rfl (by decide) ?_
    refine rn_istore (pc' := 41) rfl rfl rfl (Nat.le_of_ble_eq_true rfl) rfl ?_
    refine rn_iconst (pc' := 42) (v := 0) rfl rfl (by decide) ?_
    refine rn_istore (pc' := 44) rfl rfl rfl (Nat.le_of_ble_eq_true rfl) rfl ?_
    exact loop 24 0 n 0 M none (by omega) (by omega) hn (by omega) rfl
  · exact absurd hs (ite01.mp h2)
def gmF (M : xM) (g : Int32) : Nat → Bool
  | 0 => false
  | k + 1 => gmF M g k || (decide (0 < rpid M k) && decide (rgrp M k = g))
def f_join2 (M : xM) (e a : Nat) (k : Nat) (g : Int32) : xM := if (decide (g = rpid M k) || gmF M g 24) = true then mI (mI M 27 0 k g) 31 0 (8 * e + a) 0 else mI M 31 0 (8 * e + a) (-1)
def f_joinK (M : xM) (e a b : Nat) (ko : Option Nat) : xM := match ko with
  | none => mI M 31 0 (8 * e + a) (-3)
  | some k => if ¬ k = e ∧ (¬ rpar M k = rpid M e ∨ rste M k = 4) then mI M 31 0 (8 * e + a) (-3) else if ¬ k = e ∧ ¬ M.1 42 0 k = 0 then mI M 31 0 (8 * e + a) (-13) else f_join2 M e a k (if M.1 31 0 (8 * e + b) = 0 then rpid M k else M.1 31 0 (8 * e + b))
def f_join (M : xM) (e a b : Nat) : xM := f_joinK M e a b (if M.1 31 0 (8 * e + a) = 0 then some e else eo M (M.1 31 0 (8 * e + a)))
theorem r_join {d e a b : Nat} (M : xM) (he : e < 24) (ha : a < 8) (hb : b < 8) : Rn (d + 1) 98 (0, xen 98 [vR 20 0, vI (nI e), vI (nI (8 * e + a)), vI (nI (8 * e + b))], [], M) (fun r M' => r = none ∧ M' = f_join M e a b) := by
  unfold f_join
  generalize hv : M.1 31 0 (8 * e + a) = v
  generalize hko : (if v = 0 then some e else eo M v) = ko
  have hkl : ∀ k, ko = some k → k < 24 := fun k hk => by
    rw [← hko] at hk
    split at hk
    · cases hk; exact he
    · exact eo_lt hk
  have ho := oI_neg hkl
  have s2 : Rn (d + 1) 98 (25, [some (vR 20 0), some (vI (nI e)), some (vI (nI (8 * e + a))), some (vI (nI (8 * e + b))), some (vI v), some (vI (oI ko)), none, none, none], [], M) (fun r M' => r = none ∧ M' = f_joinK M e a b ko) := by
    cases hk0 : ko with
    | none =>
      rw [hk0] at ho
      unfold f_joinK
      refine rn_iload (pc' := 27) rfl rfl rfl ?_
      refine rn_if_lt (t := 63) (pc' := 30) rfl rfl rfl (fun h1 => ?_) (fun h1 => ?_)
      · refine rn_aload_n (pc' := 64) rfl rfl rfl ?_
        refine rn_getF (N := 1) (t' := 31) (pc' := 67) rfl rfl rfl rfl rfl (by first | assumption | decide | omega) ?_
        refine rn_iload_n (pc' := 68) rfl rfl rfl ?_
        refine rn_bipush (pc' := 70) (v := (-3)) rfl rfl (by decide) ?_
        refine rn_iast (N := 1) (K := 192) (pc' := 71) rfl rfl ⟨rfl, rfl⟩ rfl (by first | assumption | decide | omega) rfl (by decide) rfl (by first | assumption | decide | omega) ?_
        refine rn_return rfl rfl ?_
        exact ⟨rfl, rfl⟩
      · exact absurd (ho.mpr rfl) h1
    | some k =>
      have hk := hkl k hk0
      unfold f_joinK
      have hk0' : ¬ oI (some k) < 0 := nI_pos (by omega)
      have hke : oI (some k) = nI e ↔ k = e := nI_eq (a := k) (b := e) (by omega) (by omega)
      have last : ∀ g : Int32, Rn (d + 1) 98 (122, [some (vR 20 0), some (vI (nI e)), some (vI (nI (8 * e + a))), some (vI (nI (8 * e + b))), some (vI v), some (vI (oI (some k))), none, none, none], [vI g], M) (fun r M' => r = none ∧ M' = f_join2 M e a k g) := by
        intro g
        have fin : ∀ x8, Rn (d + 1) 98 (193, [some (vR 20 0), some (vI (nI e)), some (vI (nI (8 * e + a))), some (vI (nI (8 * e + b))), some (vI v), some (vI (oI (some k))), some (vI g), some (vI (bI (decide (g = rpid M k) || gmF M g 24))), x8], [], M) (fun r M' => r = none ∧ M' = f_join2 M e a k g) := by
          intro x8
          unfold f_join2
          cases hc : (decide (g = rpid M k) || gmF M g 24) with
          | true =>
            simp only [if_true]
            have h207 : Rn (d + 1) 98 (207, [some (vR 20 0), some (vI (nI e)), some (vI (nI (8 * e + a))), some (vI (nI (8 * e + b))), some (vI v), some (vI (oI (some k))), some (vI g), some (vI (bI true)), x8], [], mI M 27 0 k g) (fun r M' => r = none ∧ M' = mI (mI M 27 0 k g) 31 0 (8 * e + a) 0) := by
              refine rn_aload_n (pc' := 208) rfl rfl rfl ?_
              refine rn_getF (N := 1) (t' := 31) (pc' := 211) rfl rfl rfl rfl rfl (by first | assumption | decide | omega) ?_
              refine rn_iload_n (pc' := 212) rfl rfl rfl ?_
              refine rn_iload (pc' := 214) rfl rfl rfl ?_
              refine rn_if_eq (t := 221) (pc' := 217) rfl rfl rfl (fun h1 => ?_) (fun h1 => ?_)
              · exact absurd h1 (by decide)
              · refine rn_iconst (pc' := 218) (v := 0) rfl rfl (by decide) ?_
                refine rn_goto (pc' := 222) rfl rfl ?_
                refine rn_iast (N := 1) (K := 192) (pc' := 223) rfl rfl ⟨rfl, rfl⟩ rfl (by first | assumption | decide | omega) rfl (by decide) rfl (by first | assumption | decide | omega) ?_
                refine rn_return rfl rfl ?_
                exact ⟨rfl, rfl⟩
            refine rn_iload (pc' := 195) rfl rfl rfl ?_
            refine rn_if_eq (t := 207) (pc' := 198) rfl rfl rfl (fun h1 => ?_) (fun h1 => ?_)
            · first | exact absurd h1 (by decide) | exact h207
            · refine rn_aload_n (pc' := 199) rfl rfl rfl ?_
              refine rn_getF (N := 1) (t' := 27) (pc' := 202) rfl rfl rfl rfl rfl (by first | assumption | decide | omega) ?_
              refine rn_iload (pc' := 204) rfl rfl rfl ?_
              refine rn_iload (pc' := 206) rfl rfl rfl ?_
              refine rn_iast (k := k) (N := 1) (K := 24) (pc' := 207) rfl rfl ⟨rfl, rfl⟩ rfl (by first | assumption | decide | omega) rfl (by decide) (rfl) (by first | assumption | decide | omega) ?_
              first | exact absurd h1 (by decide) | exact h207
          | false =>
            simp only [Bool.false_eq_true, if_false]
            refine rn_iload (pc' := 195) rfl rfl rfl ?_
            refine rn_if_eq (t := 207) (pc' := 198) rfl rfl rfl (fun h1 => ?_) (fun h1 => ?_)
            · refine rn_aload_n (pc' := 208) rfl rfl rfl ?_
              refine rn_getF (N := 1) (t' := 31) (pc' := 211) rfl rfl rfl rfl rfl (by first | assumption | decide | omega) ?_
              refine rn_iload_n (pc' := 212) rfl rfl rfl ?_
              refine rn_iload (pc' := 214) rfl rfl rfl ?_
              refine rn_if_eq (t := 221) (pc' := 217) rfl rfl rfl (fun h2 => ?_) (fun h2 => ?_)
              · refine rn_iconst (pc' := 222) (v := (-1)) rfl rfl (by decide) ?_
                refine rn_iast (N := 1) (K := 192) (pc' := 223) rfl rfl ⟨rfl, rfl⟩ rfl (by first | assumption | decide | omega) rfl (by decide) rfl (by first | assumption | decide | omega) ?_
                refine rn_return rfl rfl ?_
                exact ⟨rfl, rfl⟩
              · exact absurd rfl h2
            · exact absurd rfl h1
        have lp : ∀ m i : Nat, i + m = 24 → Rn (d + 1) 98 (146, [some (vR 20 0), some (vI (nI e)), some (vI (nI (8 * e + a))), some (vI (nI (8 * e + b))), some (vI v), some (vI (oI (some k))), some (vI g), some (vI (bI (decide (g = rpid M k) || gmF M g i))), some (vI (nI i))], [], M) (fun r M' => r = none ∧ M' = f_join2 M e a k g) := by
          intro m
          induction m with
          | zero =>
            intro i hi
            obtain rfl : i = 24 := by omega
            refine rn_iload (pc' := 148) rfl rfl rfl ?_
            refine rn_bipush (pc' := 150) (v := 24) rfl rfl (by decide) ?_
            refine rn_ic_ge (t := 193) (pc' := 153) rfl rfl rfl (fun h1 => ?_) (fun h1 => ?_)
            · exact fin _
            · exact absurd ((lt24 (by omega)).mp h1) (by omega)
          | succ m ih =>
            intro i hi
            have hi24 : i < 24 := by omega
            have key : ∀ x, x = bI (decide (g = rpid M k) || gmF M g (i + 1)) → Rn (d + 1) 98 (185, [some (vR 20 0), some (vI (nI e)), some (vI (nI (8 * e + a))), some (vI (nI (8 * e + b))), some (vI v), some (vI (oI (some k))), some (vI g), some (vI (bI (decide (g = rpid M k) || gmF M g i))), some (vI (nI i))], [vI x], M) (fun r M' => r = none ∧ M' = f_join2 M e a k g) := by
              intro x hx
              subst hx
              refine rn_istore (pc' := 187) rfl rfl rfl (Nat.le_of_ble_eq_true rfl) rfl ?_
              refine rn_iinc (pc' := 190) rfl rfl rfl (nI_inc _) rfl (Nat.le_of_ble_eq_true rfl) rfl ?_
              refine rn_goto (pc' := 146) rfl rfl ?_
              exact ih (i + 1) (by omega)
            refine rn_iload (pc' := 148) rfl rfl rfl ?_
            refine rn_bipush (pc' := 150) (v := 24) rfl rfl (by decide) ?_
            refine rn_ic_ge (t := 193) (pc' := 153) rfl rfl rfl (fun h1 => ?_) (fun h1 => ?_)
            · exact absurd ((lt24 (by omega)).mpr hi24) h1
            · refine rn_iload (pc' := 155) rfl rfl rfl ?_
              refine rn_if_ne (t := 180) (pc' := 158) rfl rfl rfl (fun h2 => ?_) (fun h2 => ?_)
              · refine rn_iconst (pc' := 181) (v := 1) rfl rfl (by decide) ?_
                refine rn_goto (pc' := 185) rfl rfl ?_
                refine key _ ?_
                simp only [bI_0, Bool.not_eq_false, Bool.or_eq_false_iff, Bool.or_eq_true] at h2
                first | (simp [gmF, rpid, rgrp, bI, *]; done) | (rcases h2 with h2 | h2 <;> simp [gmF, rpid, rgrp, bI, h2]; done) | simp_all [gmF, rpid, rgrp, bI]
              · refine rn_aload_n (pc' := 159) rfl rfl rfl ?_
                refine rn_getF (N := 1) (t' := 25) (pc' := 162) rfl rfl rfl rfl rfl (by first | assumption | decide | omega) ?_
                refine rn_iload (pc' := 164) rfl rfl rfl ?_
                refine rn_iald (N := 1) (K := 24) (pc' := 165) rfl rfl ⟨rfl, rfl⟩ rfl (by first | assumption | decide | omega) rfl (by decide) rfl (by first | assumption | decide | omega) ?_
                refine rn_if_le (t := 184) (pc' := 168) rfl rfl rfl (fun h3 => ?_) (fun h3 => ?_)
                · refine rn_iconst (pc' := 185) (v := 0) rfl rfl (by decide) ?_
                  refine key _ ?_
                  simp only [bI_0, Bool.not_eq_false, Bool.or_eq_false_iff, Bool.or_eq_true] at h2
                  first | (simp [gmF, rpid, rgrp, bI, *]; done) | (rcases h2 with h2 | h2 <;> simp [gmF, rpid, rgrp, bI, h2]; done) | simp_all [gmF, rpid, rgrp, bI]
                · refine rn_aload_n (pc' := 169) rfl rfl rfl ?_
                  refine rn_getF (N := 1) (t' := 27) (pc' := 172) rfl rfl rfl rfl rfl (by first | assumption | decide | omega) ?_
                  refine rn_iload (pc' := 174) rfl rfl rfl ?_
                  refine rn_iald (N := 1) (K := 24) (pc' := 175) rfl rfl ⟨rfl, rfl⟩ rfl (by first | assumption | decide | omega) rfl (by decide) rfl (by first | assumption | decide | omega) ?_
                  refine rn_iload (pc' := 177) rfl rfl rfl ?_
                  refine rn_ic_ne (t := 184) (pc' := 180) rfl rfl rfl (fun h4 => ?_) (fun h4 => ?_)
                  · refine rn_iconst (pc' := 185) (v := 0) rfl rfl (by decide) ?_
                    refine key _ ?_
                    simp only [bI_0, Bool.not_eq_false, Bool.or_eq_false_iff, Bool.or_eq_true] at h2
                    first | (simp [gmF, rpid, rgrp, bI, *]; done) | (rcases h2 with h2 | h2 <;> simp [gmF, rpid, rgrp, bI, h2]; done) | simp_all [gmF, rpid, rgrp, bI]
                  · refine rn_iconst (pc' := 181) (v := 1) rfl rfl (by decide) ?_
                    refine rn_goto (pc' := 185) rfl rfl ?_
                    refine key _ ?_
                    simp only [bI_0, Bool.not_eq_false, Bool.or_eq_false_iff, Bool.or_eq_true] at h2
                    first | (simp [gmF, rpid, rgrp, bI, *]; done) | (rcases h2 with h2 | h2 <;> simp [gmF, rpid, rgrp, bI, h2]; done) | simp_all [gmF, rpid, rgrp, bI]
        have k0 : ∀ x, x = bI (decide (g = rpid M k) || gmF M g 0) → Rn (d + 1) 98 (141, [some (vR 20 0), some (vI (nI e)), some (vI (nI (8 * e + a))), some (vI (nI (8 * e + b))), some (vI v), some (vI (oI (some k))), some (vI g), none, none], [vI x], M) (fun r M' => r = none ∧ M' = f_join2 M e a k g) := by
          intro x hx
          subst hx
          refine rn_istore (pc' := 143) rfl rfl rfl (Nat.le_of_ble_eq_true rfl) rfl ?_
          refine rn_iconst (pc' := 144) (v := 0) rfl rfl (by decide) ?_
          refine rn_istore (pc' := 146) rfl rfl rfl (Nat.le_of_ble_eq_true rfl) rfl ?_
          exact lp 24 0 rfl
        refine rn_istore (pc' := 124) rfl rfl rfl (Nat.le_of_ble_eq_true rfl) rfl ?_
        refine rn_iload (pc' := 126) rfl rfl rfl ?_
        refine rn_aload_n (pc' := 127) rfl rfl rfl ?_
        refine rn_getF (N := 1) (t' := 25) (pc' := 130) rfl rfl rfl rfl rfl (by first | assumption | decide | omega) ?_
        refine rn_iload (pc' := 132) rfl rfl rfl ?_
        refine rn_iald (k := k) (N := 1) (K := 24) (pc' := 133) rfl rfl ⟨rfl, rfl⟩ rfl (by first | assumption | decide | omega) rfl (by decide) (rfl) (by first | assumption | decide | omega) ?_
        refine rn_ic_ne (t := 140) (pc' := 136) rfl rfl rfl (fun h1 => ?_) (fun h1 => ?_)
        · refine rn_iconst (pc' := 141) (v := 0) rfl rfl (by decide) ?_
          refine k0 _ ?_
          simp [gmF, rpid, bI, *]
        · refine rn_iconst (pc' := 137) (v := 1) rfl rfl (by decide) ?_
          refine rn_goto (pc' := 141) rfl rfl ?_
          refine k0 _ ?_
          simp [gmF, rpid, bI, *]
      have g97 : Rn (d + 1) 98 (97, [some (vR 20 0), some (vI (nI e)), some (vI (nI (8 * e + a))), some (vI (nI (8 * e + b))), some (vI v), some (vI (oI (some k))), none, none, none], [], M) (fun r M' => r = none ∧ M' = f_join2 M e a k (if M.1 31 0 (8 * e + b) = 0 then rpid M k else M.1 31 0 (8 * e + b))) := by
        by_cases hz : M.1 31 0 (8 * e + b) = 0
        · rw [if_pos hz]
          refine rn_aload_n (pc' := 98) rfl rfl rfl ?_
          refine rn_getF (N := 1) (t' := 31) (pc' := 101) rfl rfl rfl rfl rfl (by first | assumption | decide | omega) ?_
          refine rn_iload_n (pc' := 102) rfl rfl rfl ?_
          refine rn_iald (N := 1) (K := 192) (pc' := 103) rfl rfl ⟨rfl, rfl⟩ rfl (by first | assumption | decide | omega) rfl (by decide) rfl (by first | assumption | decide | omega) ?_
          refine rn_if_ne (t := 116) (pc' := 106) rfl rfl rfl (fun h1 => ?_) (fun h1 => ?_)
          · exact absurd hz h1
          · refine rn_aload_n (pc' := 107) rfl rfl rfl ?_
            refine rn_getF (N := 1) (t' := 25) (pc' := 110) rfl rfl rfl rfl rfl (by first | assumption | decide | omega) ?_
            refine rn_iload (pc' := 112) rfl rfl rfl ?_
            refine rn_iald (k := k) (N := 1) (K := 24) (pc' := 113) rfl rfl ⟨rfl, rfl⟩ rfl (by first | assumption | decide | omega) rfl (by decide) (rfl) (by first | assumption | decide | omega) ?_
            refine rn_goto (pc' := 122) rfl rfl ?_
            exact last _
        · rw [if_neg hz]
          refine rn_aload_n (pc' := 98) rfl rfl rfl ?_
          refine rn_getF (N := 1) (t' := 31) (pc' := 101) rfl rfl rfl rfl rfl (by first | assumption | decide | omega) ?_
          refine rn_iload_n (pc' := 102) rfl rfl rfl ?_
          refine rn_iald (N := 1) (K := 192) (pc' := 103) rfl rfl ⟨rfl, rfl⟩ rfl (by first | assumption | decide | omega) rfl (by decide) rfl (by first | assumption | decide | omega) ?_
          refine rn_if_ne (t := 116) (pc' := 106) rfl rfl rfl (fun h1 => ?_) (fun h1 => ?_)
          · refine rn_aload_n (pc' := 117) rfl rfl rfl ?_
            refine rn_getF (N := 1) (t' := 31) (pc' := 120) rfl rfl rfl rfl rfl (by first | assumption | decide | omega) ?_
            refine rn_iload_n (pc' := 121) rfl rfl rfl ?_
            refine rn_iald (N := 1) (K := 192) (pc' := 122) rfl rfl ⟨rfl, rfl⟩ rfl (by first | assumption | decide | omega) rfl (by decide) rfl (by first | assumption | decide | omega) ?_
            exact last _
          · exact absurd h1 hz
      by_cases c1 : ¬ k = e ∧ (¬ rpar M k = rpid M e ∨ rste M k = 4)
      · simp only [if_pos c1]
        refine rn_iload (pc' := 27) rfl rfl rfl ?_
        refine rn_if_lt (t := 63) (pc' := 30) rfl rfl rfl (fun h1 => ?_) (fun h1 => ?_)
        · refine rn_aload_n (pc' := 64) rfl rfl rfl ?_
          refine rn_getF (N := 1) (t' := 31) (pc' := 67) rfl rfl rfl rfl rfl (by first | assumption | decide | omega) ?_
          refine rn_iload_n (pc' := 68) rfl rfl rfl ?_
          refine rn_bipush (pc' := 70) (v := (-3)) rfl rfl (by decide) ?_
          refine rn_iast (N := 1) (K := 192) (pc' := 71) rfl rfl ⟨rfl, rfl⟩ rfl (by first | assumption | decide | omega) rfl (by decide) rfl (by first | assumption | decide | omega) ?_
          refine rn_return rfl rfl ?_
          first | exact absurd h1 hk0' | exact ⟨rfl, rfl⟩
        · refine rn_iload (pc' := 32) rfl rfl rfl ?_
          refine rn_iload_n (pc' := 33) rfl rfl rfl ?_
          refine rn_ic_eq (t := 72) (pc' := 36) rfl rfl rfl (fun h2 => ?_) (fun h2 => ?_)
          · first | exact absurd (hke.mp h2) c1.1 | exact absurd c1.2 (fun q => q.elim (fun q => q h3) h4)
          · refine rn_aload_n (pc' := 37) rfl rfl rfl ?_
            refine rn_getF (N := 1) (t' := 26) (pc' := 40) rfl rfl rfl rfl rfl (by first | assumption | decide | omega) ?_
            refine rn_iload (pc' := 42) rfl rfl rfl ?_
            refine rn_iald (k := k) (N := 1) (K := 24) (pc' := 43) rfl rfl ⟨rfl, rfl⟩ rfl (by first | assumption | decide | omega) rfl (by decide) (rfl) (by first | assumption | decide | omega) ?_
            refine rn_aload_n (pc' := 44) rfl rfl rfl ?_
            refine rn_getF (N := 1) (t' := 25) (pc' := 47) rfl rfl rfl rfl rfl (by first | assumption | decide | omega) ?_
            refine rn_iload_n (pc' := 48) rfl rfl rfl ?_
            refine rn_iald (N := 1) (K := 24) (pc' := 49) rfl rfl ⟨rfl, rfl⟩ rfl (by first | assumption | decide | omega) rfl (by decide) rfl (by first | assumption | decide | omega) ?_
            refine rn_ic_ne (t := 63) (pc' := 52) rfl rfl rfl (fun h3 => ?_) (fun h3 => ?_)
            · refine rn_aload_n (pc' := 64) rfl rfl rfl ?_
              refine rn_getF (N := 1) (t' := 31) (pc' := 67) rfl rfl rfl rfl rfl (by first | assumption | decide | omega) ?_
              refine rn_iload_n (pc' := 68) rfl rfl rfl ?_
              refine rn_bipush (pc' := 70) (v := (-3)) rfl rfl (by decide) ?_
              refine rn_iast (N := 1) (K := 192) (pc' := 71) rfl rfl ⟨rfl, rfl⟩ rfl (by first | assumption | decide | omega) rfl (by decide) rfl (by first | assumption | decide | omega) ?_
              refine rn_return rfl rfl ?_
              first | exact absurd h1 hk0' | exact ⟨rfl, rfl⟩
            · refine rn_aload_n (pc' := 53) rfl rfl rfl ?_
              refine rn_getF (N := 1) (t' := 28) (pc' := 56) rfl rfl rfl rfl rfl (by first | assumption | decide | omega) ?_
              refine rn_iload (pc' := 58) rfl rfl rfl ?_
              refine rn_iald (k := k) (N := 1) (K := 24) (pc' := 59) rfl rfl ⟨rfl, rfl⟩ rfl (by first | assumption | decide | omega) rfl (by decide) (rfl) (by first | assumption | decide | omega) ?_
              refine rn_iconst (pc' := 60) (v := 4) rfl rfl (by decide) ?_
              refine rn_ic_ne (t := 72) (pc' := 63) rfl rfl rfl (fun h4 => ?_) (fun h4 => ?_)
              · first | exact absurd (hke.mp h2) c1.1 | exact absurd c1.2 (fun q => q.elim (fun q => q h3) h4)
              · refine rn_aload_n (pc' := 64) rfl rfl rfl ?_
                refine rn_getF (N := 1) (t' := 31) (pc' := 67) rfl rfl rfl rfl rfl (by first | assumption | decide | omega) ?_
                refine rn_iload_n (pc' := 68) rfl rfl rfl ?_
                refine rn_bipush (pc' := 70) (v := (-3)) rfl rfl (by decide) ?_
                refine rn_iast (N := 1) (K := 192) (pc' := 71) rfl rfl ⟨rfl, rfl⟩ rfl (by first | assumption | decide | omega) rfl (by decide) rfl (by first | assumption | decide | omega) ?_
                refine rn_return rfl rfl ?_
                first | exact absurd h1 hk0' | exact ⟨rfl, rfl⟩
      · simp only [if_neg c1]
        have g72 : Rn (d + 1) 98 (72, [some (vR 20 0), some (vI (nI e)), some (vI (nI (8 * e + a))), some (vI (nI (8 * e + b))), some (vI v), some (vI (oI (some k))), none, none, none], [], M) (fun r M' => r = none ∧ M' = if ¬ k = e ∧ ¬ M.1 42 0 k = 0 then mI M 31 0 (8 * e + a) (-13) else f_join2 M e a k (if M.1 31 0 (8 * e + b) = 0 then rpid M k else M.1 31 0 (8 * e + b))) := by
          by_cases c2 : ¬ k = e ∧ ¬ M.1 42 0 k = 0
          · rw [if_pos c2]
            refine rn_iload (pc' := 74) rfl rfl rfl ?_
            refine rn_iload_n (pc' := 75) rfl rfl rfl ?_
            refine rn_ic_eq (t := 97) (pc' := 78) rfl rfl rfl (fun h1 => ?_) (fun h1 => ?_)
            · first | exact absurd (hke.mp h1) c2.1 | exact absurd h2 c2.2
            · refine rn_aload_n (pc' := 79) rfl rfl rfl ?_
              refine rn_getF (N := 1) (t' := 42) (pc' := 82) rfl rfl rfl rfl rfl (by first | assumption | decide | omega) ?_
              refine rn_iload (pc' := 84) rfl rfl rfl ?_
              refine rn_bald (k := k) (N := 1) (K := 24) (pc' := 85) rfl rfl ⟨rfl, rfl⟩ rfl (by first | assumption | decide | omega) rfl (by decide) (rfl) (by first | assumption | decide | omega) ?_
              refine rn_if_eq (t := 97) (pc' := 88) rfl rfl rfl (fun h2 => ?_) (fun h2 => ?_)
              · first | exact absurd (hke.mp h1) c2.1 | exact absurd h2 c2.2
              · refine rn_aload_n (pc' := 89) rfl rfl rfl ?_
                refine rn_getF (N := 1) (t' := 31) (pc' := 92) rfl rfl rfl rfl rfl (by first | assumption | decide | omega) ?_
                refine rn_iload_n (pc' := 93) rfl rfl rfl ?_
                refine rn_bipush (pc' := 95) (v := (-13)) rfl rfl (by decide) ?_
                refine rn_iast (N := 1) (K := 192) (pc' := 96) rfl rfl ⟨rfl, rfl⟩ rfl (by first | assumption | decide | omega) rfl (by decide) rfl (by first | assumption | decide | omega) ?_
                refine rn_return rfl rfl ?_
                exact ⟨rfl, rfl⟩
          · rw [if_neg c2]
            refine rn_iload (pc' := 74) rfl rfl rfl ?_
            refine rn_iload_n (pc' := 75) rfl rfl rfl ?_
            refine rn_ic_eq (t := 97) (pc' := 78) rfl rfl rfl (fun h1 => ?_) (fun h1 => ?_)
            · exact g97
            · refine rn_aload_n (pc' := 79) rfl rfl rfl ?_
              refine rn_getF (N := 1) (t' := 42) (pc' := 82) rfl rfl rfl rfl rfl (by first | assumption | decide | omega) ?_
              refine rn_iload (pc' := 84) rfl rfl rfl ?_
              refine rn_bald (k := k) (N := 1) (K := 24) (pc' := 85) rfl rfl ⟨rfl, rfl⟩ rfl (by first | assumption | decide | omega) rfl (by decide) (rfl) (by first | assumption | decide | omega) ?_
              refine rn_if_eq (t := 97) (pc' := 88) rfl rfl rfl (fun h2 => ?_) (fun h2 => ?_)
              · exact g97
              · exact absurd ⟨fun q => h1 (hke.mpr q), h2⟩ c2
        refine rn_iload (pc' := 27) rfl rfl rfl ?_
        refine rn_if_lt (t := 63) (pc' := 30) rfl rfl rfl (fun h1 => ?_) (fun h1 => ?_)
        · first | exact absurd h1 hk0' | exact absurd (show ¬ k = e ∧ (¬ rpar M k = rpid M e ∨ rste M k = 4) from ⟨fun q => h2 (hke.mpr q), Or.inr h4⟩) c1 | exact absurd (show ¬ k = e ∧ (¬ rpar M k = rpid M e ∨ rste M k = 4) from ⟨fun q => h2 (hke.mpr q), Or.inl h3⟩) c1
        · refine rn_iload (pc' := 32) rfl rfl rfl ?_
          refine rn_iload_n (pc' := 33) rfl rfl rfl ?_
          refine rn_ic_eq (t := 72) (pc' := 36) rfl rfl rfl (fun h2 => ?_) (fun h2 => ?_)
          · exact g72
          · refine rn_aload_n (pc' := 37) rfl rfl rfl ?_
            refine rn_getF (N := 1) (t' := 26) (pc' := 40) rfl rfl rfl rfl rfl (by first | assumption | decide | omega) ?_
            refine rn_iload (pc' := 42) rfl rfl rfl ?_
            refine rn_iald (k := k) (N := 1) (K := 24) (pc' := 43) rfl rfl ⟨rfl, rfl⟩ rfl (by first | assumption | decide | omega) rfl (by decide) (rfl) (by first | assumption | decide | omega) ?_
            refine rn_aload_n (pc' := 44) rfl rfl rfl ?_
            refine rn_getF (N := 1) (t' := 25) (pc' := 47) rfl rfl rfl rfl rfl (by first | assumption | decide | omega) ?_
            refine rn_iload_n (pc' := 48) rfl rfl rfl ?_
            refine rn_iald (N := 1) (K := 24) (pc' := 49) rfl rfl ⟨rfl, rfl⟩ rfl (by first | assumption | decide | omega) rfl (by decide) rfl (by first | assumption | decide | omega) ?_
            refine rn_ic_ne (t := 63) (pc' := 52) rfl rfl rfl (fun h3 => ?_) (fun h3 => ?_)
            · first | exact absurd h1 hk0' | exact absurd (show ¬ k = e ∧ (¬ rpar M k = rpid M e ∨ rste M k = 4) from ⟨fun q => h2 (hke.mpr q), Or.inr h4⟩) c1 | exact absurd (show ¬ k = e ∧ (¬ rpar M k = rpid M e ∨ rste M k = 4) from ⟨fun q => h2 (hke.mpr q), Or.inl h3⟩) c1
            · refine rn_aload_n (pc' := 53) rfl rfl rfl ?_
              refine rn_getF (N := 1) (t' := 28) (pc' := 56) rfl rfl rfl rfl rfl (by first | assumption | decide | omega) ?_
              refine rn_iload (pc' := 58) rfl rfl rfl ?_
              refine rn_iald (k := k) (N := 1) (K := 24) (pc' := 59) rfl rfl ⟨rfl, rfl⟩ rfl (by first | assumption | decide | omega) rfl (by decide) (rfl) (by first | assumption | decide | omega) ?_
              refine rn_iconst (pc' := 60) (v := 4) rfl rfl (by decide) ?_
              refine rn_ic_ne (t := 72) (pc' := 63) rfl rfl rfl (fun h4 => ?_) (fun h4 => ?_)
              · exact g72
              · first | exact absurd h1 hk0' | exact absurd (show ¬ k = e ∧ (¬ rpar M k = rpid M e ∨ rste M k = 4) from ⟨fun q => h2 (hke.mpr q), Or.inr h4⟩) c1 | exact absurd (show ¬ k = e ∧ (¬ rpar M k = rpid M e ∨ rste M k = 4) from ⟨fun q => h2 (hke.mpr q), Or.inl h3⟩) c1
  show Rn _ 98 (0, [some (vR 20 0), some (vI (nI e)), some (vI (nI (8 * e + a))), some (vI (nI (8 * e + b))), none, none, none, none, none], [], _) _
  by_cases hv0 : v = 0
  · rw [if_pos hv0] at hko
    have s2' : oI ko = nI e := by rw [← hko]; rfl
    rw [s2'] at s2
    refine rn_aload_n (pc' := 1) rfl rfl rfl ?_
    refine rn_getF (N := 1) (t' := 31) (pc' := 4) rfl rfl rfl rfl rfl (by first | assumption | decide | omega) ?_
    refine rn_iload_n (pc' := 5) rfl rfl rfl ?_
    refine rn_iald (N := 1) (K := 192) (pc' := 6) rfl rfl ⟨rfl, rfl⟩ rfl (by first | assumption | decide | omega) rfl (by decide) rfl (by first | assumption | decide | omega) ?_
    refine rn_topI hv ?_
    refine rn_istore (pc' := 8) rfl rfl rfl (Nat.le_of_ble_eq_true rfl) rfl ?_
    refine rn_iload (pc' := 10) rfl rfl rfl ?_
    refine rn_if_ne (t := 17) (pc' := 13) rfl rfl rfl (fun h1 => ?_) (fun h1 => ?_)
    · exact absurd hv0 h1
    · refine rn_iload_n (pc' := 14) rfl rfl rfl ?_
      refine rn_goto (pc' := 23) rfl rfl ?_
      refine rn_istore (pc' := 25) rfl rfl rfl (Nat.le_of_ble_eq_true rfl) rfl ?_
      exact s2
  · rw [if_neg hv0] at hko
    rw [← hko] at s2
    rw [← hko]
    refine rn_aload_n (pc' := 1) rfl rfl rfl ?_
    refine rn_getF (N := 1) (t' := 31) (pc' := 4) rfl rfl rfl rfl rfl (by first | assumption | decide | omega) ?_
    refine rn_iload_n (pc' := 5) rfl rfl rfl ?_
    refine rn_iald (N := 1) (K := 192) (pc' := 6) rfl rfl ⟨rfl, rfl⟩ rfl (by first | assumption | decide | omega) rfl (by decide) rfl (by first | assumption | decide | omega) ?_
    refine rn_topI hv ?_
    refine rn_istore (pc' := 8) rfl rfl rfl (Nat.le_of_ble_eq_true rfl) rfl ?_
    refine rn_iload (pc' := 10) rfl rfl rfl ?_
    refine rn_if_ne (t := 17) (pc' := 13) rfl rfl rfl (fun h1 => ?_) (fun h1 => ?_)
    · refine rn_aload_n (pc' := 18) rfl rfl rfl ?_
      refine rn_iload (pc' := 20) rfl rfl rfl ?_
      refine rn_callV (pc' := 23) (as := [_]) rfl rfl rfl ⟨Nat.le_of_ble_eq_true rfl, rfl, rfl⟩ rfl (by first | assumption | decide | omega) (Nat.le_of_ble_eq_true rfl) (Nat.le_of_ble_eq_true rfl) rfl (r_entryOf M v) (fun r2 M2 hz => ?_)
      obtain ⟨rfl, hm_⟩ := hz
      refine rn_mem hm_ ?_
      clear hm_
      refine rn_istore (pc' := 25) rfl rfl rfl (Nat.le_of_ble_eq_true rfl) rfl ?_
      exact s2
    · exact absurd h1 hv0
