def pF (p : Nat → Bool) : Nat → Option Nat
  | 0 => none
  | k + 1 => match pF p k with
    | some z => some z
    | none => if p k = true then some k else none
theorem lsF_last (p : Nat → Bool) : ∀ (m i : Nat), lsF p (m + 1) i = match lsF p m i with
    | some z => some z
    | none => if p (i + m) = true then some (i + m) else none := by
  intro m
  induction m with
  | zero => intro i; rfl
  | succ m ih =>
    intro i
    rw [show lsF p (m + 1 + 1) i = if p i = true then some i else lsF p (m + 1) (i + 1) from rfl, show lsF p (m + 1) i = if p i = true then some i else lsF p m (i + 1) from rfl]
    by_cases h : p i = true
    · rw [if_pos h, if_pos h]
    · rw [if_neg h, if_neg h, ih (i + 1), show i + 1 + m = i + (m + 1) by omega]
theorem pF_ls (p : Nat → Bool) : ∀ k, pF p k = lsF p k 0 := by
  intro k
  induction k with
  | zero => rfl
  | succ k ih =>
    rw [lsF_last]
    unfold pF
    rw [ih, Nat.zero_add]
theorem pF_y {p : Nat → Bool} {k : Nat} (h : pF p k = none) (hp : p k = true) : pF p (k + 1) = some k := by unfold pF; rw [h]; simp only [if_pos hp]
theorem pF_n {p : Nat → Bool} {k : Nat} (hp : p k = false) : pF p (k + 1) = pF p k := by
  have e1 : pF p (k + 1) = match pF p k with
    | some z => some z
    | none => if p k = true then some k else none := rfl
  rw [e1]
  cases pF p k with
  | none => simp only [hp, Bool.false_eq_true, if_false]
  | some z => rfl
theorem pF_s {p : Nat → Bool} {k z : Nat} (h : pF p k = some z) : pF p (k + 1) = some z := by unfold pF; rw [h]
theorem pF_is {p : Nat → Bool} {z : Nat} : ∀ {k : Nat}, pF p k = some z → z < k ∧ p z = true := by
  intro k h
  rw [pF_ls] at h
  have := lsF_some h
  exact ⟨by omega, this.2.2⟩
theorem Tm_free {t b z : Nat} {M N : xM} (h : Tm t b M) (h20 : N.1 20 = M.1 20) (h2 : N.2 = M.2) (h25 : ∀ k, N.1 25 0 k = if k = z then 0 else M.1 25 0 k) : Tm t b N := by
  obtain ⟨h1, h3, h4, h5⟩ := h
  refine ⟨by rw [h20]; exact h1, h3, by rw [h20]; exact h4, fun e he hl => ?_⟩
  rw [h25] at hl
  split at hl
  · exact absurd hl (by decide)
  · rw [h2]; exact h5 e he hl
theorem c_awaitChild {d e t ja jb : Nat} {D N : xM} (op : Int32) (h : Cx e t D N) (hja : ja < 8) (hjb : jb < 8) : Rn (d + 2) 50 (0, xen 50 [vR 9 0, vR 0 e, vI op, vI (nI ja), vI (nI jb)], [], D) (fun r C' => r = none ∧ AP e (N.1 25 0 e) (t + 1) C' (f_await N e ja jb op)) := by
  have he := h.1
  have hl := h.2.2.1
  obtain ⟨v, hv⟩ : ∃ v, v = N.1 31 0 (8 * e + ja) := ⟨_, rfl⟩
  have hfin : ∀ (x12 : Option xV), Rn (d + 2) 50 (119, [some (vR 9 0), some (vR 0 e), some (vI op), some (vI (nI ja)), some (vI (nI jb)), some (vI v), some (vI (bI (pF (chB N e v) 24).isSome)), some (vO 0 (pF (zoB N e v) 24)), some (vO 0 (pF (spB N e v) 24)), some (vR 11 0), some (vI 24), some (vI (nI 24)), x12], [], D) (fun r C' => r = none ∧ AP e (N.1 25 0 e) (t + 1) C' (f_await N e ja jb op)) := by
    intro x12
    unfold f_await
    rw [← hv, ← pF_ls, ← pF_ls, ← pF_ls]
    cases hch : pF (chB N e v) 24 with
    | none =>
      simp only
      refine rn_iload (pc' := 121) rfl rfl rfl ?_
      refine rn_if_ne (t := 135) (pc' := 124) rfl rfl rfl (fun h1 => ?_) (fun h1 => ?_)
      · exact absurd rfl h1
      · refine rn_aload_n (pc' := 125) rfl rfl rfl ?_
        refine rn_getF (N := 24) (t' := 1) (pc' := 128) rfl rfl rfl rfl rfl (by first | assumption | decide | omega) ?_
        refine rn_iload_n (pc' := 129) rfl rfl rfl ?_
        refine rn_bipush (pc' := 131) (v := (-10)) rfl rfl (by decide) ?_
        refine rn_iast (N := 24) (K := 8) (pc' := 132) rfl rfl ⟨rfl, rfl⟩ rfl (by first | assumption | decide | omega) rfl (by decide) rfl (by first | assumption | decide | omega) ?_
        refine rn_goto (pc' := 243) rfl rfl ?_
        refine rn_return rfl rfl ?_
        exact ⟨rfl, AP_reg h hja⟩
    | some c0 =>
      simp only
      cases hz : pF (zoB N e v) 24 with
      | some z =>
        simp only
        obtain ⟨z1, z2⟩ := pF_is hz
        unfold zoB chB at z2
        simp only [Bool.and_eq_true, decide_eq_true_eq] at z2
        obtain ⟨⟨zl, zp, zm⟩, z4⟩ := z2
        have hz0 : ¬ z = 0 := fun q => by rw [q] at z4; exact h.2.1.2.2.2.2.2.2.2.2.2.1.2 z4
        have hze : ¬ e = z := fun q => by rw [← q] at z4; exact h.n4 z4
        have vp : D.1 0 z 0 = N.1 25 0 z := f1 h.2.1.1.1 z1 (by decide)
        have vh : D.1 0 z 14 = N.1 39 0 z := f1 h.2.1.1.1 z1 (by decide)
        have i1 := Inv_reg (e := e) (v := N.1 25 0 z) h.2.1 hja
        have i2 := Inv_reg (e := e) (v := N.1 39 0 z) i1 hjb
        have i3 := Inv_free (e := z) i2 hz0 (fun k hk hlk q => by
          rcases h.2.1.1.2.2.2.2.2.2.2.2.1 k hk hlk with ⟨y1, y2, y3⟩ | ⟨y1, y, y2, y3, y4, y5, y6, y7⟩
          · have q : D.2.2 0 k 1 = some z := q
            rw [y2] at q; cases q
          · have q : D.2.2 0 k 1 = some z := q
            rw [y4] at q
            cases q
            exact y6 z4)
        have ef : f_reap N e ja jb z = mI (mI (mI N 31 0 (8 * e + ja) (N.1 25 0 z)) 31 0 (8 * e + jb) (N.1 39 0 z)) 25 0 z 0 := rfl
        rw [ef]
        have hT := Tm_free (N := mI (mI (mI N 31 0 (8 * e + ja) (N.1 25 0 z)) 31 0 (8 * e + jb) (N.1 39 0 z)) 25 0 z 0) (z := z) h.tm rfl rfl (fun k => by simp [mI, xu])
        have hAP := AP_of (e := e) (p := N.1 25 0 e) i3 (by omega) h.2.2.2.2.1 hT (by simp [mI, xu, hze]) h.n4
        have hlv := c_leave (d := d + 1) (e := z) (mI (mI D 1 e ja (N.1 25 0 z)) 1 e jb (N.1 39 0 z)) z1
        refine rn_iload (pc' := 121) rfl rfl rfl ?_
        refine rn_if_ne (t := 135) (pc' := 124) rfl rfl rfl (fun h1 => ?_) (fun h1 => ?_)
        · refine rn_aload (pc' := 137) rfl rfl rfl ?_
          refine rn_ifnull (t := 171) (pc' := 140) rfl rfl rfl (fun h2 => ?_) (fun h2 => ?_)
          · exact nomatch h2
          · refine rn_aload_n (pc' := 141) rfl rfl rfl ?_
            refine rn_getF (N := 24) (t' := 1) (pc' := 144) rfl rfl rfl rfl rfl (by first | assumption | decide | omega) ?_
            refine rn_iload_n (pc' := 145) rfl rfl rfl ?_
            refine rn_aload (pc' := 147) rfl rfl rfl ?_
            refine rn_getI (N := 24) (pc' := 150) rfl rfl rfl rfl (by decide) rfl (by first | assumption | decide | omega) ?_
            refine rn_topI vp ?_
            refine rn_iast (N := 24) (K := 8) (pc' := 151) rfl rfl ⟨rfl, rfl⟩ rfl (by first | assumption | decide | omega) rfl (by decide) rfl (by first | assumption | decide | omega) ?_
            refine rn_aload_n (pc' := 152) rfl rfl rfl ?_
            refine rn_getF (N := 24) (t' := 1) (pc' := 155) rfl rfl rfl rfl rfl (by first | assumption | decide | omega) ?_
            refine rn_iload (pc' := 157) rfl rfl rfl ?_
            refine rn_aload (pc' := 159) rfl rfl rfl ?_
            refine rn_getI (N := 24) (pc' := 162) rfl rfl rfl rfl (by decide) rfl (by first | assumption | decide | omega) ?_
            refine rn_topI (y := N.1 39 0 z) vh ?_
            refine rn_iast (N := 24) (K := 8) (pc' := 163) rfl rfl ⟨rfl, rfl⟩ rfl (by first | assumption | decide | omega) rfl (by decide) rfl (by first | assumption | decide | omega) ?_
            refine rn_aload (pc' := 165) rfl rfl rfl ?_
            refine rn_callV (pc' := 168) (as := []) rfl rfl rfl ⟨Nat.le_of_ble_eq_true rfl, rfl, rfl⟩ rfl (by first | assumption | decide | omega) (Nat.le_of_ble_eq_true rfl) (Nat.le_of_ble_eq_true rfl) rfl hlv (fun r3 M3 hz => ?_)
            obtain ⟨rfl, hm_⟩ := hz
            refine rn_mem hm_ ?_
            clear hm_
            refine rn_goto (pc' := 243) rfl rfl ?_
            refine rn_return rfl rfl ?_
            exact ⟨rfl, hAP⟩
        · exact absurd h1 (show ¬ (1 : Int32) = 0 by decide)
      | none =>
        simp only
        have hrest : Rn (d + 2) 50 (221, [some (vR 9 0), some (vR 0 e), some (vI op), some (vI (nI ja)), some (vI (nI jb)), some (vI v), some (vI (bI (some c0).isSome)), some (vO 0 none), some (vO 0 (pF (spB N e v) 24)), some (vR 11 0), some (vI 24), some (vI (nI 24)), x12], [], D) (fun r C' => r = none ∧ AP e (N.1 25 0 e) (t + 1) C' (if op = 12 then mI N 31 0 (8 * e + ja) 0 else f_sleep N e ja 1)) := by
          by_cases h12 : op = 12
          · rw [if_pos h12]
            refine rn_iload_n (pc' := 222) rfl rfl rfl ?_
            refine rn_bipush (pc' := 224) (v := 12) rfl rfl (by decide) ?_
            refine rn_ic_ne (t := 237) (pc' := 227) rfl rfl rfl (fun h1 => ?_) (fun h1 => ?_)
            · exact absurd h12 h1
            · refine rn_aload_n (pc' := 228) rfl rfl rfl ?_
              refine rn_getF (N := 24) (t' := 1) (pc' := 231) rfl rfl rfl rfl rfl (by first | assumption | decide | omega) ?_
              refine rn_iload_n (pc' := 232) rfl rfl rfl ?_
              refine rn_iconst (pc' := 233) (v := 0) rfl rfl (by decide) ?_
              refine rn_iast (N := 24) (K := 8) (pc' := 234) rfl rfl ⟨rfl, rfl⟩ rfl (by first | assumption | decide | omega) rfl (by decide) rfl (by first | assumption | decide | omega) ?_
              refine rn_goto (pc' := 243) rfl rfl ?_
              refine rn_return rfl rfl ?_
              exact ⟨rfl, AP_reg h hja⟩
          · rw [if_neg h12]
            refine rn_iload_n (pc' := 222) rfl rfl rfl ?_
            refine rn_bipush (pc' := 224) (v := 12) rfl rfl (by decide) ?_
            refine rn_ic_ne (t := 237) (pc' := 227) rfl rfl rfl (fun h1 => ?_) (fun h1 => ?_)
            · refine rn_aload_n (pc' := 238) rfl rfl rfl ?_
              refine rn_iconst (pc' := 239) (v := 1) rfl rfl (by decide) ?_
              refine rn_iload_n (pc' := 240) rfl rfl rfl ?_
              refine rn_callV (pc' := 243) (as := [_, _]) rfl rfl rfl ⟨Nat.le_of_ble_eq_true rfl, rfl, rfl⟩ rfl (by first | assumption | decide | omega) (Nat.le_of_ble_eq_true rfl) (Nat.le_of_ble_eq_true rfl) rfl (c_sleep (d := d + 1) (st := 1) h hja (Or.inl rfl)) (fun r9 D9 hz9 => ?_)
              obtain ⟨rfl, hI⟩ := hz9
              refine rn_return rfl rfl ?_
              exact ⟨rfl, hI⟩
            · exact absurd h1 h12
        by_cases h13 : op = 13
        · rw [if_pos h13]
          cases hs : pF (spB N e v) 24 with
          | none =>
            simp only
            rw [hs] at hrest
            refine rn_iload (pc' := 121) rfl rfl rfl ?_
            refine rn_if_ne (t := 135) (pc' := 124) rfl rfl rfl (fun h1 => ?_) (fun h1 => ?_)
            · refine rn_aload (pc' := 137) rfl rfl rfl ?_
              refine rn_ifnull (t := 171) (pc' := 140) rfl rfl rfl (fun h2 => ?_) (fun h2 => ?_)
              · refine rn_iload_n (pc' := 172) rfl rfl rfl ?_
                refine rn_bipush (pc' := 174) (v := 13) rfl rfl (by decide) ?_
                refine rn_ic_ne (t := 221) (pc' := 177) rfl rfl rfl (fun h3 => ?_) (fun h3 => ?_)
                · exact hrest
                · refine rn_aload (pc' := 179) rfl rfl rfl ?_
                  refine rn_ifnull (t := 221) (pc' := 182) rfl rfl rfl (fun h5 => ?_) (fun h5 => ?_)
                  · exact hrest
                  · exact absurd rfl h5
              · exact absurd rfl h2
            · exact absurd h1 (show ¬ (1 : Int32) = 0 by decide)
          | some z =>
            simp only
            obtain ⟨z1, z2⟩ := pF_is hs
            unfold spB chB at z2
            simp only [Bool.and_eq_true, decide_eq_true_eq] at z2
            obtain ⟨⟨zl, zp, zm⟩, z3, z41⟩ := z2
            have vp : D.1 0 z 0 = N.1 25 0 z := f1 h.2.1.1.1 z1 (by decide)
            have vst : D.1 0 z 15 = N.1 40 0 z := h.2.1.1.2.2.2.2.2.2.1 z z1 zl z3
            have i1 := Inv_reg (e := e) (v := N.1 25 0 z) h.2.1 hja
            have i2 := Inv_reg (e := e) (v := 256 * N.1 40 0 z + 127) i1 hjb
            have i3 := Inv_fld (e := z) (k := 16) (t := 41) (v := 1) i2 (by decide) (by decide) (by decide) (fun q => absurd q (by decide)) i2.2.2
            have ef : f_stold N e ja jb z = mI (mI (mI N 31 0 (8 * e + ja) (N.1 25 0 z)) 31 0 (8 * e + jb) (256 * N.1 40 0 z + 127)) 41 0 z 1 := rfl
            rw [ef]
            have hAP := AP_of (e := e) (p := N.1 25 0 e) i3 (by omega) h.2.2.2.2.1 h.tm rfl h.n4
            refine rn_iload (pc' := 121) rfl rfl rfl ?_
            refine rn_if_ne (t := 135) (pc' := 124) rfl rfl rfl (fun h1 => ?_) (fun h1 => ?_)
            · refine rn_aload (pc' := 137) rfl rfl rfl ?_
              refine rn_ifnull (t := 171) (pc' := 140) rfl rfl rfl (fun h2 => ?_) (fun h2 => ?_)
              · refine rn_iload_n (pc' := 172) rfl rfl rfl ?_
                refine rn_bipush (pc' := 174) (v := 13) rfl rfl (by decide) ?_
                refine rn_ic_ne (t := 221) (pc' := 177) rfl rfl rfl (fun h3 => ?_) (fun h3 => ?_)
                · first | exact absurd h13 h3 | exact nomatch h5
                · refine rn_aload (pc' := 179) rfl rfl rfl ?_
                  refine rn_ifnull (t := 221) (pc' := 182) rfl rfl rfl (fun h5 => ?_) (fun h5 => ?_)
                  · first | exact absurd h13 h3 | exact nomatch h5
                  · refine rn_aload_n (pc' := 183) rfl rfl rfl ?_
                    refine rn_getF (N := 24) (t' := 1) (pc' := 186) rfl rfl rfl rfl rfl (by first | assumption | decide | omega) ?_
                    refine rn_iload_n (pc' := 187) rfl rfl rfl ?_
                    refine rn_aload (pc' := 189) rfl rfl rfl ?_
                    refine rn_getI (N := 24) (pc' := 192) rfl rfl rfl rfl (by decide) rfl (by first | assumption | decide | omega) ?_
                    refine rn_topI vp ?_
                    refine rn_iast (N := 24) (K := 8) (pc' := 193) rfl rfl ⟨rfl, rfl⟩ rfl (by first | assumption | decide | omega) rfl (by decide) rfl (by first | assumption | decide | omega) ?_
                    refine rn_aload_n (pc' := 194) rfl rfl rfl ?_
                    refine rn_getF (N := 24) (t' := 1) (pc' := 197) rfl rfl rfl rfl rfl (by first | assumption | decide | omega) ?_
                    refine rn_iload (pc' := 199) rfl rfl rfl ?_
                    refine rn_sipush (pc' := 202) (v := 256) rfl rfl (by decide) ?_
                    refine rn_aload (pc' := 204) rfl rfl rfl ?_
                    refine rn_getI (N := 24) (pc' := 207) rfl rfl rfl rfl (by decide) rfl (by first | assumption | decide | omega) ?_
                    refine rn_imul (pc' := 208) rfl rfl ?_
                    refine rn_bipush (pc' := 210) (v := 127) rfl rfl (by decide) ?_
                    refine rn_iadd (pc' := 211) rfl rfl ?_
                    refine rn_topI (y := 256 * N.1 40 0 z + 127) (congrArg (fun q => 256 * q + 127) vst) ?_
                    refine rn_iast (N := 24) (K := 8) (pc' := 212) rfl rfl ⟨rfl, rfl⟩ rfl (by first | assumption | decide | omega) rfl (by decide) rfl (by first | assumption | decide | omega) ?_
                    refine rn_aload (pc' := 214) rfl rfl rfl ?_
                    refine rn_iconst (pc' := 215) (v := 1) rfl rfl (by decide) ?_
                    refine rn_putZ (N := 24) (pc' := 218) rfl rfl rfl rfl rfl (by first | assumption | decide | omega) (by decide) ?_
                    refine rn_goto (pc' := 243) rfl rfl ?_
                    refine rn_return rfl rfl ?_
                    exact ⟨rfl, hAP⟩
              · exact absurd rfl h2
            · exact absurd h1 (show ¬ (1 : Int32) = 0 by decide)
        · rw [if_neg h13]
          simp only
          refine rn_iload (pc' := 121) rfl rfl rfl ?_
          refine rn_if_ne (t := 135) (pc' := 124) rfl rfl rfl (fun h1 => ?_) (fun h1 => ?_)
          · refine rn_aload (pc' := 137) rfl rfl rfl ?_
            refine rn_ifnull (t := 171) (pc' := 140) rfl rfl rfl (fun h2 => ?_) (fun h2 => ?_)
            · refine rn_iload_n (pc' := 172) rfl rfl rfl ?_
              refine rn_bipush (pc' := 174) (v := 13) rfl rfl (by decide) ?_
              refine rn_ic_ne (t := 221) (pc' := 177) rfl rfl rfl (fun h3 => ?_) (fun h3 => ?_)
              · exact hrest
              · exact absurd h3 h13
            · exact absurd rfl h2
          · exact absurd h1 (show ¬ (1 : Int32) = 0 by decide)
  have loop : ∀ (m i : Nat) (x12 : Option xV), i + m = 24 → Rn (d + 2) 50 (31, [some (vR 9 0), some (vR 0 e), some (vI op), some (vI (nI ja)), some (vI (nI jb)), some (vI v), some (vI (bI (pF (chB N e v) i).isSome)), some (vO 0 (pF (zoB N e v) i)), some (vO 0 (pF (spB N e v) i)), some (vR 11 0), some (vI 24), some (vI (nI i)), x12], [], D) (fun r C' => r = none ∧ AP e (N.1 25 0 e) (t + 1) C' (f_await N e ja jb op)) := by
    intro m
    induction m with
    | zero =>
      intro i x12 hi
      obtain rfl : i = 24 := by omega
      refine rn_iload (pc' := 33) rfl rfl rfl ?_
      refine rn_iload (pc' := 35) rfl rfl rfl ?_
      refine rn_ic_ge (t := 119) (pc' := 38) rfl rfl rfl (fun h1 => ?_) (fun h1 => ?_)
      · exact hfin x12
      · exact absurd ((lt24 (by omega)).mp h1) (by omega)
    | succ m ih =>
      intro i x12 hi
      have hi24 : i < 24 := by omega
      have v3 : D.1 0 i 3 = N.1 28 0 i := f1 h.2.1.1.1 hi24 (by decide)
      have v16 : D.1 0 i 16 = N.1 41 0 i := f1 h.2.1.1.1 hi24 (by decide)
      have hm := c_isMeantChild (d := d) v h.2.1 he hl hi24
      have nx : ∀ (b : Bool) (oz os : Option Nat), b = (pF (chB N e v) (i + 1)).isSome → oz = pF (zoB N e v) (i + 1) → os = pF (spB N e v) (i + 1) → Rn (d + 2) 50 (113, [some (vR 9 0), some (vR 0 e), some (vI op), some (vI (nI ja)), some (vI (nI jb)), some (vI v), some (vI (bI b)), some (vO 0 oz), some (vO 0 os), some (vR 11 0), some (vI 24), some (vI (nI i)), some (vR 0 i)], [], D) (fun r C' => r = none ∧ AP e (N.1 25 0 e) (t + 1) C' (f_await N e ja jb op)) := by
        intro b oz os hb hz hs
        subst hb; subst hz; subst hs
        refine rn_iinc (pc' := 116) rfl rfl rfl (nI_inc _) rfl (Nat.le_of_ble_eq_true rfl) rfl ?_
        refine rn_goto (pc' := 31) rfl rfl ?_
        exact ih (i + 1) _ (by omega)
      by_cases hc : chB N e v i = true
      · rw [hc] at hm
        have yC : (pF (chB N e v) (i + 1)).isSome = true := by
          cases hq : pF (chB N e v) i with
          | none => rw [pF_y hq hc]; rfl
          | some z => rw [pF_s hq]; rfl
        have mid2 : ∀ (oz : Option Nat), oz = pF (zoB N e v) (i + 1) → Rn (d + 2) 50 (82, [some (vR 9 0), some (vR 0 e), some (vI op), some (vI (nI ja)), some (vI (nI jb)), some (vI v), some (vI 1), some (vO 0 oz), some (vO 0 (pF (spB N e v) i)), some (vR 11 0), some (vI 24), some (vI (nI i)), some (vR 0 i)], [], D) (fun r C' => r = none ∧ AP e (N.1 25 0 e) (t + 1) C' (f_await N e ja jb op)) := by
          intro oz hz
          cases hq : pF (spB N e v) i with
          | some z =>
            have nx := nx true oz (some z) yC.symm hz (pF_s hq).symm
            refine rn_aload (pc' := 84) rfl rfl rfl ?_
            refine rn_ifnonnull (t := 109) (pc' := 87) rfl rfl rfl (fun h1 => ?_) (fun h1 => ?_)
            · refine rn_aload (pc' := 111) rfl rfl rfl ?_
              refine rn_astore (pc' := 113) rfl rfl rfl (Nat.le_of_ble_eq_true rfl) rfl ?_
              exact nx
            · exact nomatch h1
          | none =>
            by_cases hsp : spB N e v i = true
            · have nx := nx true oz (some i) yC.symm hz (pF_y hq hsp).symm
              have hsp' : rste N i = 3 ∧ N.1 41 0 i = 0 := by
                unfold spB at hsp
                simp only [Bool.and_eq_true, decide_eq_true_eq] at hsp
                exact hsp.2
              refine rn_aload (pc' := 84) rfl rfl rfl ?_
              refine rn_ifnonnull (t := 109) (pc' := 87) rfl rfl rfl (fun h1 => ?_) (fun h1 => ?_)
              · first | exact absurd rfl h1 | exact absurd (v3.trans hsp'.1) h2 | exact absurd (v16.trans hsp'.2) h3
              · refine rn_aload (pc' := 89) rfl rfl rfl ?_
                refine rn_getI (N := 24) (pc' := 92) rfl rfl rfl rfl (by decide) rfl (by first | assumption | decide | omega) ?_
                refine rn_iconst (pc' := 93) (v := 3) rfl rfl (by decide) ?_
                refine rn_ic_ne (t := 109) (pc' := 96) rfl rfl rfl (fun h2 => ?_) (fun h2 => ?_)
                · first | exact absurd rfl h1 | exact absurd (v3.trans hsp'.1) h2 | exact absurd (v16.trans hsp'.2) h3
                · refine rn_aload (pc' := 98) rfl rfl rfl ?_
                  refine rn_getI (N := 24) (pc' := 101) rfl rfl rfl rfl (by decide) rfl (by first | assumption | decide | omega) ?_
                  refine rn_if_ne (t := 109) (pc' := 104) rfl rfl rfl (fun h3 => ?_) (fun h3 => ?_)
                  · first | exact absurd rfl h1 | exact absurd (v3.trans hsp'.1) h2 | exact absurd (v16.trans hsp'.2) h3
                  · refine rn_aload (pc' := 106) rfl rfl rfl ?_
                    refine rn_goto (pc' := 111) rfl rfl ?_
                    refine rn_astore (pc' := 113) rfl rfl rfl (Nat.le_of_ble_eq_true rfl) rfl ?_
                    exact nx
            · have hsp2 : spB N e v i = false := by simpa using hsp
              have nx := nx true oz none yC.symm hz (by rw [pF_n hsp2, hq])
              refine rn_aload (pc' := 84) rfl rfl rfl ?_
              refine rn_ifnonnull (t := 109) (pc' := 87) rfl rfl rfl (fun h1 => ?_) (fun h1 => ?_)
              · refine rn_aload (pc' := 111) rfl rfl rfl ?_
                refine rn_astore (pc' := 113) rfl rfl rfl (Nat.le_of_ble_eq_true rfl) rfl ?_
                exact nx
              · refine rn_aload (pc' := 89) rfl rfl rfl ?_
                refine rn_getI (N := 24) (pc' := 92) rfl rfl rfl rfl (by decide) rfl (by first | assumption | decide | omega) ?_
                refine rn_iconst (pc' := 93) (v := 3) rfl rfl (by decide) ?_
                refine rn_ic_ne (t := 109) (pc' := 96) rfl rfl rfl (fun h2 => ?_) (fun h2 => ?_)
                · refine rn_aload (pc' := 111) rfl rfl rfl ?_
                  refine rn_astore (pc' := 113) rfl rfl rfl (Nat.le_of_ble_eq_true rfl) rfl ?_
                  exact nx
                · refine rn_aload (pc' := 98) rfl rfl rfl ?_
                  refine rn_getI (N := 24) (pc' := 101) rfl rfl rfl rfl (by decide) rfl (by first | assumption | decide | omega) ?_
                  refine rn_if_ne (t := 109) (pc' := 104) rfl rfl rfl (fun h3 => ?_) (fun h3 => ?_)
                  · refine rn_aload (pc' := 111) rfl rfl rfl ?_
                    refine rn_astore (pc' := 113) rfl rfl rfl (Nat.le_of_ble_eq_true rfl) rfl ?_
                    exact nx
                  · exact absurd (by unfold spB; rw [hc, decide_eq_true (show rste N i = 3 from v3.symm.trans h2), decide_eq_true (v16.symm.trans h3)]; rfl) hsp
        cases hq : pF (zoB N e v) i with
        | some z =>
          have mid2 := mid2 (some z) (pF_s hq).symm
          refine rn_iload (pc' := 33) rfl rfl rfl ?_
          refine rn_iload (pc' := 35) rfl rfl rfl ?_
          refine rn_ic_ge (t := 119) (pc' := 38) rfl rfl rfl (fun h1 => ?_) (fun h1 => ?_)
          · exact absurd ((lt24 (by omega)).mpr hi24) h1
          · refine rn_aload (pc' := 40) rfl rfl rfl ?_
            refine rn_iload (pc' := 42) rfl rfl rfl ?_
            refine rn_aaldF (t' := 0) (N := 1) (K := 24) (pc' := 43) rfl rfl rfl rfl rfl (by first | assumption | decide | omega) rfl (by decide) rfl (by first | assumption | decide | omega) ?_
            refine rn_astore (pc' := 45) rfl rfl rfl (Nat.le_of_ble_eq_true rfl) rfl ?_
            refine rn_aload_n (pc' := 46) rfl rfl rfl ?_
            refine rn_iload (pc' := 48) rfl rfl rfl ?_
            refine rn_aload (pc' := 50) rfl rfl rfl ?_
            refine rn_callS (pc' := 53) (as := [_, _, _]) rfl rfl rfl ⟨rfl, rfl, rfl⟩ (Nat.le_of_ble_eq_true rfl) (Nat.le_of_ble_eq_true rfl) rfl hm (fun r2 M2 hz => ?_)
            obtain ⟨rfl, hm_⟩ := hz
            refine rn_mem hm_ ?_
            clear hm_
            refine rn_if_eq (t := 113) (pc' := 56) rfl rfl rfl (fun h2 => ?_) (fun h2 => ?_)
            · exact absurd h2 (by decide)
            · refine rn_iconst (pc' := 57) (v := 1) rfl rfl (by decide) ?_
              refine rn_istore (pc' := 59) rfl rfl rfl (Nat.le_of_ble_eq_true rfl) rfl ?_
              refine rn_aload (pc' := 61) rfl rfl rfl ?_
              refine rn_ifnonnull (t := 78) (pc' := 64) rfl rfl rfl (fun h3 => ?_) (fun h3 => ?_)
              · refine rn_aload (pc' := 80) rfl rfl rfl ?_
                refine rn_astore (pc' := 82) rfl rfl rfl (Nat.le_of_ble_eq_true rfl) rfl ?_
                exact mid2
              · exact nomatch h3
        | none =>
          by_cases hzo : zoB N e v i = true
          · have mid2 := mid2 (some i) (pF_y hq hzo).symm
            have hzo' : rste N i = 4 := by
              unfold zoB at hzo
              simp only [Bool.and_eq_true, decide_eq_true_eq] at hzo
              exact hzo.2
            refine rn_iload (pc' := 33) rfl rfl rfl ?_
            refine rn_iload (pc' := 35) rfl rfl rfl ?_
            refine rn_ic_ge (t := 119) (pc' := 38) rfl rfl rfl (fun h1 => ?_) (fun h1 => ?_)
            · exact absurd ((lt24 (by omega)).mpr hi24) h1
            · refine rn_aload (pc' := 40) rfl rfl rfl ?_
              refine rn_iload (pc' := 42) rfl rfl rfl ?_
              refine rn_aaldF (t' := 0) (N := 1) (K := 24) (pc' := 43) rfl rfl rfl rfl rfl (by first | assumption | decide | omega) rfl (by decide) rfl (by first | assumption | decide | omega) ?_
              refine rn_astore (pc' := 45) rfl rfl rfl (Nat.le_of_ble_eq_true rfl) rfl ?_
              refine rn_aload_n (pc' := 46) rfl rfl rfl ?_
              refine rn_iload (pc' := 48) rfl rfl rfl ?_
              refine rn_aload (pc' := 50) rfl rfl rfl ?_
              refine rn_callS (pc' := 53) (as := [_, _, _]) rfl rfl rfl ⟨rfl, rfl, rfl⟩ (Nat.le_of_ble_eq_true rfl) (Nat.le_of_ble_eq_true rfl) rfl hm (fun r2 M2 hz => ?_)
              obtain ⟨rfl, hm_⟩ := hz
              refine rn_mem hm_ ?_
              clear hm_
              refine rn_if_eq (t := 113) (pc' := 56) rfl rfl rfl (fun h2 => ?_) (fun h2 => ?_)
              · exact absurd h2 (by decide)
              · refine rn_iconst (pc' := 57) (v := 1) rfl rfl (by decide) ?_
                refine rn_istore (pc' := 59) rfl rfl rfl (Nat.le_of_ble_eq_true rfl) rfl ?_
                refine rn_aload (pc' := 61) rfl rfl rfl ?_
                refine rn_ifnonnull (t := 78) (pc' := 64) rfl rfl rfl (fun h3 => ?_) (fun h3 => ?_)
                · first | exact absurd rfl h3 | exact absurd (v3.trans hzo') h5
                · refine rn_aload (pc' := 66) rfl rfl rfl ?_
                  refine rn_getI (N := 24) (pc' := 69) rfl rfl rfl rfl (by decide) rfl (by first | assumption | decide | omega) ?_
                  refine rn_iconst (pc' := 70) (v := 4) rfl rfl (by decide) ?_
                  refine rn_ic_ne (t := 78) (pc' := 73) rfl rfl rfl (fun h5 => ?_) (fun h5 => ?_)
                  · first | exact absurd rfl h3 | exact absurd (v3.trans hzo') h5
                  · refine rn_aload (pc' := 75) rfl rfl rfl ?_
                    refine rn_goto (pc' := 80) rfl rfl ?_
                    refine rn_astore (pc' := 82) rfl rfl rfl (Nat.le_of_ble_eq_true rfl) rfl ?_
                    exact mid2
          · have hzo2 : zoB N e v i = false := by simpa using hzo
            have mid2 := mid2 none (by rw [pF_n hzo2, hq])
            refine rn_iload (pc' := 33) rfl rfl rfl ?_
            refine rn_iload (pc' := 35) rfl rfl rfl ?_
            refine rn_ic_ge (t := 119) (pc' := 38) rfl rfl rfl (fun h1 => ?_) (fun h1 => ?_)
            · exact absurd ((lt24 (by omega)).mpr hi24) h1
            · refine rn_aload (pc' := 40) rfl rfl rfl ?_
              refine rn_iload (pc' := 42) rfl rfl rfl ?_
              refine rn_aaldF (t' := 0) (N := 1) (K := 24) (pc' := 43) rfl rfl rfl rfl rfl (by first | assumption | decide | omega) rfl (by decide) rfl (by first | assumption | decide | omega) ?_
              refine rn_astore (pc' := 45) rfl rfl rfl (Nat.le_of_ble_eq_true rfl) rfl ?_
              refine rn_aload_n (pc' := 46) rfl rfl rfl ?_
              refine rn_iload (pc' := 48) rfl rfl rfl ?_
              refine rn_aload (pc' := 50) rfl rfl rfl ?_
              refine rn_callS (pc' := 53) (as := [_, _, _]) rfl rfl rfl ⟨rfl, rfl, rfl⟩ (Nat.le_of_ble_eq_true rfl) (Nat.le_of_ble_eq_true rfl) rfl hm (fun r2 M2 hz => ?_)
              obtain ⟨rfl, hm_⟩ := hz
              refine rn_mem hm_ ?_
              clear hm_
              refine rn_if_eq (t := 113) (pc' := 56) rfl rfl rfl (fun h2 => ?_) (fun h2 => ?_)
              · exact absurd h2 (by decide)
              · refine rn_iconst (pc' := 57) (v := 1) rfl rfl (by decide) ?_
                refine rn_istore (pc' := 59) rfl rfl rfl (Nat.le_of_ble_eq_true rfl) rfl ?_
                refine rn_aload (pc' := 61) rfl rfl rfl ?_
                refine rn_ifnonnull (t := 78) (pc' := 64) rfl rfl rfl (fun h3 => ?_) (fun h3 => ?_)
                · refine rn_aload (pc' := 80) rfl rfl rfl ?_
                  refine rn_astore (pc' := 82) rfl rfl rfl (Nat.le_of_ble_eq_true rfl) rfl ?_
                  exact mid2
                · refine rn_aload (pc' := 66) rfl rfl rfl ?_
                  refine rn_getI (N := 24) (pc' := 69) rfl rfl rfl rfl (by decide) rfl (by first | assumption | decide | omega) ?_
                  refine rn_iconst (pc' := 70) (v := 4) rfl rfl (by decide) ?_
                  refine rn_ic_ne (t := 78) (pc' := 73) rfl rfl rfl (fun h5 => ?_) (fun h5 => ?_)
                  · refine rn_aload (pc' := 80) rfl rfl rfl ?_
                    refine rn_astore (pc' := 82) rfl rfl rfl (Nat.le_of_ble_eq_true rfl) rfl ?_
                    exact mid2
                  · exact absurd (by unfold zoB; rw [hc, decide_eq_true (show rste N i = 4 from v3.symm.trans h5)]; rfl) hzo
      · have hc2 : chB N e v i = false := by simpa using hc
        rw [hc2] at hm
        have nx := nx _ _ _ (by rw [pF_n hc2]) (by rw [pF_n (show zoB N e v i = false by unfold zoB; rw [hc2]; rfl)]) (by rw [pF_n (show spB N e v i = false by unfold spB; rw [hc2]; rfl)])
        refine rn_iload (pc' := 33) rfl rfl rfl ?_
        refine rn_iload (pc' := 35) rfl rfl rfl ?_
        refine rn_ic_ge (t := 119) (pc' := 38) rfl rfl rfl (fun h1 => ?_) (fun h1 => ?_)
        · exact absurd ((lt24 (by omega)).mpr hi24) h1
        · refine rn_aload (pc' := 40) rfl rfl rfl ?_
          refine rn_iload (pc' := 42) rfl rfl rfl ?_
          refine rn_aaldF (t' := 0) (N := 1) (K := 24) (pc' := 43) rfl rfl rfl rfl rfl (by first | assumption | decide | omega) rfl (by decide) rfl (by first | assumption | decide | omega) ?_
          refine rn_astore (pc' := 45) rfl rfl rfl (Nat.le_of_ble_eq_true rfl) rfl ?_
          refine rn_aload_n (pc' := 46) rfl rfl rfl ?_
          refine rn_iload (pc' := 48) rfl rfl rfl ?_
          refine rn_aload (pc' := 50) rfl rfl rfl ?_
          refine rn_callS (pc' := 53) (as := [_, _, _]) rfl rfl rfl ⟨rfl, rfl, rfl⟩ (Nat.le_of_ble_eq_true rfl) (Nat.le_of_ble_eq_true rfl) rfl hm (fun r2 M2 hz => ?_)
          obtain ⟨rfl, hm_⟩ := hz
          refine rn_mem hm_ ?_
          clear hm_
          refine rn_if_eq (t := 113) (pc' := 56) rfl rfl rfl (fun h2 => ?_) (fun h2 => ?_)
          · exact nx
          · exact absurd rfl h2
  have hr : D.1 1 e ja = v := (reg_eq h hja).trans hv.symm
  show Rn _ 50 (0, [some (vR 9 0), some (vR 0 e), some (vI op), some (vI (nI ja)), some (vI (nI jb)), none, none, none, none, none, none, none, none], [], _) _
  refine rn_aload_n (pc' := 1) rfl rfl rfl ?_
  refine rn_getF (N := 24) (t' := 1) (pc' := 4) rfl rfl rfl rfl rfl (by first | assumption | decide | omega) ?_
  refine rn_iload_n (pc' := 5) rfl rfl rfl ?_
  refine rn_iald (N := 24) (K := 8) (pc' := 6) rfl rfl ⟨rfl, rfl⟩ rfl (by first | assumption | decide | omega) rfl (by decide) rfl (by first | assumption | decide | omega) ?_
  refine rn_topI hr ?_
  refine rn_istore (pc' := 8) rfl rfl rfl (Nat.le_of_ble_eq_true rfl) rfl ?_
  refine rn_iconst (pc' := 9) (v := 0) rfl rfl (by decide) ?_
  refine rn_istore (pc' := 11) rfl rfl rfl (Nat.le_of_ble_eq_true rfl) rfl ?_
  refine rn_aconst_null (pc' := 12) rfl rfl ?_
  refine rn_astore (pc' := 14) rfl rfl rfl (Nat.le_of_ble_eq_true rfl) rfl ?_
  refine rn_aconst_null (pc' := 15) rfl rfl ?_
  refine rn_astore (pc' := 17) rfl rfl rfl (Nat.le_of_ble_eq_true rfl) rfl ?_
  refine rn_aload_n (pc' := 18) rfl rfl rfl ?_
  refine rn_getF (N := 1) (t' := 11) (pc' := 21) rfl rfl rfl rfl rfl (by first | assumption | decide | omega) ?_
  refine rn_astore (pc' := 23) rfl rfl rfl (Nat.le_of_ble_eq_true rfl) rfl ?_
  refine rn_aload (pc' := 25) rfl rfl rfl ?_
  refine rn_alen (N := 1) (K := 24) (pc' := 26) (v := 24) rfl rfl rfl rfl (by first | assumption | decide | omega) rfl rfl ?_
  refine rn_istore (pc' := 28) rfl rfl rfl (Nat.le_of_ble_eq_true rfl) rfl ?_
  refine rn_iconst (pc' := 29) (v := 0) rfl rfl (by decide) ?_
  refine rn_istore (pc' := 31) rfl rfl rfl (Nat.le_of_ble_eq_true rfl) rfl ?_
  exact loop 24 0 none rfl
