theorem wake_29 (M : xM) (p : Int32) : (f_wake M p).1 20 = M.1 20 := by
  unfold f_wake
  split
  · rfl
  · split
    · funext a b; simp [mI, xu]
    · rfl
theorem endB_20 (M : xM) (e : Nat) : (f_endB M e).1 20 = M.1 20 := by
  unfold f_endB
  split
  · rw [wake_29]; rfl
  · rfl
theorem endD_20 (M : xM) (e : Nat) (u : Option Nat) : (f_endD M e u).1 20 = M.1 20 := by
  unfold f_endD
  split
  · show (f_wake M (rpar M e)).1 20 = _
    rw [wake_29]
  · rw [wake_29]
theorem r_end {d e n : Nat} (M : xM) (how : Int32) (he : e < 24) (hG : ∀ k, k < 24 → 0 < rpid M k → ∃ g, g < 1000 ∧ rgrp M k = nI g) (hn : rok M n) (hn4 : n < 4000) (hf : ¬ rpid M e = 1 → ∃ n', rok (f_end M e how) n' ∧ n' ≤ 4000) : Rn (d + 2) 84 (0, xen 84 [vR 20 0, vI (nI e), vI how], [], M) (fun r M' => r = none ∧ M' = f_end M e how) := by
  by_cases hp1 : rpid M e = 1
  · show Rn _ 84 (0, [some (vR 20 0), some (vI (nI e)), some (vI how), none, none, none], [], _) _
    refine rn_aload_n (pc' := 1) rfl rfl rfl ?_
    refine rn_dupA (pc' := 2) rfl rfl ?_
    refine rn_getI (N := 1) (pc' := 5) rfl rfl rfl rfl (by decide) rfl (by first | assumption | decide | omega) ?_
    refine rn_iconst (pc' := 6) (v := 1) rfl rfl (by decide) ?_
    refine rn_iadd (pc' := 7) rfl rfl ?_
    refine rn_putI (N := 1) (pc' := 10) rfl rfl rfl rfl rfl (by first | assumption | decide | omega) ?_
    refine rn_aload_n (pc' := 11) rfl rfl rfl ?_
    refine rn_getF (N := 1) (t' := 25) (pc' := 14) rfl rfl rfl rfl rfl (by first | assumption | decide | omega) ?_
    refine rn_iload_n (pc' := 15) rfl rfl rfl ?_
    refine rn_iald (N := 1) (K := 24) (pc' := 16) rfl rfl ⟨rfl, rfl⟩ rfl (by first | assumption | decide | omega) rfl (by decide) rfl (by first | assumption | decide | omega) ?_
    refine rn_iconst (pc' := 17) (v := 1) rfl rfl (by decide) ?_
    refine rn_ic_ne (t := 25) (pc' := 20) rfl rfl rfl (fun h1 => ?_) (fun h1 => ?_)
    · exact absurd hp1 h1
    · refine rn_aload_n (pc' := 21) rfl rfl rfl ?_
      refine rn_callV (pc' := 24) (as := []) rfl rfl rfl ⟨Nat.le_of_ble_eq_true rfl, rfl, rfl⟩ rfl (by first | assumption | decide | omega) (Nat.le_of_ble_eq_true rfl) (Nat.le_of_ble_eq_true rfl) rfl (r_panic _) (fun r2 M2 hz => ?_)
      obtain ⟨rfl, hm_⟩ := hz
      refine rn_mem hm_ ?_
      clear hm_
      refine rn_return rfl rfl ?_
      exact ⟨rfl, by unfold f_end; rw [if_pos hp1]⟩
  have hf := hf hp1
  have ef : f_end M e how = tlF 999 1 (f_end0 (mI M 20 0 36 (M.1 20 0 36 + 1)) e how) := by unfold f_end; rw [if_neg hp1]
  rw [ef] at hf ⊢
  generalize hM0 : mI M 20 0 36 (M.1 20 0 36 + 1) = N at hf ⊢
  have hN20 : rok N n := by rw [← hM0]; exact hn
  have hGN : ∀ k, k < 24 → 0 < rpid N k → ∃ g, g < 1000 ∧ rgrp N k = nI g := by rw [← hM0]; exact hG
  have hG1 : ∀ W : Nat → Int32, ∀ g, orph (mRow N 49 0 W) g = orph N g := fun W g => orph_congr (fun _ => rfl) (fun _ => rfl) (fun _ => rfl) (fun _ => rfl) g
  -- from the end back
  have s5 : ∀ (x3 : Int32) (i : Nat), Rn (d + 2) 84 (154, [some (vR 20 0), some (vI (nI e)), some (vI how), some (vI x3), some (vI (nI i)), none], [], f_endB (f_endA N) e) (fun r M' => r = none ∧ M' = tlF 999 1 (f_end0 N e how)) := by
    intro x3 i
    unfold f_end0 at hf ⊢
    generalize hB : f_endB (f_endA N) e = B at hf ⊢
    have hB20 : rok B n := by rw [← hB]; unfold rok; rw [endB_20]; exact hN20
    generalize hu : eo B (rpar B e) = u at hf ⊢
    have hul : ∀ k, u = some k → k < 24 := fun k hk => eo_lt (hu.trans hk)
    have hC : f_endC B e how = mI (mI (mJ (mI B 28 0 e 4) 38 0 e 0) 33 0 e 0) 39 0 e how := rfl
    generalize hCC : f_endC B e how = C at hf ⊢
    have hC20 : rok C n := by rw [← hCC]; exact hB20
    have hD20 : rok (f_endD C e u) n := by unfold rok; rw [endD_20]; exact hC20
    have hE : ∃ n1, rok (f_endE (f_endD C e u) e) n1 ∧ n1 ≤ n + 1 := by
      unfold f_endE f_sendTo
      split
      · exact ⟨n, hD20, by omega⟩
      · exact ⟨n + 1, rok_send hD20 _ _, by omega⟩
    obtain ⟨n1, hE1, hE2⟩ := hE
    have s6 : Rn (d + 2) 84 (233, [some (vR 20 0), some (vI (nI e)), some (vI how), some (vI x3), some (vI (oI u)), none], [], f_endD C e u) (fun r M' => r = none ∧ M' = tlF 999 1 (f_endE (f_endD C e u) e)) := by
      refine rn_aload_n (pc' := 234) rfl rfl rfl ?_
      refine rn_aload_n (pc' := 235) rfl rfl rfl ?_
      refine rn_getF (N := 1) (t' := 26) (pc' := 238) rfl rfl rfl rfl rfl (by first | assumption | decide | omega) ?_
      refine rn_iload_n (pc' := 239) rfl rfl rfl ?_
      refine rn_iald (N := 1) (K := 24) (pc' := 240) rfl rfl ⟨rfl, rfl⟩ rfl (by first | assumption | decide | omega) rfl (by decide) rfl (by first | assumption | decide | omega) ?_
      refine rn_bipush (pc' := 242) (v := 17) rfl rfl (by decide) ?_
      refine rn_callV (pc' := 245) (as := [_, _]) rfl rfl rfl ⟨Nat.le_of_ble_eq_true rfl, rfl, rfl⟩ rfl (by first | assumption | decide | omega) (Nat.le_of_ble_eq_true rfl) (Nat.le_of_ble_eq_true rfl) rfl (r_sendTo _ _ 17 hD20 hn4) (fun r1 M1 hz => ?_)
      obtain ⟨rfl, hm_⟩ := hz
      refine rn_mem hm_ ?_
      clear hm_
      refine rn_iconst (pc' := 246) (v := 1) rfl rfl (by decide) ?_
      refine rn_istore (pc' := 248) rfl rfl rfl (Nat.le_of_ble_eq_true rfl) rfl ?_
      exact r_endT e how x3 _ 999 1 n1 _ (by omega) (by omega) hE1 (by omega) hf
    have s7 : Rn (d + 2) 84 (204, [some (vR 20 0), some (vI (nI e)), some (vI how), some (vI x3), some (vI (oI u)), none], [], f_wake C (rpar C e)) (fun r M' => r = none ∧ M' = tlF 999 1 (f_endE (f_endD C e u) e)) := by
      have ho := oI_neg hul
      cases hu2 : u with
      | none =>
        rw [hu2] at s6 ho
        have e1 : f_endD C e none = f_wake C (rpar C e) := by unfold f_endD upD; rfl
        rw [e1] at s6 ⊢
        refine rn_iload (pc' := 206) rfl rfl rfl ?_
        refine rn_if_lt (t := 233) (pc' := 209) rfl rfl rfl (fun h1 => ?_) (fun h1 => ?_)
        · exact s6
        · exact absurd (ho.mpr rfl) h1
      | some k =>
        have hk := hul k hu2
        rw [hu2] at s6
        have eI : oI (some k) = nI k := rfl
        rw [eI] at s6 ⊢
        have e2 : f_endD C e (some k) = if (f_wake C (rpar C e)).1 32 0 (21 * k + 17) = 1 then mI (f_wake C (rpar C e)) 25 0 e 0 else f_wake C (rpar C e) := by
          unfold f_endD upD
          by_cases h9 : (f_wake C (rpar C e)).1 32 0 (21 * k + 17) = 1
          · simp [h9]
          · simp [h9]
        rw [e2] at s6 ⊢
        refine rn_iload (pc' := 206) rfl rfl rfl ?_
        refine rn_if_lt (t := 233) (pc' := 209) rfl rfl rfl (fun h1 => ?_) (fun h1 => ?_)
        · first | exact absurd h1 (nI_pos (by omega)) | (rw [if_pos h2] at s6 ⊢; exact s6) | (rw [if_neg h2] at s6 ⊢; exact s6)
        · refine rn_aload_n (pc' := 210) rfl rfl rfl ?_
          refine rn_getF (N := 1) (t' := 32) (pc' := 213) rfl rfl rfl rfl rfl (by first | assumption | decide | omega) ?_
          refine rn_bipush (pc' := 215) (v := 21) rfl rfl (by decide) ?_
          refine rn_iload (pc' := 217) rfl rfl rfl ?_
          refine rn_imul (pc' := 218) rfl rfl ?_
          refine rn_bipush (pc' := 220) (v := 17) rfl rfl (by decide) ?_
          refine rn_iadd (pc' := 221) rfl rfl ?_
          refine rn_iald (k := 21 * k + 17) (N := 1) (K := 504) (pc' := 222) rfl rfl ⟨rfl, rfl⟩ rfl (by first | assumption | decide | omega) rfl (by decide) (ix21 k 17) (by first | assumption | decide | omega) ?_
          refine rn_iconst (pc' := 223) (v := 1) rfl rfl (by decide) ?_
          refine rn_ic_ne (t := 233) (pc' := 226) rfl rfl rfl (fun h2 => ?_) (fun h2 => ?_)
          · first | exact absurd h1 (nI_pos (by omega)) | (rw [if_pos h2] at s6 ⊢; exact s6) | (rw [if_neg h2] at s6 ⊢; exact s6)
          · refine rn_aload_n (pc' := 227) rfl rfl rfl ?_
            refine rn_getF (N := 1) (t' := 25) (pc' := 230) rfl rfl rfl rfl rfl (by first | assumption | decide | omega) ?_
            refine rn_iload_n (pc' := 231) rfl rfl rfl ?_
            refine rn_iconst (pc' := 232) (v := 0) rfl rfl (by decide) ?_
            refine rn_iast (N := 1) (K := 24) (pc' := 233) rfl rfl ⟨rfl, rfl⟩ rfl (by first | assumption | decide | omega) rfl (by decide) rfl (by first | assumption | decide | omega) ?_
            first | exact absurd h1 (nI_pos (by omega)) | (rw [if_pos h2] at s6 ⊢; exact s6) | (rw [if_neg h2] at s6 ⊢; exact s6)
    refine rn_aload_n (pc' := 155) rfl rfl rfl ?_
    refine rn_aload_n (pc' := 156) rfl rfl rfl ?_
    refine rn_getF (N := 1) (t' := 26) (pc' := 159) rfl rfl rfl rfl rfl (by first | assumption | decide | omega) ?_
    refine rn_iload_n (pc' := 160) rfl rfl rfl ?_
    refine rn_iald (N := 1) (K := 24) (pc' := 161) rfl rfl ⟨rfl, rfl⟩ rfl (by first | assumption | decide | omega) rfl (by decide) rfl (by first | assumption | decide | omega) ?_
    refine rn_callV (pc' := 164) (as := [_]) rfl rfl rfl ⟨Nat.le_of_ble_eq_true rfl, rfl, rfl⟩ rfl (by first | assumption | decide | omega) (Nat.le_of_ble_eq_true rfl) (Nat.le_of_ble_eq_true rfl) rfl (r_entryOf B _) (fun r1 M1 hz => ?_)
    obtain ⟨rfl, hm_⟩ := hz
    refine rn_mem hm_ ?_
    clear hm_
    refine rn_topI (congrArg oI hu) ?_
    refine rn_istore (pc' := 166) rfl rfl rfl (Nat.le_of_ble_eq_true rfl) rfl ?_
    refine rn_aload_n (pc' := 167) rfl rfl rfl ?_
    refine rn_getF (N := 1) (t' := 28) (pc' := 170) rfl rfl rfl rfl rfl (by first | assumption | decide | omega) ?_
    refine rn_iload_n (pc' := 171) rfl rfl rfl ?_
    refine rn_iconst (pc' := 172) (v := 4) rfl rfl (by decide) ?_
    refine rn_iast (N := 1) (K := 24) (pc' := 173) rfl rfl ⟨rfl, rfl⟩ rfl (by first | assumption | decide | omega) rfl (by decide) rfl (by first | assumption | decide | omega) ?_
    refine rn_aload_n (pc' := 174) rfl rfl rfl ?_
    refine rn_getF (N := 1) (t' := 38) (pc' := 177) rfl rfl rfl rfl rfl (by first | assumption | decide | omega) ?_
    refine rn_iload_n (pc' := 178) rfl rfl rfl ?_
    refine rn_lconst (pc' := 179) (v := 0) rfl rfl rfl ?_
    refine rn_last (N := 1) (K := 24) (pc' := 180) rfl rfl ⟨rfl, rfl⟩ rfl (by first | assumption | decide | omega) rfl (by decide) rfl (by first | assumption | decide | omega) ?_
    refine rn_aload_n (pc' := 181) rfl rfl rfl ?_
    refine rn_getF (N := 1) (t' := 33) (pc' := 184) rfl rfl rfl rfl rfl (by first | assumption | decide | omega) ?_
    refine rn_iload_n (pc' := 185) rfl rfl rfl ?_
    refine rn_iconst (pc' := 186) (v := 0) rfl rfl (by decide) ?_
    refine rn_iast (N := 1) (K := 24) (pc' := 187) rfl rfl ⟨rfl, rfl⟩ rfl (by first | assumption | decide | omega) rfl (by decide) rfl (by first | assumption | decide | omega) ?_
    refine rn_aload_n (pc' := 188) rfl rfl rfl ?_
    refine rn_getF (N := 1) (t' := 39) (pc' := 191) rfl rfl rfl rfl rfl (by first | assumption | decide | omega) ?_
    refine rn_iload_n (pc' := 192) rfl rfl rfl ?_
    refine rn_iload_n (pc' := 193) rfl rfl rfl ?_
    refine rn_iast (N := 1) (K := 24) (pc' := 194) rfl rfl ⟨rfl, rfl⟩ rfl (by first | assumption | decide | omega) rfl (by decide) rfl (by first | assumption | decide | omega) ?_
    skip
    rw [← hC, hCC]
    refine rn_aload_n (pc' := 195) rfl rfl rfl ?_
    refine rn_aload_n (pc' := 196) rfl rfl rfl ?_
    refine rn_getF (N := 1) (t' := 26) (pc' := 199) rfl rfl rfl rfl rfl (by first | assumption | decide | omega) ?_
    refine rn_iload_n (pc' := 200) rfl rfl rfl ?_
    refine rn_iald (N := 1) (K := 24) (pc' := 201) rfl rfl ⟨rfl, rfl⟩ rfl (by first | assumption | decide | omega) rfl (by decide) rfl (by first | assumption | decide | omega) ?_
    refine rn_callV (pc' := 204) (as := [_]) rfl rfl rfl ⟨Nat.le_of_ble_eq_true rfl, rfl, rfl⟩ rfl (by first | assumption | decide | omega) (Nat.le_of_ble_eq_true rfl) (Nat.le_of_ble_eq_true rfl) rfl (r_wake C _) (fun r1 M1 hz => ?_)
    obtain ⟨rfl, hm_⟩ := hz
    refine rn_mem hm_ ?_
    clear hm_
    exact s7
  have s4 : ∀ m i : Nat, i + m = 24 → Rn (d + 2) 84 (96, [some (vR 20 0), some (vI (nI e)), some (vI how), some (vI (bI (acF (f_endA N) e i))), some (vI (nI i)), none], [], mRow (f_endA N) 26 0 (rpF (f_endA N) e i)) (fun r M' => r = none ∧ M' = tlF 999 1 (f_end0 N e how)) := by
    generalize hA : f_endA N = A at s5 ⊢
    intro m
    induction m with
    | zero =>
      intro i hi
      obtain rfl : i = 24 := by omega
      have s5 := s5 (bI (acF A e 24)) 24
      unfold f_endB at s5
      by_cases hac : acF A e 24 = true
      · rw [if_pos hac] at s5
        refine rn_iload (pc' := 98) rfl rfl rfl ?_
        refine rn_bipush (pc' := 100) (v := 24) rfl rfl (by decide) ?_
        refine rn_ic_ge (t := 145) (pc' := 103) rfl rfl rfl (fun h1 => ?_) (fun h1 => ?_)
        · refine rn_iload_n (pc' := 146) rfl rfl rfl ?_
          refine rn_if_eq (t := 154) (pc' := 149) rfl rfl rfl (fun h2 => ?_) (fun h2 => ?_)
          · first | exact absurd h2 (by rw [hac]; decide) | exact s5
          · refine rn_aload_n (pc' := 150) rfl rfl rfl ?_
            refine rn_iconst (pc' := 151) (v := 1) rfl rfl (by decide) ?_
            refine rn_callV (pc' := 154) (as := [_]) rfl rfl rfl ⟨Nat.le_of_ble_eq_true rfl, rfl, rfl⟩ rfl (by first | assumption | decide | omega) (Nat.le_of_ble_eq_true rfl) (Nat.le_of_ble_eq_true rfl) rfl (r_wake _ 1) (fun r3 M3 hz => ?_)
            obtain ⟨rfl, hm_⟩ := hz
            refine rn_mem hm_ ?_
            clear hm_
            first | exact absurd h2 (by rw [hac]; decide) | exact s5
        · exact absurd ((lt24 (by omega)).mp h1) (by omega)
      · rw [if_neg hac] at s5
        refine rn_iload (pc' := 98) rfl rfl rfl ?_
        refine rn_bipush (pc' := 100) (v := 24) rfl rfl (by decide) ?_
        refine rn_ic_ge (t := 145) (pc' := 103) rfl rfl rfl (fun h1 => ?_) (fun h1 => ?_)
        · refine rn_iload_n (pc' := 146) rfl rfl rfl ?_
          refine rn_if_eq (t := 154) (pc' := 149) rfl rfl rfl (fun h2 => ?_) (fun h2 => ?_)
          · exact s5
          · exact absurd (by simpa [bI_0] using hac) h2
        · exact absurd ((lt24 (by omega)).mp h1) (by omega)
    | succ m ih =>
      intro i hi
      have hi24 : i < 24 := by omega
      have ih := ih (i + 1) (by omega)
      have no : ¬ (0 < rpid A i ∧ rpar A i = rpid A e) → Rn (d + 2) 84 (139, [some (vR 20 0), some (vI (nI e)), some (vI how), some (vI (bI (acF A e i))), some (vI (nI i)), none], [], mRow A 26 0 (rpF A e i)) (fun r M' => r = none ∧ M' = tlF 999 1 (f_end0 N e how)) := by
        intro hc
        have e1 : acF A e (i + 1) = acF A e i := by
          show (acF A e i || (decide (0 < rpid A i) && decide (rpar A i = rpid A e))) = acF A e i
          have : (decide (0 < rpid A i) && decide (rpar A i = rpid A e)) = false := by simp; exact fun q1 q2 => hc ⟨q1, q2⟩
          rw [this, Bool.or_false]
        have e2 : rpF A e (i + 1) = rpF A e i := by
          funext k
          unfold rpF
          by_cases hk : k = i
          · subst hk
            rw [if_neg (fun q => hc q.2), if_neg (fun q => hc q.2)]
          · by_cases hk2 : k < i ∧ 0 < rpid A k ∧ rpar A k = rpid A e
            · rw [if_pos ⟨by omega, hk2.2⟩, if_pos hk2]
            · rw [if_neg (fun q => hk2 ⟨by omega, q.2⟩), if_neg hk2]
        rw [e1, e2] at ih
        refine rn_iinc (pc' := 142) rfl rfl rfl (nI_inc _) rfl (Nat.le_of_ble_eq_true rfl) rfl ?_
        refine rn_goto (pc' := 96) rfl rfl ?_
        exact ih
      have yes : 0 < rpid A i → rpar A i = rpid A e → Rn (d + 2) 84 (129, [some (vR 20 0), some (vI (nI e)), some (vI how), some (vI (bI (acF A e i))), some (vI (nI i)), none], [], mRow A 26 0 (rpF A e i)) (fun r M' => r = none ∧ M' = tlF 999 1 (f_end0 N e how)) := by
        intro q1 q2
        have e1 : acF A e (i + 1) = true := by
          show (acF A e i || (decide (0 < rpid A i) && decide (rpar A i = rpid A e))) = true
          simp [q1, q2]
        have e2 : upd (rpF A e i) i 1 = rpF A e (i + 1) := by
          funext k
          unfold upd rpF
          by_cases hk : k = i
          · subst hk
            simp only [if_true]
            rw [if_pos ⟨Nat.lt_succ_self _, q1, q2⟩]
          · by_cases hk2 : k < i ∧ 0 < rpid A k ∧ rpar A k = rpid A e
            · rw [if_neg hk, if_pos hk2, if_pos ⟨by omega, hk2.2⟩]
            · rw [if_neg hk, if_neg hk2, if_neg (fun q => hk2 ⟨by omega, q.2⟩)]
        rw [e1] at ih
        refine rn_aload_n (pc' := 130) rfl rfl rfl ?_
        refine rn_getF (N := 1) (t' := 26) (pc' := 133) rfl rfl rfl rfl rfl (by first | assumption | decide | omega) ?_
        refine rn_iload (pc' := 135) rfl rfl rfl ?_
        refine rn_iconst (pc' := 136) (v := 1) rfl rfl (by decide) ?_
        refine rn_iast (N := 1) (K := 24) (pc' := 137) rfl rfl ⟨rfl, rfl⟩ rfl (by first | assumption | decide | omega) rfl (by decide) rfl (by first | assumption | decide | omega) ?_
        rw [mRow_put, e2]
        refine rn_iconst (pc' := 138) (v := 1) rfl rfl (by decide) ?_
        refine rn_istore_n (pc' := 139) rfl rfl rfl (Nat.le_of_ble_eq_true rfl) rfl ?_
        refine rn_iinc (pc' := 142) rfl rfl rfl (nI_inc _) rfl (Nat.le_of_ble_eq_true rfl) rfl ?_
        refine rn_goto (pc' := 96) rfl rfl ?_
        exact ih
      have hrp : (mRow A 26 0 (rpF A e i)).1 26 0 i = rpar A i := by
        show rpF A e i i = rpar A i
        unfold rpF
        rw [if_neg (fun q => absurd q.1 (Nat.lt_irrefl _))]
      refine rn_iload (pc' := 98) rfl rfl rfl ?_
      refine rn_bipush (pc' := 100) (v := 24) rfl rfl (by decide) ?_
      refine rn_ic_ge (t := 145) (pc' := 103) rfl rfl rfl (fun h1 => ?_) (fun h1 => ?_)
      · exact absurd ((lt24 (by omega)).mpr hi24) h1
      · refine rn_aload_n (pc' := 104) rfl rfl rfl ?_
        refine rn_getF (N := 1) (t' := 25) (pc' := 107) rfl rfl rfl rfl rfl (by first | assumption | decide | omega) ?_
        refine rn_iload (pc' := 109) rfl rfl rfl ?_
        refine rn_iald (N := 1) (K := 24) (pc' := 110) rfl rfl ⟨rfl, rfl⟩ rfl (by first | assumption | decide | omega) rfl (by decide) rfl (by first | assumption | decide | omega) ?_
        refine rn_if_le (t := 139) (pc' := 113) rfl rfl rfl (fun h2 => ?_) (fun h2 => ?_)
        · first | exact no (fun q => absurd q.2 h3) | exact no (fun q => absurd q.1 h2)
        · refine rn_aload_n (pc' := 114) rfl rfl rfl ?_
          refine rn_getF (N := 1) (t' := 26) (pc' := 117) rfl rfl rfl rfl rfl (by first | assumption | decide | omega) ?_
          refine rn_iload (pc' := 119) rfl rfl rfl ?_
          refine rn_iald (N := 1) (K := 24) (pc' := 120) rfl rfl ⟨rfl, rfl⟩ rfl (by first | assumption | decide | omega) rfl (by decide) rfl (by first | assumption | decide | omega) ?_
          refine rn_topI hrp ?_
          refine rn_aload_n (pc' := 121) rfl rfl rfl ?_
          refine rn_getF (N := 1) (t' := 25) (pc' := 124) rfl rfl rfl rfl rfl (by first | assumption | decide | omega) ?_
          refine rn_iload_n (pc' := 125) rfl rfl rfl ?_
          refine rn_iald (N := 1) (K := 24) (pc' := 126) rfl rfl ⟨rfl, rfl⟩ rfl (by first | assumption | decide | omega) rfl (by decide) rfl (by first | assumption | decide | omega) ?_
          refine rn_ic_ne (t := 139) (pc' := 129) rfl rfl rfl (fun h3 => ?_) (fun h3 => ?_)
          · first | exact no (fun q => absurd q.2 h3) | exact no (fun q => absurd q.1 h2)
          · exact yes h2 h3
  have s3 : ∀ m i : Nat, i + m = 24 → Rn (d + 2) 84 (49, [some (vR 20 0), some (vI (nI e)), some (vI how), some (vI (nI i)), none, none], [], mRow N 49 0 (woF N i)) (fun r M' => r = none ∧ M' = tlF 999 1 (f_end0 N e how)) := by
    intro m
    induction m with
    | zero =>
      intro i hi
      obtain rfl : i = 24 := by omega
      have := s4 24 0 rfl
      have e1 : rpF (f_endA N) e 0 = (f_endA N).1 26 0 := by
        funext k
        unfold rpF
        rw [if_neg (fun q => absurd q.1 (Nat.not_lt_zero _))]
      rw [e1, mRow_id] at this
      refine rn_iload_n (pc' := 50) rfl rfl rfl ?_
      refine rn_bipush (pc' := 52) (v := 24) rfl rfl (by decide) ?_
      refine rn_ic_ge (t := 91) (pc' := 55) rfl rfl rfl (fun h1 => ?_) (fun h1 => ?_)
      · refine rn_iconst (pc' := 92) (v := 0) rfl rfl (by decide) ?_
        refine rn_istore_n (pc' := 93) rfl rfl rfl (Nat.le_of_ble_eq_true rfl) rfl ?_
        refine rn_iconst (pc' := 94) (v := 0) rfl rfl (by decide) ?_
        refine rn_istore (pc' := 96) rfl rfl rfl (Nat.le_of_ble_eq_true rfl) rfl ?_
        exact this
      · exact absurd ((lt24 (by omega)).mp h1) (by omega)
    | succ m ih =>
      intro i hi
      have hi24 : i < 24 := by omega
      have ih := ih (i + 1) (by omega)
      by_cases hl : 0 < rpid N i
      · obtain ⟨g, hg1, hg2⟩ := hGN i hi24 hl
        have e1 : woF N (i + 1) = upd (woF N i) g (bI (orph N (rgrp N i))) := by
          show (if 0 < rpid N i then _ else _) = _
          rw [if_pos hl, hg2, nI_clamp (by omega)]
        rw [e1] at ih
        have nx : Rn (d + 2) 84 (85, [some (vR 20 0), some (vI (nI e)), some (vI how), some (vI (nI i)), none, none], [], mRow N 49 0 (upd (woF N i) g (bI (orph N (rgrp N i))))) (fun r M' => r = none ∧ M' = tlF 999 1 (f_end0 N e how)) := by
          refine rn_iinc (pc' := 88) rfl rfl rfl (nI_inc _) rfl (Nat.le_of_ble_eq_true rfl) rfl ?_
          refine rn_goto (pc' := 49) rfl rfl ?_
          exact ih
        refine rn_iload_n (pc' := 50) rfl rfl rfl ?_
        refine rn_bipush (pc' := 52) (v := 24) rfl rfl (by decide) ?_
        refine rn_ic_ge (t := 91) (pc' := 55) rfl rfl rfl (fun h1 => ?_) (fun h1 => ?_)
        · exact absurd ((lt24 (by omega)).mpr hi24) h1
        · refine rn_aload_n (pc' := 56) rfl rfl rfl ?_
          refine rn_getF (N := 1) (t' := 25) (pc' := 59) rfl rfl rfl rfl rfl (by first | assumption | decide | omega) ?_
          refine rn_iload_n (pc' := 60) rfl rfl rfl ?_
          refine rn_iald (N := 1) (K := 24) (pc' := 61) rfl rfl ⟨rfl, rfl⟩ rfl (by first | assumption | decide | omega) rfl (by decide) rfl (by first | assumption | decide | omega) ?_
          refine rn_if_le (t := 85) (pc' := 64) rfl rfl rfl (fun h2 => ?_) (fun h2 => ?_)
          · first | exact absurd hl h2 | (rw [mRow_put]; exact nx)
          · refine rn_aload_n (pc' := 65) rfl rfl rfl ?_
            refine rn_getF (N := 1) (t' := 49) (pc' := 68) rfl rfl rfl rfl rfl (by first | assumption | decide | omega) ?_
            refine rn_aload_n (pc' := 69) rfl rfl rfl ?_
            refine rn_getF (N := 1) (t' := 27) (pc' := 72) rfl rfl rfl rfl rfl (by first | assumption | decide | omega) ?_
            refine rn_iload_n (pc' := 73) rfl rfl rfl ?_
            refine rn_iald (N := 1) (K := 24) (pc' := 74) rfl rfl ⟨rfl, rfl⟩ rfl (by first | assumption | decide | omega) rfl (by decide) rfl (by first | assumption | decide | omega) ?_
            refine rn_aload_n (pc' := 75) rfl rfl rfl ?_
            refine rn_aload_n (pc' := 76) rfl rfl rfl ?_
            refine rn_getF (N := 1) (t' := 27) (pc' := 79) rfl rfl rfl rfl rfl (by first | assumption | decide | omega) ?_
            refine rn_iload_n (pc' := 80) rfl rfl rfl ?_
            refine rn_iald (N := 1) (K := 24) (pc' := 81) rfl rfl ⟨rfl, rfl⟩ rfl (by first | assumption | decide | omega) rfl (by decide) rfl (by first | assumption | decide | omega) ?_
            refine rn_callV (pc' := 84) (as := [_]) rfl rfl rfl ⟨Nat.le_of_ble_eq_true rfl, rfl, rfl⟩ rfl (by first | assumption | decide | omega) (Nat.le_of_ble_eq_true rfl) (Nat.le_of_ble_eq_true rfl) rfl (r_isOrphaned _ _) (fun r3 M3 hz => ?_)
            obtain ⟨rfl, hm_⟩ := hz
            refine rn_mem hm_ ?_
            clear hm_
            refine rn_topI (congrArg bI (hG1 (woF N i) _)) ?_
            refine rn_bast (k := g) (N := 1) (K := 1000) (pc' := 85) rfl rfl ⟨rfl, rfl⟩ rfl (by first | assumption | decide | omega) rfl (by decide) (hg2) (by first | assumption | decide | omega) (bI_01 _) ?_
            first | exact absurd hl h2 | (rw [mRow_put]; exact nx)
      · have e1 : woF N (i + 1) = woF N i := by
          show (if 0 < rpid N i then _ else _) = _
          rw [if_neg hl]
        rw [e1] at ih
        refine rn_iload_n (pc' := 50) rfl rfl rfl ?_
        refine rn_bipush (pc' := 52) (v := 24) rfl rfl (by decide) ?_
        refine rn_ic_ge (t := 91) (pc' := 55) rfl rfl rfl (fun h1 => ?_) (fun h1 => ?_)
        · exact absurd ((lt24 (by omega)).mpr hi24) h1
        · refine rn_aload_n (pc' := 56) rfl rfl rfl ?_
          refine rn_getF (N := 1) (t' := 25) (pc' := 59) rfl rfl rfl rfl rfl (by first | assumption | decide | omega) ?_
          refine rn_iload_n (pc' := 60) rfl rfl rfl ?_
          refine rn_iald (N := 1) (K := 24) (pc' := 61) rfl rfl ⟨rfl, rfl⟩ rfl (by first | assumption | decide | omega) rfl (by decide) rfl (by first | assumption | decide | omega) ?_
          refine rn_if_le (t := 85) (pc' := 64) rfl rfl rfl (fun h2 => ?_) (fun h2 => ?_)
          · refine rn_iinc (pc' := 88) rfl rfl rfl (nI_inc _) rfl (Nat.le_of_ble_eq_true rfl) rfl ?_
            refine rn_goto (pc' := 49) rfl rfl ?_
            exact ih
          · exact absurd h2 hl
  have s2 : ∀ m i : Nat, i + m = 1000 → 1 ≤ i → Rn (d + 2) 84 (27, [some (vR 20 0), some (vI (nI e)), some (vI how), some (vI (nI i)), none, none], [], mRow N 49 0 (fun g => if 1 ≤ g ∧ g < i then 1 else N.1 49 0 g)) (fun r M' => r = none ∧ M' = tlF 999 1 (f_end0 N e how)) := by
    intro m
    induction m with
    | zero =>
      intro i hi h1i
      obtain rfl : i = 1000 := by omega
      refine rn_iload_n (pc' := 28) rfl rfl rfl ?_
      refine rn_sipush (pc' := 31) (v := 1000) rfl rfl (by decide) ?_
      refine rn_ic_ge (t := 47) (pc' := 34) rfl rfl rfl (fun h1 => ?_) (fun h1 => ?_)
      · refine rn_iconst (pc' := 48) (v := 0) rfl rfl (by decide) ?_
        refine rn_istore_n (pc' := 49) rfl rfl rfl (Nat.le_of_ble_eq_true rfl) rfl ?_
        exact s3 24 0 rfl
      · exact absurd ((lt1000 (by omega)).mp h1) (by omega)
    | succ m ih =>
      intro i hi h1i
      have hi24 : i < 1000 := by omega
      have ih := ih (i + 1) (by omega) (by omega)
      have e1 : upd (fun g => if 1 ≤ g ∧ g < i then 1 else N.1 49 0 g) i 1 = (fun g => if 1 ≤ g ∧ g < i + 1 then 1 else N.1 49 0 g) := by
        funext k
        unfold upd
        by_cases hk : k = i
        · subst hk
          simp only [if_true]
          rw [if_pos ⟨h1i, Nat.lt_succ_self _⟩]
        · by_cases hk2 : 1 ≤ k ∧ k < i
          · simp only [if_neg hk, if_pos hk2, if_pos (show 1 ≤ k ∧ k < i + 1 by omega)]
          · simp only [if_neg hk, if_neg hk2, if_neg (show ¬ (1 ≤ k ∧ k < i + 1) by omega)]
      refine rn_iload_n (pc' := 28) rfl rfl rfl ?_
      refine rn_sipush (pc' := 31) (v := 1000) rfl rfl (by decide) ?_
      refine rn_ic_ge (t := 47) (pc' := 34) rfl rfl rfl (fun h1 => ?_) (fun h1 => ?_)
      · exact absurd ((lt1000 (by omega)).mpr hi24) h1
      · refine rn_aload_n (pc' := 35) rfl rfl rfl ?_
        refine rn_getF (N := 1) (t' := 49) (pc' := 38) rfl rfl rfl rfl rfl (by first | assumption | decide | omega) ?_
        refine rn_iload_n (pc' := 39) rfl rfl rfl ?_
        refine rn_iconst (pc' := 40) (v := 1) rfl rfl (by decide) ?_
        refine rn_bast (N := 1) (K := 1000) (pc' := 41) rfl rfl ⟨rfl, rfl⟩ rfl (by first | assumption | decide | omega) rfl (by decide) rfl (by first | assumption | decide | omega) (by decide) ?_
        rw [mRow_put, e1]
        refine rn_iinc (pc' := 44) rfl rfl rfl (nI_inc _) rfl (Nat.le_of_ble_eq_true rfl) rfl ?_
        refine rn_goto (pc' := 27) rfl rfl ?_
        exact ih
  have s2 := s2 999 1 rfl (Nat.le_refl _)
  have e0 : mRow N 49 0 (fun g => if 1 ≤ g ∧ g < 1 then 1 else N.1 49 0 g) = N := by
    have e2 : (fun g => if 1 ≤ g ∧ g < 1 then 1 else N.1 49 0 g) = N.1 49 0 := by
      funext k; rw [if_neg (by omega)]
    rw [e2, mRow_id]
  rw [e0, ← hM0] at s2
  rw [← hM0]
  show Rn _ 84 (0, [some (vR 20 0), some (vI (nI e)), some (vI how), none, none, none], [], _) _
  refine rn_aload_n (pc' := 1) rfl rfl rfl ?_
  refine rn_dupA (pc' := 2) rfl rfl ?_
  refine rn_getI (N := 1) (pc' := 5) rfl rfl rfl rfl (by decide) rfl (by first | assumption | decide | omega) ?_
  refine rn_iconst (pc' := 6) (v := 1) rfl rfl (by decide) ?_
  refine rn_iadd (pc' := 7) rfl rfl ?_
  refine rn_putI (N := 1) (pc' := 10) rfl rfl rfl rfl rfl (by first | assumption | decide | omega) ?_
  refine rn_aload_n (pc' := 11) rfl rfl rfl ?_
  refine rn_getF (N := 1) (t' := 25) (pc' := 14) rfl rfl rfl rfl rfl (by first | assumption | decide | omega) ?_
  refine rn_iload_n (pc' := 15) rfl rfl rfl ?_
  refine rn_iald (N := 1) (K := 24) (pc' := 16) rfl rfl ⟨rfl, rfl⟩ rfl (by first | assumption | decide | omega) rfl (by decide) rfl (by first | assumption | decide | omega) ?_
  refine rn_iconst (pc' := 17) (v := 1) rfl rfl (by decide) ?_
  refine rn_ic_ne (t := 25) (pc' := 20) rfl rfl rfl (fun h1 => ?_) (fun h1 => ?_)
  · refine rn_iconst (pc' := 26) (v := 1) rfl rfl (by decide) ?_
    refine rn_istore_n (pc' := 27) rfl rfl rfl (Nat.le_of_ble_eq_true rfl) rfl ?_
    exact s2
  · exact absurd h1 hp1
