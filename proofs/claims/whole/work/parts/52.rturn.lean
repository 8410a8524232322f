def trF (M : xM) (t : Nat) : Nat → Nat → Option Nat
  | 0, _ => none
  | m + 1, k => if 0 < rpid M ((t + k) % 24) ∧ rste M ((t + k) % 24) = 0 then some ((t + k) % 24) else trF M t m (k + 1)
def tr (M : xM) (t : Nat) : Option Nat := trF M t 24 1
theorem trF_lt {M : xM} {t e : Nat} : ∀ {m k : Nat}, trF M t m k = some e → e < 24 := by
  intro m
  induction m with
  | zero => intro k h; cases h
  | succ m ih =>
    intro k h
    unfold trF at h
    split at h
    · cases h; exact Nat.mod_lt _ (by decide)
    · exact ih h
theorem rem24 (t k : Nat) (h : t + k < 2 ^ 31) : (nI t + nI k) - (nI t + nI k) / 24 * 24 = nI ((t + k) % 24) := by
  rw [nI_add]
  exact pk_rem h (d := 24) (by decide) (by decide)
theorem r_ttFind {d t : Nat} (M : xM) (Z : Option xV → xM → Prop) (ht : M.1 20 0 25 = nI t) (ht24 : t < 24) (k : ∀ x2 x3, Rn d 88 (54, [some (vR 20 0), some (vI (oI (tr M t))), x2, x3, none], [], M) Z) : Rn d 88 (0, xen 88 [vR 20 0], [], M) Z := by
  have ex : ∀ (e i : Nat) (x3 : Option xV), e < 24 → 1 ≤ i → i ≤ 25 → tr M t = some e → Rn d 88 (4, [some (vR 20 0), some (vI (nI e)), some (vI (nI i)), x3, none], [], M) Z := by
    intro e i x3 he hi hi2 hq
    have k := k (some (vI (nI i))) x3
    rw [hq] at k
    refine rn_iload_n (pc' := 5) rfl rfl rfl ?_
    refine rn_bipush (pc' := 7) (v := 24) rfl rfl (by decide) ?_
    refine rn_ic_gt (t := 54) (pc' := 10) rfl rfl rfl (fun h1 => ?_) (fun h1 => ?_)
    · exact k
    · refine rn_iload_n (pc' := 11) rfl rfl rfl ?_
      refine rn_if_ge (t := 54) (pc' := 14) rfl rfl rfl (fun h2 => ?_) (fun h2 => ?_)
      · exact k
      · exact absurd h2 (nI_pos (by omega))
  have loop : ∀ (m i : Nat) (x3 : Option xV), i + m = 25 → 1 ≤ i → trF M t m i = tr M t → Rn d 88 (4, [some (vR 20 0), some (vI (-1)), some (vI (nI i)), x3, none], [], M) Z := by
    intro m
    induction m with
    | zero =>
      intro i x3 hi hi1 hq
      obtain rfl : i = 25 := by omega
      have k := k (some (vI (nI 25))) x3
      rw [← hq] at k
      refine rn_iload_n (pc' := 5) rfl rfl rfl ?_
      refine rn_bipush (pc' := 7) (v := 24) rfl rfl (by decide) ?_
      refine rn_ic_gt (t := 54) (pc' := 10) rfl rfl rfl (fun h1 => ?_) (fun h1 => ?_)
      · exact k
      · exact absurd ((nI_ltI (a := 24) (b := 25) (by decide) (by decide)).mpr (by omega)) h1
    | succ m ih =>
      intro i x3 hi hi1 hq
      have hi24 : ¬ (24 : Int32) < nI i := fun q => absurd ((nI_ltI (a := 24) (b := i) (by decide) (by omega)).mp q) (by omega)
      have h9 : (t + i) % 24 < 24 := Nat.mod_lt _ (by decide)
      unfold trF at hq
      have er : (M.1 20 0 25 + nI i) - (M.1 20 0 25 + nI i) / 24 * 24 = nI ((t + i) % 24) := by rw [ht]; exact rem24 t i (by omega)
      have no : ¬ (0 < rpid M ((t + i) % 24) ∧ rste M ((t + i) % 24) = 0) → Rn d 88 (46, [some (vR 20 0), some (vI (-1)), some (vI (nI i)), some (vI (nI ((t + i) % 24))), none], [], M) Z := by
        intro hc
        rw [if_neg hc] at hq
        refine rn_iload_n (pc' := 47) rfl rfl rfl ?_
        refine rn_istore_n (pc' := 48) rfl rfl rfl (Nat.le_of_ble_eq_true rfl) rfl ?_
        refine rn_iinc (pc' := 51) rfl rfl rfl (nI_inc _) rfl (Nat.le_of_ble_eq_true rfl) rfl ?_
        refine rn_goto (pc' := 4) rfl rfl ?_
        exact ih (i + 1) _ (by omega) (by omega) hq
      refine rn_iload_n (pc' := 5) rfl rfl rfl ?_
      refine rn_bipush (pc' := 7) (v := 24) rfl rfl (by decide) ?_
      refine rn_ic_gt (t := 54) (pc' := 10) rfl rfl rfl (fun h1 => ?_) (fun h1 => ?_)
      · first | exact absurd h1 hi24 | exact absurd (show (-1 : Int32) < 0 by decide) h2
      · refine rn_iload_n (pc' := 11) rfl rfl rfl ?_
        refine rn_if_ge (t := 54) (pc' := 14) rfl rfl rfl (fun h2 => ?_) (fun h2 => ?_)
        · first | exact absurd h1 hi24 | exact absurd (show (-1 : Int32) < 0 by decide) h2
        · refine rn_aload_n (pc' := 15) rfl rfl rfl ?_
          refine rn_getI (N := 1) (pc' := 18) rfl rfl rfl rfl (by decide) rfl (by first | assumption | decide | omega) ?_
          refine rn_iload_n (pc' := 19) rfl rfl rfl ?_
          refine rn_iadd (pc' := 20) rfl rfl ?_
          refine rn_bipush (pc' := 22) (v := 24) rfl rfl (by decide) ?_
          refine rn_irem (pc' := 23) rfl rfl (by decide) ?_
          refine rn_topI er ?_
          refine rn_istore_n (pc' := 24) rfl rfl rfl (Nat.le_of_ble_eq_true rfl) rfl ?_
          refine rn_aload_n (pc' := 25) rfl rfl rfl ?_
          refine rn_getF (N := 1) (t' := 25) (pc' := 28) rfl rfl rfl rfl rfl (by first | assumption | decide | omega) ?_
          refine rn_iload_n (pc' := 29) rfl rfl rfl ?_
          refine rn_iald (N := 1) (K := 24) (pc' := 30) rfl rfl ⟨rfl, rfl⟩ rfl (by first | assumption | decide | omega) rfl (by decide) rfl (by first | assumption | decide | omega) ?_
          refine rn_if_le (t := 46) (pc' := 33) rfl rfl rfl (fun h3 => ?_) (fun h3 => ?_)
          · first | exact no (fun q => absurd q.2 h4) | exact no (fun q => absurd q.1 h3)
          · refine rn_aload_n (pc' := 34) rfl rfl rfl ?_
            refine rn_getF (N := 1) (t' := 28) (pc' := 37) rfl rfl rfl rfl rfl (by first | assumption | decide | omega) ?_
            refine rn_iload_n (pc' := 38) rfl rfl rfl ?_
            refine rn_iald (N := 1) (K := 24) (pc' := 39) rfl rfl ⟨rfl, rfl⟩ rfl (by first | assumption | decide | omega) rfl (by decide) rfl (by first | assumption | decide | omega) ?_
            refine rn_if_ne (t := 46) (pc' := 42) rfl rfl rfl (fun h4 => ?_) (fun h4 => ?_)
            · first | exact no (fun q => absurd q.2 h4) | exact no (fun q => absurd q.1 h3)
            · refine rn_iload_n (pc' := 43) rfl rfl rfl ?_
              refine rn_goto (pc' := 47) rfl rfl ?_
              refine rn_istore_n (pc' := 48) rfl rfl rfl (Nat.le_of_ble_eq_true rfl) rfl ?_
              refine rn_iinc (pc' := 51) rfl rfl rfl (nI_inc _) rfl (Nat.le_of_ble_eq_true rfl) rfl ?_
              refine rn_goto (pc' := 4) rfl rfl ?_
              (rw [if_pos ⟨h3, h4⟩] at hq; exact ex _ (i + 1) _ h9 (by omega) (by omega) hq.symm)
  show Rn _ 88 (0, [some (vR 20 0), none, none, none, none], [], _) _
  refine rn_iconst (pc' := 1) (v := (-1)) rfl rfl (by decide) ?_
  refine rn_istore_n (pc' := 2) rfl rfl rfl (Nat.le_of_ble_eq_true rfl) rfl ?_
  refine rn_iconst (pc' := 3) (v := 1) rfl rfl (by decide) ?_
  refine rn_istore_n (pc' := 4) rfl rfl rfl (Nat.le_of_ble_eq_true rfl) rfl ?_
  exact loop 24 1 none rfl (Nat.le_refl _) rfl
theorem r_ttN {d t : Nat} (M : xM) (ht : M.1 20 0 25 = nI t) (ht24 : t < 24) (h : tr M t = none) : Rn d 88 (0, xen 88 [vR 20 0], [], M) (fun r M' => r = some (vI 0) ∧ M' = M) := by
  refine r_ttFind M _ ht ht24 (fun x2 x3 => ?_)
  rw [h]
  refine rn_iload_n (pc' := 55) rfl rfl rfl ?_
  refine rn_if_ge (t := 60) (pc' := 58) rfl rfl rfl (fun h1 => ?_) (fun h1 => ?_)
  · exact absurd (by decide) h1
  · refine rn_iconst (pc' := 59) (v := 0) rfl rfl (by decide) ?_
    refine rn_zreturn rfl rfl (by decide) ?_
    exact ⟨rfl, rfl⟩
abbrev rdyV (M : xM) (e : Nat) : Int32 := rpnd M e &&& (rblk M e ^^^ (-1))
theorem r_ttH {d t e : Nat} (M F : xM) (ht : M.1 20 0 25 = nI t) (ht24 : t < 24) (h : tr M t = some e) (hr : ¬ rdyV M e = 0) (hc : Rn d 89 (0, xen 89 [vR 20 0, vI (nI e), vI (rdyV M e)], [], mI M 20 0 25 (nI e)) (fun r M' => r = none ∧ M' = F)) : Rn (d + 1) 88 (0, xen 88 [vR 20 0], [], M) (fun r M' => r = some (vI 1) ∧ M' = F) := by
  have he := trF_lt h
  refine r_ttFind M _ ht ht24 (fun x2 x3 => ?_)
  rw [oI_some h]
  refine rn_iload_n (pc' := 55) rfl rfl rfl ?_
  refine rn_if_ge (t := 60) (pc' := 58) rfl rfl rfl (fun h1 => ?_) (fun h1 => ?_)
  · refine rn_aload_n (pc' := 61) rfl rfl rfl ?_
    refine rn_iload_n (pc' := 62) rfl rfl rfl ?_
    refine rn_putI (N := 1) (pc' := 65) rfl rfl rfl rfl rfl (by first | assumption | decide | omega) ?_
    refine rn_aload_n (pc' := 66) rfl rfl rfl ?_
    refine rn_getF (N := 1) (t' := 33) (pc' := 69) rfl rfl rfl rfl rfl (by first | assumption | decide | omega) ?_
    refine rn_iload_n (pc' := 70) rfl rfl rfl ?_
    refine rn_iald (N := 1) (K := 24) (pc' := 71) rfl rfl ⟨rfl, rfl⟩ rfl (by first | assumption | decide | omega) rfl (by decide) rfl (by first | assumption | decide | omega) ?_
    refine rn_aload_n (pc' := 72) rfl rfl rfl ?_
    refine rn_getF (N := 1) (t' := 34) (pc' := 75) rfl rfl rfl rfl rfl (by first | assumption | decide | omega) ?_
    refine rn_iload_n (pc' := 76) rfl rfl rfl ?_
    refine rn_iald (N := 1) (K := 24) (pc' := 77) rfl rfl ⟨rfl, rfl⟩ rfl (by first | assumption | decide | omega) rfl (by decide) rfl (by first | assumption | decide | omega) ?_
    refine rn_iconst (pc' := 78) (v := (-1)) rfl rfl (by decide) ?_
    refine rn_ixor (pc' := 79) rfl rfl ?_
    refine rn_iand (pc' := 80) rfl rfl ?_
    refine rn_istore_n (pc' := 81) rfl rfl rfl (Nat.le_of_ble_eq_true rfl) rfl ?_
    refine rn_iload_n (pc' := 82) rfl rfl rfl ?_
    refine rn_if_eq (t := 93) (pc' := 85) rfl rfl rfl (fun h2 => ?_) (fun h2 => ?_)
    · exact absurd h2 hr
    · refine rn_aload_n (pc' := 86) rfl rfl rfl ?_
      refine rn_iload_n (pc' := 87) rfl rfl rfl ?_
      refine rn_iload_n (pc' := 88) rfl rfl rfl ?_
      refine rn_callV (pc' := 91) (as := [_, _]) rfl rfl rfl ⟨Nat.le_of_ble_eq_true rfl, rfl, rfl⟩ rfl (by first | assumption | decide | omega) (Nat.le_of_ble_eq_true rfl) (Nat.le_of_ble_eq_true rfl) rfl hc (fun r3 M3 hz => ?_)
      obtain ⟨rfl, hm_⟩ := hz
      refine rn_mem hm_ ?_
      clear hm_
      refine rn_iconst (pc' := 92) (v := 1) rfl rfl (by decide) ?_
      refine rn_zreturn rfl rfl (by decide) ?_
      exact ⟨rfl, rfl⟩
  · exact absurd h1 (nI_pos (by omega))
def hpc (M : xM) (e s : Nat) : Prop := ¬ (rpnd M e &&& (rblk M e ^^^ (-1))) &&& ((1 : Int32) <<< (nI s &&& 31)) = 0 ∧ rdoe M e s < 2
def clr (M : xM) (e s : Nat) : xM := mI M 33 0 e (rpnd M e &&& (((1 : Int32) <<< (nI s &&& 31)) ^^^ (-1)))
noncomputable def hpF (p : Int32) (e : Nat) : Nat → Nat → xM → xM
  | 0, _, M => M
  | m + 1, s, M => @ite _ (rpid M e = p ∧ ¬ rste M e = 4) (Classical.propDecidable _) (hpF p e m (s + 1) (@ite _ (hpc M e s) (Classical.propDecidable _) (f_happen (clr M e s) e s) M)) M
def hpOk (M : xM) (e s n : Nat) : Prop := gOk M ∧ rok M n ∧ n < 4000 ∧ ∃ n', rok (f_happen (clr M e s) e s) n' ∧ n' ≤ 4000
theorem r_ttLoop {d e : Nat} (p : Int32) (he : e < 24) (P : xM → Nat → Prop) (hP : ∀ M s, P M s → 1 ≤ s → s < 21 → rpid M e = p → ¬ rste M e = 4 → (hpc M e s → (∃ n, hpOk M e s n) ∧ P (f_happen (clr M e s) e s) (s + 1)) ∧ (¬ hpc M e s → P M (s + 1))) : ∀ (m s : Nat) (M : xM) (x2 : Option xV), s + m = 21 → 1 ≤ s → P M s → Rn (d + 4) 88 (145, [some (vR 20 0), some (vI (nI e)), x2, some (vI p), some (vI (nI s))], [], M) (fun r M' => r = some (vI 1) ∧ M' = hpF p e m s M) := by
  intro m
  induction m with
  | zero =>
    intro s M x2 hs hs1 hp
    obtain rfl : s = 21 := by omega
    refine rn_iload (pc' := 147) rfl rfl rfl ?_
    refine rn_bipush (pc' := 149) (v := 21) rfl rfl (by decide) ?_
    refine rn_ic_ge (t := 239) (pc' := 152) rfl rfl rfl (fun h1 => ?_) (fun h1 => ?_)
    · refine rn_iconst (pc' := 240) (v := 1) rfl rfl (by decide) ?_
      refine rn_zreturn rfl rfl (by decide) ?_
      exact ⟨rfl, rfl⟩
    · exact absurd ((lt21 (by omega)).mp h1) (by omega)
  | succ m ih =>
    intro s M x2 hs hs1 hp
    have hs21 : s < 21 := by omega
    unfold hpF
    by_cases hc : rpid M e = p ∧ ¬ rste M e = 4
    · rw [if_pos hc]
      obtain ⟨q1, q2⟩ := hP M s hp hs1 hs21 hc.1 hc.2
      by_cases hh : hpc M e s
      · rw [if_pos hh]
        obtain ⟨⟨n, g1, g2, g3, g4⟩, q3⟩ := q1 hh
        have ih := ih (s + 1) _ x2 (by omega) (by omega) q3
        have hcl := r_happen (d := d) (M := clr M e s) he hs21 (fun k hk hp => g1 k hk hp) (n := n) g2 g3 g4
        have n9 : ¬ (2 : Int32) ≤ rdoe M e s := fun q => absurd hh.2 (Int32.not_lt.mpr q)
        refine rn_iload (pc' := 147) rfl rfl rfl ?_
        refine rn_bipush (pc' := 149) (v := 21) rfl rfl (by decide) ?_
        refine rn_ic_ge (t := 239) (pc' := 152) rfl rfl rfl (fun h1 => ?_) (fun h1 => ?_)
        · first | exact absurd ((lt21 (by omega)).mpr hs21) h1 | exact absurd hc.1 h2 | exact absurd h3 hc.2
        · refine rn_aload_n (pc' := 153) rfl rfl rfl ?_
          refine rn_getF (N := 1) (t' := 25) (pc' := 156) rfl rfl rfl rfl rfl (by first | assumption | decide | omega) ?_
          refine rn_iload_n (pc' := 157) rfl rfl rfl ?_
          refine rn_iald (N := 1) (K := 24) (pc' := 158) rfl rfl ⟨rfl, rfl⟩ rfl (by first | assumption | decide | omega) rfl (by decide) rfl (by first | assumption | decide | omega) ?_
          refine rn_iload_n (pc' := 159) rfl rfl rfl ?_
          refine rn_ic_ne (t := 239) (pc' := 162) rfl rfl rfl (fun h2 => ?_) (fun h2 => ?_)
          · first | exact absurd ((lt21 (by omega)).mpr hs21) h1 | exact absurd hc.1 h2 | exact absurd h3 hc.2
          · refine rn_aload_n (pc' := 163) rfl rfl rfl ?_
            refine rn_getF (N := 1) (t' := 28) (pc' := 166) rfl rfl rfl rfl rfl (by first | assumption | decide | omega) ?_
            refine rn_iload_n (pc' := 167) rfl rfl rfl ?_
            refine rn_iald (N := 1) (K := 24) (pc' := 168) rfl rfl ⟨rfl, rfl⟩ rfl (by first | assumption | decide | omega) rfl (by decide) rfl (by first | assumption | decide | omega) ?_
            refine rn_iconst (pc' := 169) (v := 4) rfl rfl (by decide) ?_
            refine rn_ic_eq (t := 239) (pc' := 172) rfl rfl rfl (fun h3 => ?_) (fun h3 => ?_)
            · first | exact absurd ((lt21 (by omega)).mpr hs21) h1 | exact absurd hc.1 h2 | exact absurd h3 hc.2
            · refine rn_aload_n (pc' := 173) rfl rfl rfl ?_
              refine rn_getF (N := 1) (t' := 33) (pc' := 176) rfl rfl rfl rfl rfl (by first | assumption | decide | omega) ?_
              refine rn_iload_n (pc' := 177) rfl rfl rfl ?_
              refine rn_iald (N := 1) (K := 24) (pc' := 178) rfl rfl ⟨rfl, rfl⟩ rfl (by first | assumption | decide | omega) rfl (by decide) rfl (by first | assumption | decide | omega) ?_
              refine rn_aload_n (pc' := 179) rfl rfl rfl ?_
              refine rn_getF (N := 1) (t' := 34) (pc' := 182) rfl rfl rfl rfl rfl (by first | assumption | decide | omega) ?_
              refine rn_iload_n (pc' := 183) rfl rfl rfl ?_
              refine rn_iald (N := 1) (K := 24) (pc' := 184) rfl rfl ⟨rfl, rfl⟩ rfl (by first | assumption | decide | omega) rfl (by decide) rfl (by first | assumption | decide | omega) ?_
              refine rn_iconst (pc' := 185) (v := (-1)) rfl rfl (by decide) ?_
              refine rn_ixor (pc' := 186) rfl rfl ?_
              refine rn_iand (pc' := 187) rfl rfl ?_
              refine rn_iconst (pc' := 188) (v := 1) rfl rfl (by decide) ?_
              refine rn_iload (pc' := 190) rfl rfl rfl ?_
              refine rn_ishl (pc' := 191) rfl rfl ?_
              refine rn_iand (pc' := 192) rfl rfl ?_
              refine rn_if_eq (t := 233) (pc' := 195) rfl rfl rfl (fun h4 => ?_) (fun h4 => ?_)
              · first | exact absurd h4 hh.1 | exact absurd hh.2 h5 | (refine rn_iinc (pc' := 236) rfl rfl rfl (nI_inc _) rfl (Nat.le_of_ble_eq_true rfl) rfl ?_; refine rn_goto (pc' := 145) rfl rfl ?_; exact ih)
              · refine rn_aload_n (pc' := 196) rfl rfl rfl ?_
                refine rn_getF (N := 1) (t' := 32) (pc' := 199) rfl rfl rfl rfl rfl (by first | assumption | decide | omega) ?_
                refine rn_bipush (pc' := 201) (v := 21) rfl rfl (by decide) ?_
                refine rn_iload_n (pc' := 202) rfl rfl rfl ?_
                refine rn_imul (pc' := 203) rfl rfl ?_
                refine rn_iload (pc' := 205) rfl rfl rfl ?_
                refine rn_iadd (pc' := 206) rfl rfl ?_
                refine rn_iald (k := 21 * e + s) (N := 1) (K := 504) (pc' := 207) rfl rfl ⟨rfl, rfl⟩ rfl (by first | assumption | decide | omega) rfl (by decide) (ix21 e s) (by first | assumption | decide | omega) ?_
                refine rn_iconst (pc' := 208) (v := 2) rfl rfl (by decide) ?_
                refine rn_ic_ge (t := 233) (pc' := 211) rfl rfl rfl (fun h5 => ?_) (fun h5 => ?_)
                · first | exact absurd h4 hh.1 | exact absurd hh.2 h5 | (refine rn_iinc (pc' := 236) rfl rfl rfl (nI_inc _) rfl (Nat.le_of_ble_eq_true rfl) rfl ?_; refine rn_goto (pc' := 145) rfl rfl ?_; exact ih)
                · refine rn_aload_n (pc' := 212) rfl rfl rfl ?_
                  refine rn_getF (N := 1) (t' := 33) (pc' := 215) rfl rfl rfl rfl rfl (by first | assumption | decide | omega) ?_
                  refine rn_iload_n (pc' := 216) rfl rfl rfl ?_
                  refine rn_dup2 (pc' := 217) rfl rfl ?_
                  refine rn_iald (N := 1) (K := 24) (pc' := 218) rfl rfl ⟨rfl, rfl⟩ rfl (by first | assumption | decide | omega) rfl (by decide) rfl (by first | assumption | decide | omega) ?_
                  refine rn_iconst (pc' := 219) (v := 1) rfl rfl (by decide) ?_
                  refine rn_iload (pc' := 221) rfl rfl rfl ?_
                  refine rn_ishl (pc' := 222) rfl rfl ?_
                  refine rn_iconst (pc' := 223) (v := (-1)) rfl rfl (by decide) ?_
                  refine rn_ixor (pc' := 224) rfl rfl ?_
                  refine rn_iand (pc' := 225) rfl rfl ?_
                  refine rn_iast (N := 1) (K := 24) (pc' := 226) rfl rfl ⟨rfl, rfl⟩ rfl (by first | assumption | decide | omega) rfl (by decide) rfl (by first | assumption | decide | omega) ?_
                  refine rn_aload_n (pc' := 227) rfl rfl rfl ?_
                  refine rn_iload_n (pc' := 228) rfl rfl rfl ?_
                  refine rn_iload (pc' := 230) rfl rfl rfl ?_
                  refine rn_callV (pc' := 233) (as := [_, _]) rfl rfl rfl ⟨Nat.le_of_ble_eq_true rfl, rfl, rfl⟩ rfl (by first | assumption | decide | omega) (Nat.le_of_ble_eq_true rfl) (Nat.le_of_ble_eq_true rfl) rfl hcl (fun r6 M6 hz => ?_)
                  obtain ⟨rfl, hm_⟩ := hz
                  refine rn_mem hm_ ?_
                  clear hm_
                  first | exact absurd h4 hh.1 | exact absurd hh.2 h5 | (refine rn_iinc (pc' := 236) rfl rfl rfl (nI_inc _) rfl (Nat.le_of_ble_eq_true rfl) rfl ?_; refine rn_goto (pc' := 145) rfl rfl ?_; exact ih)
      · rw [if_neg hh]
        have ih := ih (s + 1) _ x2 (by omega) (by omega) (q2 hh)
        refine rn_iload (pc' := 147) rfl rfl rfl ?_
        refine rn_bipush (pc' := 149) (v := 21) rfl rfl (by decide) ?_
        refine rn_ic_ge (t := 239) (pc' := 152) rfl rfl rfl (fun h1 => ?_) (fun h1 => ?_)
        · first | exact absurd ((lt21 (by omega)).mpr hs21) h1 | exact absurd hc.1 h2 | exact absurd h3 hc.2
        · refine rn_aload_n (pc' := 153) rfl rfl rfl ?_
          refine rn_getF (N := 1) (t' := 25) (pc' := 156) rfl rfl rfl rfl rfl (by first | assumption | decide | omega) ?_
          refine rn_iload_n (pc' := 157) rfl rfl rfl ?_
          refine rn_iald (N := 1) (K := 24) (pc' := 158) rfl rfl ⟨rfl, rfl⟩ rfl (by first | assumption | decide | omega) rfl (by decide) rfl (by first | assumption | decide | omega) ?_
          refine rn_iload_n (pc' := 159) rfl rfl rfl ?_
          refine rn_ic_ne (t := 239) (pc' := 162) rfl rfl rfl (fun h2 => ?_) (fun h2 => ?_)
          · first | exact absurd ((lt21 (by omega)).mpr hs21) h1 | exact absurd hc.1 h2 | exact absurd h3 hc.2
          · refine rn_aload_n (pc' := 163) rfl rfl rfl ?_
            refine rn_getF (N := 1) (t' := 28) (pc' := 166) rfl rfl rfl rfl rfl (by first | assumption | decide | omega) ?_
            refine rn_iload_n (pc' := 167) rfl rfl rfl ?_
            refine rn_iald (N := 1) (K := 24) (pc' := 168) rfl rfl ⟨rfl, rfl⟩ rfl (by first | assumption | decide | omega) rfl (by decide) rfl (by first | assumption | decide | omega) ?_
            refine rn_iconst (pc' := 169) (v := 4) rfl rfl (by decide) ?_
            refine rn_ic_eq (t := 239) (pc' := 172) rfl rfl rfl (fun h3 => ?_) (fun h3 => ?_)
            · first | exact absurd ((lt21 (by omega)).mpr hs21) h1 | exact absurd hc.1 h2 | exact absurd h3 hc.2
            · refine rn_aload_n (pc' := 173) rfl rfl rfl ?_
              refine rn_getF (N := 1) (t' := 33) (pc' := 176) rfl rfl rfl rfl rfl (by first | assumption | decide | omega) ?_
              refine rn_iload_n (pc' := 177) rfl rfl rfl ?_
              refine rn_iald (N := 1) (K := 24) (pc' := 178) rfl rfl ⟨rfl, rfl⟩ rfl (by first | assumption | decide | omega) rfl (by decide) rfl (by first | assumption | decide | omega) ?_
              refine rn_aload_n (pc' := 179) rfl rfl rfl ?_
              refine rn_getF (N := 1) (t' := 34) (pc' := 182) rfl rfl rfl rfl rfl (by first | assumption | decide | omega) ?_
              refine rn_iload_n (pc' := 183) rfl rfl rfl ?_
              refine rn_iald (N := 1) (K := 24) (pc' := 184) rfl rfl ⟨rfl, rfl⟩ rfl (by first | assumption | decide | omega) rfl (by decide) rfl (by first | assumption | decide | omega) ?_
              refine rn_iconst (pc' := 185) (v := (-1)) rfl rfl (by decide) ?_
              refine rn_ixor (pc' := 186) rfl rfl ?_
              refine rn_iand (pc' := 187) rfl rfl ?_
              refine rn_iconst (pc' := 188) (v := 1) rfl rfl (by decide) ?_
              refine rn_iload (pc' := 190) rfl rfl rfl ?_
              refine rn_ishl (pc' := 191) rfl rfl ?_
              refine rn_iand (pc' := 192) rfl rfl ?_
              refine rn_if_eq (t := 233) (pc' := 195) rfl rfl rfl (fun h4 => ?_) (fun h4 => ?_)
              · refine rn_iinc (pc' := 236) rfl rfl rfl (nI_inc _) rfl (Nat.le_of_ble_eq_true rfl) rfl ?_
                refine rn_goto (pc' := 145) rfl rfl ?_
                exact ih
              · refine rn_aload_n (pc' := 196) rfl rfl rfl ?_
                refine rn_getF (N := 1) (t' := 32) (pc' := 199) rfl rfl rfl rfl rfl (by first | assumption | decide | omega) ?_
                refine rn_bipush (pc' := 201) (v := 21) rfl rfl (by decide) ?_
                refine rn_iload_n (pc' := 202) rfl rfl rfl ?_
                refine rn_imul (pc' := 203) rfl rfl ?_
                refine rn_iload (pc' := 205) rfl rfl rfl ?_
                refine rn_iadd (pc' := 206) rfl rfl ?_
                refine rn_iald (k := 21 * e + s) (N := 1) (K := 504) (pc' := 207) rfl rfl ⟨rfl, rfl⟩ rfl (by first | assumption | decide | omega) rfl (by decide) (ix21 e s) (by first | assumption | decide | omega) ?_
                refine rn_iconst (pc' := 208) (v := 2) rfl rfl (by decide) ?_
                refine rn_ic_ge (t := 233) (pc' := 211) rfl rfl rfl (fun h5 => ?_) (fun h5 => ?_)
                · refine rn_iinc (pc' := 236) rfl rfl rfl (nI_inc _) rfl (Nat.le_of_ble_eq_true rfl) rfl ?_
                  refine rn_goto (pc' := 145) rfl rfl ?_
                  exact ih
                · exact absurd ⟨h4, h5⟩ hh
    · rw [if_neg hc]
      refine rn_iload (pc' := 147) rfl rfl rfl ?_
      refine rn_bipush (pc' := 149) (v := 21) rfl rfl (by decide) ?_
      refine rn_ic_ge (t := 239) (pc' := 152) rfl rfl rfl (fun h1 => ?_) (fun h1 => ?_)
      · refine rn_iconst (pc' := 240) (v := 1) rfl rfl (by decide) ?_
        refine rn_zreturn rfl rfl (by decide) ?_
        exact ⟨rfl, rfl⟩
      · refine rn_aload_n (pc' := 153) rfl rfl rfl ?_
        refine rn_getF (N := 1) (t' := 25) (pc' := 156) rfl rfl rfl rfl rfl (by first | assumption | decide | omega) ?_
        refine rn_iload_n (pc' := 157) rfl rfl rfl ?_
        refine rn_iald (N := 1) (K := 24) (pc' := 158) rfl rfl ⟨rfl, rfl⟩ rfl (by first | assumption | decide | omega) rfl (by decide) rfl (by first | assumption | decide | omega) ?_
        refine rn_iload_n (pc' := 159) rfl rfl rfl ?_
        refine rn_ic_ne (t := 239) (pc' := 162) rfl rfl rfl (fun h2 => ?_) (fun h2 => ?_)
        · refine rn_iconst (pc' := 240) (v := 1) rfl rfl (by decide) ?_
          refine rn_zreturn rfl rfl (by decide) ?_
          exact ⟨rfl, rfl⟩
        · refine rn_aload_n (pc' := 163) rfl rfl rfl ?_
          refine rn_getF (N := 1) (t' := 28) (pc' := 166) rfl rfl rfl rfl rfl (by first | assumption | decide | omega) ?_
          refine rn_iload_n (pc' := 167) rfl rfl rfl ?_
          refine rn_iald (N := 1) (K := 24) (pc' := 168) rfl rfl ⟨rfl, rfl⟩ rfl (by first | assumption | decide | omega) rfl (by decide) rfl (by first | assumption | decide | omega) ?_
          refine rn_iconst (pc' := 169) (v := 4) rfl rfl (by decide) ?_
          refine rn_ic_eq (t := 239) (pc' := 172) rfl rfl rfl (fun h3 => ?_) (fun h3 => ?_)
          · refine rn_iconst (pc' := 240) (v := 1) rfl rfl (by decide) ?_
            refine rn_zreturn rfl rfl (by decide) ?_
            exact ⟨rfl, rfl⟩
          · exact absurd ⟨h2, h3⟩ hc
theorem r_ttA {d t e pp : Nat} (M F : xM) (ht : M.1 20 0 25 = nI t) (ht24 : t < 24) (h : tr M t = some e) (hr : rdyV M e = 0) (hpp : rprg M e = nI pp) (hpp2 : pp < 16) (hin : 0 ≤ (rnxt M e).toInt64 ∧ (rnxt M e).toInt64 ≤ (M.1 21 0 pp - 1).toInt64) (hc : Rn (d + 3) 91 (0, xen 91 [vR 20 0, vI (nI e)], [], mI M 20 0 25 (nI e)) (fun r M' => r = none ∧ M' = F)) (P : xM → Nat → Prop) (hP : ∀ M' s, P M' s → 1 ≤ s → s < 21 → rpid M' e = rpid M e → ¬ rste M' e = 4 → (hpc M' e s → (∃ n, hpOk M' e s n) ∧ P (f_happen (clr M' e s) e s) (s + 1)) ∧ (¬ hpc M' e s → P M' (s + 1))) (hF : P F 1) : Rn (d + 4) 88 (0, xen 88 [vR 20 0], [], M) (fun r M' => r = some (vI 1) ∧ M' = hpF (rpid M e) e 20 1 F) := by
  have he := trF_lt h
  refine r_ttFind M _ ht ht24 (fun x2 x3 => ?_)
  rw [oI_some h]
  refine rn_iload_n (pc' := 55) rfl rfl rfl ?_
  refine rn_if_ge (t := 60) (pc' := 58) rfl rfl rfl (fun h1 => ?_) (fun h1 => ?_)
  · refine rn_aload_n (pc' := 61) rfl rfl rfl ?_
    refine rn_iload_n (pc' := 62) rfl rfl rfl ?_
    refine rn_putI (N := 1) (pc' := 65) rfl rfl rfl rfl rfl (by first | assumption | decide | omega) ?_
    refine rn_aload_n (pc' := 66) rfl rfl rfl ?_
    refine rn_getF (N := 1) (t' := 33) (pc' := 69) rfl rfl rfl rfl rfl (by first | assumption | decide | omega) ?_
    refine rn_iload_n (pc' := 70) rfl rfl rfl ?_
    refine rn_iald (N := 1) (K := 24) (pc' := 71) rfl rfl ⟨rfl, rfl⟩ rfl (by first | assumption | decide | omega) rfl (by decide) rfl (by first | assumption | decide | omega) ?_
    refine rn_aload_n (pc' := 72) rfl rfl rfl ?_
    refine rn_getF (N := 1) (t' := 34) (pc' := 75) rfl rfl rfl rfl rfl (by first | assumption | decide | omega) ?_
    refine rn_iload_n (pc' := 76) rfl rfl rfl ?_
    refine rn_iald (N := 1) (K := 24) (pc' := 77) rfl rfl ⟨rfl, rfl⟩ rfl (by first | assumption | decide | omega) rfl (by decide) rfl (by first | assumption | decide | omega) ?_
    refine rn_iconst (pc' := 78) (v := (-1)) rfl rfl (by decide) ?_
    refine rn_ixor (pc' := 79) rfl rfl ?_
    refine rn_iand (pc' := 80) rfl rfl ?_
    refine rn_istore_n (pc' := 81) rfl rfl rfl (Nat.le_of_ble_eq_true rfl) rfl ?_
    refine rn_iload_n (pc' := 82) rfl rfl rfl ?_
    refine rn_if_eq (t := 93) (pc' := 85) rfl rfl rfl (fun h2 => ?_) (fun h2 => ?_)
    · refine rn_aload_n (pc' := 94) rfl rfl rfl ?_
      refine rn_getF (N := 1) (t' := 25) (pc' := 97) rfl rfl rfl rfl rfl (by first | assumption | decide | omega) ?_
      refine rn_iload_n (pc' := 98) rfl rfl rfl ?_
      refine rn_iald (N := 1) (K := 24) (pc' := 99) rfl rfl ⟨rfl, rfl⟩ rfl (by first | assumption | decide | omega) rfl (by decide) rfl (by first | assumption | decide | omega) ?_
      refine rn_istore_n (pc' := 100) rfl rfl rfl (Nat.le_of_ble_eq_true rfl) rfl ?_
      refine rn_aload_n (pc' := 101) rfl rfl rfl ?_
      refine rn_getF (N := 1) (t' := 30) (pc' := 104) rfl rfl rfl rfl rfl (by first | assumption | decide | omega) ?_
      refine rn_iload_n (pc' := 105) rfl rfl rfl ?_
      refine rn_iald (N := 1) (K := 24) (pc' := 106) rfl rfl ⟨rfl, rfl⟩ rfl (by first | assumption | decide | omega) rfl (by decide) rfl (by first | assumption | decide | omega) ?_
      refine rn_i2l (pc' := 107) rfl rfl ?_
      refine rn_lconst (pc' := 108) (v := 0) rfl rfl rfl ?_
      refine rn_aload_n (pc' := 109) rfl rfl rfl ?_
      refine rn_getF (N := 1) (t' := 21) (pc' := 112) rfl rfl rfl rfl rfl (by first | assumption | decide | omega) ?_
      refine rn_aload_n (pc' := 113) rfl rfl rfl ?_
      refine rn_getF (N := 1) (t' := 29) (pc' := 116) rfl rfl rfl rfl rfl (by first | assumption | decide | omega) ?_
      refine rn_iload_n (pc' := 117) rfl rfl rfl ?_
      refine rn_iald (N := 1) (K := 24) (pc' := 118) rfl rfl ⟨rfl, rfl⟩ rfl (by first | assumption | decide | omega) rfl (by decide) rfl (by first | assumption | decide | omega) ?_
      refine rn_iald (k := pp) (N := 1) (K := 16) (pc' := 119) rfl rfl ⟨rfl, rfl⟩ rfl (by first | assumption | decide | omega) rfl (by decide) (hpp) (by first | assumption | decide | omega) ?_
      refine rn_iconst (pc' := 120) (v := 1) rfl rfl (by decide) ?_
      refine rn_isub (pc' := 121) rfl rfl ?_
      refine rn_i2l (pc' := 122) rfl rfl ?_
      refine rn_callS (pc' := 125) (as := [_, _, _]) rfl rfl rfl ⟨rfl, rfl, rfl⟩ (Nat.le_of_ble_eq_true rfl) (Nat.le_of_ble_eq_true rfl) rfl (r_in _ _ 0 _) (fun r3 M3 hz => ?_)
      obtain ⟨rfl, hm_⟩ := hz
      refine rn_mem hm_ ?_
      clear hm_
      refine rn_if_ne (t := 137) (pc' := 128) rfl rfl rfl (fun h4 => ?_) (fun h4 => ?_)
      · refine rn_aload_n (pc' := 138) rfl rfl rfl ?_
        refine rn_iload_n (pc' := 139) rfl rfl rfl ?_
        refine rn_callV (pc' := 142) (as := [_]) rfl rfl rfl ⟨Nat.le_of_ble_eq_true rfl, rfl, rfl⟩ rfl (by first | assumption | decide | omega) (Nat.le_of_ble_eq_true rfl) (Nat.le_of_ble_eq_true rfl) rfl hc (fun r5 M5 hz => ?_)
        obtain ⟨rfl, hm_⟩ := hz
        refine rn_mem hm_ ?_
        clear hm_
        refine rn_iconst (pc' := 143) (v := 1) rfl rfl (by decide) ?_
        refine rn_istore (pc' := 145) rfl rfl rfl (Nat.le_of_ble_eq_true rfl) rfl ?_
        exact r_ttLoop (rpid M e) he P hP 20 1 F _ rfl (Nat.le_refl _) hF
      · exact absurd hin (ite01.mp h4)
    · exact absurd hr h2
  · exact absurd h1 (nI_pos (by omega))
theorem r_ttE {d t e pp n : Nat} (M : xM) (ht : M.1 20 0 25 = nI t) (ht24 : t < 24) (h : tr M t = some e) (hr : rdyV M e = 0) (hpp : rprg M e = nI pp) (hpp2 : pp < 16) (hin : ¬ (0 ≤ (rnxt M e).toInt64 ∧ (rnxt M e).toInt64 ≤ (M.1 21 0 pp - 1).toInt64)) (hc : Rn (d + 3) 84 (0, xen 84 [vR 20 0, vI (nI e), vI 0], [], mI M 20 0 25 (nI e)) (fun r M' => r = none ∧ M' = f_end (mI M 20 0 25 (nI e)) e 0)) (hz : ¬ (rpid (f_end (mI M 20 0 25 (nI e)) e 0) e = rpid M e ∧ ¬ rste (f_end (mI M 20 0 25 (nI e)) e 0) e = 4)) : Rn (d + 4) 88 (0, xen 88 [vR 20 0], [], M) (fun r M' => r = some (vI 1) ∧ M' = f_end (mI M 20 0 25 (nI e)) e 0) := by
  have he := trF_lt h
  refine r_ttFind M _ ht ht24 (fun x2 x3 => ?_)
  rw [oI_some h]
  refine rn_iload_n (pc' := 55) rfl rfl rfl ?_
  refine rn_if_ge (t := 60) (pc' := 58) rfl rfl rfl (fun h1 => ?_) (fun h1 => ?_)
  · refine rn_aload_n (pc' := 61) rfl rfl rfl ?_
    refine rn_iload_n (pc' := 62) rfl rfl rfl ?_
    refine rn_putI (N := 1) (pc' := 65) rfl rfl rfl rfl rfl (by first | assumption | decide | omega) ?_
    refine rn_aload_n (pc' := 66) rfl rfl rfl ?_
    refine rn_getF (N := 1) (t' := 33) (pc' := 69) rfl rfl rfl rfl rfl (by first | assumption | decide | omega) ?_
    refine rn_iload_n (pc' := 70) rfl rfl rfl ?_
    refine rn_iald (N := 1) (K := 24) (pc' := 71) rfl rfl ⟨rfl, rfl⟩ rfl (by first | assumption | decide | omega) rfl (by decide) rfl (by first | assumption | decide | omega) ?_
    refine rn_aload_n (pc' := 72) rfl rfl rfl ?_
    refine rn_getF (N := 1) (t' := 34) (pc' := 75) rfl rfl rfl rfl rfl (by first | assumption | decide | omega) ?_
    refine rn_iload_n (pc' := 76) rfl rfl rfl ?_
    refine rn_iald (N := 1) (K := 24) (pc' := 77) rfl rfl ⟨rfl, rfl⟩ rfl (by first | assumption | decide | omega) rfl (by decide) rfl (by first | assumption | decide | omega) ?_
    refine rn_iconst (pc' := 78) (v := (-1)) rfl rfl (by decide) ?_
    refine rn_ixor (pc' := 79) rfl rfl ?_
    refine rn_iand (pc' := 80) rfl rfl ?_
    refine rn_istore_n (pc' := 81) rfl rfl rfl (Nat.le_of_ble_eq_true rfl) rfl ?_
    refine rn_iload_n (pc' := 82) rfl rfl rfl ?_
    refine rn_if_eq (t := 93) (pc' := 85) rfl rfl rfl (fun h2 => ?_) (fun h2 => ?_)
    · refine rn_aload_n (pc' := 94) rfl rfl rfl ?_
      refine rn_getF (N := 1) (t' := 25) (pc' := 97) rfl rfl rfl rfl rfl (by first | assumption | decide | omega) ?_
      refine rn_iload_n (pc' := 98) rfl rfl rfl ?_
      refine rn_iald (N := 1) (K := 24) (pc' := 99) rfl rfl ⟨rfl, rfl⟩ rfl (by first | assumption | decide | omega) rfl (by decide) rfl (by first | assumption | decide | omega) ?_
      refine rn_istore_n (pc' := 100) rfl rfl rfl (Nat.le_of_ble_eq_true rfl) rfl ?_
      refine rn_aload_n (pc' := 101) rfl rfl rfl ?_
      refine rn_getF (N := 1) (t' := 30) (pc' := 104) rfl rfl rfl rfl rfl (by first | assumption | decide | omega) ?_
      refine rn_iload_n (pc' := 105) rfl rfl rfl ?_
      refine rn_iald (N := 1) (K := 24) (pc' := 106) rfl rfl ⟨rfl, rfl⟩ rfl (by first | assumption | decide | omega) rfl (by decide) rfl (by first | assumption | decide | omega) ?_
      refine rn_i2l (pc' := 107) rfl rfl ?_
      refine rn_lconst (pc' := 108) (v := 0) rfl rfl rfl ?_
      refine rn_aload_n (pc' := 109) rfl rfl rfl ?_
      refine rn_getF (N := 1) (t' := 21) (pc' := 112) rfl rfl rfl rfl rfl (by first | assumption | decide | omega) ?_
      refine rn_aload_n (pc' := 113) rfl rfl rfl ?_
      refine rn_getF (N := 1) (t' := 29) (pc' := 116) rfl rfl rfl rfl rfl (by first | assumption | decide | omega) ?_
      refine rn_iload_n (pc' := 117) rfl rfl rfl ?_
      refine rn_iald (N := 1) (K := 24) (pc' := 118) rfl rfl ⟨rfl, rfl⟩ rfl (by first | assumption | decide | omega) rfl (by decide) rfl (by first | assumption | decide | omega) ?_
      refine rn_iald (k := pp) (N := 1) (K := 16) (pc' := 119) rfl rfl ⟨rfl, rfl⟩ rfl (by first | assumption | decide | omega) rfl (by decide) (hpp) (by first | assumption | decide | omega) ?_
      refine rn_iconst (pc' := 120) (v := 1) rfl rfl (by decide) ?_
      refine rn_isub (pc' := 121) rfl rfl ?_
      refine rn_i2l (pc' := 122) rfl rfl ?_
      refine rn_callS (pc' := 125) (as := [_, _, _]) rfl rfl rfl ⟨rfl, rfl, rfl⟩ (Nat.le_of_ble_eq_true rfl) (Nat.le_of_ble_eq_true rfl) rfl (r_in _ _ 0 _) (fun r3 M3 hz => ?_)
      obtain ⟨rfl, hm_⟩ := hz
      refine rn_mem hm_ ?_
      clear hm_
      refine rn_if_ne (t := 137) (pc' := 128) rfl rfl rfl (fun h4 => ?_) (fun h4 => ?_)
      · exact absurd (ite01.mpr hin) h4
      · refine rn_aload_n (pc' := 129) rfl rfl rfl ?_
        refine rn_iload_n (pc' := 130) rfl rfl rfl ?_
        refine rn_iconst (pc' := 131) (v := 0) rfl rfl (by decide) ?_
        refine rn_callV (pc' := 134) (as := [_, _]) rfl rfl rfl ⟨Nat.le_of_ble_eq_true rfl, rfl, rfl⟩ rfl (by first | assumption | decide | omega) (Nat.le_of_ble_eq_true rfl) (Nat.le_of_ble_eq_true rfl) rfl hc (fun r5 M5 hz => ?_)
        obtain ⟨rfl, hm_⟩ := hz
        refine rn_mem hm_ ?_
        clear hm_
        refine rn_goto (pc' := 142) rfl rfl ?_
        refine rn_iconst (pc' := 143) (v := 1) rfl rfl (by decide) ?_
        refine rn_istore (pc' := 145) rfl rfl rfl (Nat.le_of_ble_eq_true rfl) rfl ?_
        refine rn_iload (pc' := 147) rfl rfl rfl ?_
        refine rn_bipush (pc' := 149) (v := 21) rfl rfl (by decide) ?_
        refine rn_ic_ge (t := 239) (pc' := 152) rfl rfl rfl (fun h6 => ?_) (fun h6 => ?_)
        · refine rn_iconst (pc' := 240) (v := 1) rfl rfl (by decide) ?_
          refine rn_zreturn rfl rfl (by decide) ?_
          exact ⟨rfl, rfl⟩
        · refine rn_aload_n (pc' := 153) rfl rfl rfl ?_
          refine rn_getF (N := 1) (t' := 25) (pc' := 156) rfl rfl rfl rfl rfl (by first | assumption | decide | omega) ?_
          refine rn_iload_n (pc' := 157) rfl rfl rfl ?_
          refine rn_iald (N := 1) (K := 24) (pc' := 158) rfl rfl ⟨rfl, rfl⟩ rfl (by first | assumption | decide | omega) rfl (by decide) rfl (by first | assumption | decide | omega) ?_
          refine rn_iload_n (pc' := 159) rfl rfl rfl ?_
          refine rn_ic_ne (t := 239) (pc' := 162) rfl rfl rfl (fun h7 => ?_) (fun h7 => ?_)
          · refine rn_iconst (pc' := 240) (v := 1) rfl rfl (by decide) ?_
            refine rn_zreturn rfl rfl (by decide) ?_
            exact ⟨rfl, rfl⟩
          · refine rn_aload_n (pc' := 163) rfl rfl rfl ?_
            refine rn_getF (N := 1) (t' := 28) (pc' := 166) rfl rfl rfl rfl rfl (by first | assumption | decide | omega) ?_
            refine rn_iload_n (pc' := 167) rfl rfl rfl ?_
            refine rn_iald (N := 1) (K := 24) (pc' := 168) rfl rfl ⟨rfl, rfl⟩ rfl (by first | assumption | decide | omega) rfl (by decide) rfl (by first | assumption | decide | omega) ?_
            refine rn_iconst (pc' := 169) (v := 4) rfl rfl (by decide) ?_
            refine rn_ic_eq (t := 239) (pc' := 172) rfl rfl rfl (fun h8 => ?_) (fun h8 => ?_)
            · refine rn_iconst (pc' := 240) (v := 1) rfl rfl (by decide) ?_
              refine rn_zreturn rfl rfl (by decide) ?_
              exact ⟨rfl, rfl⟩
            · exact absurd ⟨‹_›, ‹_›⟩ hz
    · exact absurd hr h2
  · exact absurd h1 (nI_pos (by omega))
def alF : Nat → Nat → xM → xM
  | 0, _, M => M
  | m + 1, i, M => alF m (i + 1) (if 0 < rpid M i ∧ 0 < ralm M i ∧ ralm M i ≤ (M.1 20 0 26).toInt64 then f_send (mJ M 38 0 i 0) i 14 else M)
abbrev nTick (M : xM) : xM := mI M 20 0 26 (M.1 20 0 26 + 1)
theorem r_tickO {d : Nat} (M : xM) (n : Int32) (h : ¬ (0 ≤ n.toInt64 ∧ n.toInt64 ≤ 200)) : Rn (d + 1) 87 (0, xen 87 [vR 20 0, vI n], [], M) (fun r M' => r = some (vI (-1002)) ∧ M' = M) := by
  show Rn _ 87 (0, [some (vR 20 0), some (vI n), none, none, none], [], _) _
  refine rn_iload_n (pc' := 1) rfl rfl rfl ?_
  refine rn_i2l (pc' := 2) rfl rfl ?_
  refine rn_lconst (pc' := 3) (v := 0) rfl rfl rfl ?_
  refine rn_ldc2_w (pc' := 6) (v := 200) rfl rfl rfl ?_
  refine rn_callS (pc' := 9) (as := [_, _, _]) rfl rfl rfl ⟨rfl, rfl, rfl⟩ (Nat.le_of_ble_eq_true rfl) (Nat.le_of_ble_eq_true rfl) rfl (r_in M _ 0 200) (fun r1 M1 hz => ?_)
  obtain ⟨rfl, hm_⟩ := hz
  refine rn_mem hm_ ?_
  clear hm_
  refine rn_if_ne (t := 16) (pc' := 12) rfl rfl rfl (fun h2 => ?_) (fun h2 => ?_)
  · exact absurd (ite01.mpr h) h2
  · refine rn_sipush (pc' := 15) (v := (-1002)) rfl rfl (by decide) ?_
    refine rn_ireturn rfl rfl ?_
    exact ⟨rfl, rfl⟩
theorem r_tick0 {d : Nat} (M : xM) (n : Int32) (Z : Option xV → xM → Prop) (h : 0 ≤ n.toInt64 ∧ n.toInt64 ≤ 200) (k : Rn (d + 1) 87 (20, [some (vR 20 0), some (vI n), some (vI 0), some (vI (nI 0)), none], [], M) Z) : Rn (d + 1) 87 (0, xen 87 [vR 20 0, vI n], [], M) Z := by
  show Rn _ 87 (0, [some (vR 20 0), some (vI n), none, none, none], [], _) _
  refine rn_iload_n (pc' := 1) rfl rfl rfl ?_
  refine rn_i2l (pc' := 2) rfl rfl ?_
  refine rn_lconst (pc' := 3) (v := 0) rfl rfl rfl ?_
  refine rn_ldc2_w (pc' := 6) (v := 200) rfl rfl rfl ?_
  refine rn_callS (pc' := 9) (as := [_, _, _]) rfl rfl rfl ⟨rfl, rfl, rfl⟩ (Nat.le_of_ble_eq_true rfl) (Nat.le_of_ble_eq_true rfl) rfl (r_in M _ 0 200) (fun r1 M1 hz => ?_)
  obtain ⟨rfl, hm_⟩ := hz
  refine rn_mem hm_ ?_
  clear hm_
  refine rn_if_ne (t := 16) (pc' := 12) rfl rfl rfl (fun h2 => ?_) (fun h2 => ?_)
  · refine rn_iconst (pc' := 17) (v := 0) rfl rfl (by decide) ?_
    refine rn_istore_n (pc' := 18) rfl rfl rfl (Nat.le_of_ble_eq_true rfl) rfl ?_
    refine rn_iconst (pc' := 19) (v := 0) rfl rfl (by decide) ?_
    refine rn_istore_n (pc' := 20) rfl rfl rfl (Nat.le_of_ble_eq_true rfl) rfl ?_
    exact k
  · exact absurd h (ite01.mp h2)
theorem r_tickE {d i n : Nat} (M : xM) (c : Int32) (x4 : Option xV) (h : ¬ i < n) (hi : i < 2 ^ 31) (hn : n < 2 ^ 31) : Rn d 87 (20, [some (vR 20 0), some (vI (nI n)), some (vI c), some (vI (nI i)), x4], [], M) (fun r M' => r = some (vI c) ∧ M' = M) := by
  refine rn_iload_n (pc' := 21) rfl rfl rfl ?_
  refine rn_iload_n (pc' := 22) rfl rfl rfl ?_
  refine rn_ic_ge (t := 134) (pc' := 25) rfl rfl rfl (fun h1 => ?_) (fun h1 => ?_)
  · refine rn_iload_n (pc' := 135) rfl rfl rfl ?_
    refine rn_ireturn rfl rfl ?_
    exact ⟨rfl, rfl⟩
  · exact absurd ((nI_ltI hi hn).mp h1) h
theorem r_tickS {d i n r0 : Nat} (M N2 N3 N4 : xM) (c t : Int32) (x4 : Option xV) (Z : Option xV → xM → Prop) (h : i < n) (hn : n < 2 ^ 31) (hr : rok M r0) (hr4 : r0 + 24 ≤ 4000) (ht : t = 0 ∨ t = 1)
    (h2 : Rn d 79 (0, [some (vR 20 0), none, none], [], alF 24 0 (nTick M)) (fun r M' => r = none ∧ M' = N2)) (h3 : Rn d 88 (0, xen 88 [vR 20 0], [], N2) (fun r M' => r = some (vI t) ∧ M' = N3)) (h4 : Rn d 79 (0, [some (vR 20 0), none, none], [], N3) (fun r M' => r = none ∧ M' = N4))
    (k : ∀ x4, Rn (d + 1) 87 (20, [some (vR 20 0), some (vI (nI n)), some (vI (c + t)), some (vI (nI (i + 1))), x4], [], N4) Z) : Rn (d + 1) 87 (20, [some (vR 20 0), some (vI (nI n)), some (vI c), some (vI (nI i)), x4], [], M) Z := by
  have fin : ∀ x4, Rn (d + 1) 87 (105, [some (vR 20 0), some (vI (nI n)), some (vI c), some (vI (nI i)), x4], [], alF 24 0 (nTick M)) Z := by
    intro x4
    have l1 : ∀ N : xM, Rn (d + 1) 87 (122, [some (vR 20 0), some (vI (nI n)), some (vI c), some (vI (nI i)), x4], [vI t, vI c], N3) Z := by
      intro _
      refine rn_iadd (pc' := 123) rfl rfl ?_
      refine rn_istore_n (pc' := 124) rfl rfl rfl (Nat.le_of_ble_eq_true rfl) rfl ?_
      refine rn_aload_n (pc' := 125) rfl rfl rfl ?_
      refine rn_callV (pc' := 128) (as := []) rfl rfl rfl ⟨Nat.le_of_ble_eq_true rfl, rfl, rfl⟩ rfl (by first | assumption | decide | omega) (Nat.le_of_ble_eq_true rfl) (Nat.le_of_ble_eq_true rfl) rfl h4 (fun r1 M1 hz => ?_)
      obtain ⟨rfl, hm_⟩ := hz
      refine rn_mem hm_ ?_
      clear hm_
      refine rn_iinc (pc' := 131) rfl rfl rfl (nI_inc _) rfl (Nat.le_of_ble_eq_true rfl) rfl ?_
      refine rn_goto (pc' := 20) rfl rfl ?_
      exact k x4
    rcases ht with rfl | rfl
    · refine rn_aload_n (pc' := 106) rfl rfl rfl ?_
      refine rn_callV (pc' := 109) (as := []) rfl rfl rfl ⟨Nat.le_of_ble_eq_true rfl, rfl, rfl⟩ rfl (by first | assumption | decide | omega) (Nat.le_of_ble_eq_true rfl) (Nat.le_of_ble_eq_true rfl) rfl h2 (fun r1 M1 hz => ?_)
      obtain ⟨rfl, hm_⟩ := hz
      refine rn_mem hm_ ?_
      clear hm_
      refine rn_iload_n (pc' := 110) rfl rfl rfl ?_
      refine rn_aload_n (pc' := 111) rfl rfl rfl ?_
      refine rn_callV (pc' := 114) (as := []) rfl rfl rfl ⟨Nat.le_of_ble_eq_true rfl, rfl, rfl⟩ rfl (by first | assumption | decide | omega) (Nat.le_of_ble_eq_true rfl) (Nat.le_of_ble_eq_true rfl) rfl h3 (fun r2 M2 hz => ?_)
      obtain ⟨rfl, hm_⟩ := hz
      refine rn_mem hm_ ?_
      clear hm_
      refine rn_if_eq (t := 121) (pc' := 117) rfl rfl rfl (fun h3 => ?_) (fun h3 => ?_)
      · refine rn_iconst (pc' := 122) (v := 0) rfl rfl (by decide) ?_
        exact l1 M
      · exact absurd rfl ‹¬ (0 : Int32) = 0›
    · refine rn_aload_n (pc' := 106) rfl rfl rfl ?_
      refine rn_callV (pc' := 109) (as := []) rfl rfl rfl ⟨Nat.le_of_ble_eq_true rfl, rfl, rfl⟩ rfl (by first | assumption | decide | omega) (Nat.le_of_ble_eq_true rfl) (Nat.le_of_ble_eq_true rfl) rfl h2 (fun r1 M1 hz => ?_)
      obtain ⟨rfl, hm_⟩ := hz
      refine rn_mem hm_ ?_
      clear hm_
      refine rn_iload_n (pc' := 110) rfl rfl rfl ?_
      refine rn_aload_n (pc' := 111) rfl rfl rfl ?_
      refine rn_callV (pc' := 114) (as := []) rfl rfl rfl ⟨Nat.le_of_ble_eq_true rfl, rfl, rfl⟩ rfl (by first | assumption | decide | omega) (Nat.le_of_ble_eq_true rfl) (Nat.le_of_ble_eq_true rfl) rfl h3 (fun r2 M2 hz => ?_)
      obtain ⟨rfl, hm_⟩ := hz
      refine rn_mem hm_ ?_
      clear hm_
      refine rn_if_eq (t := 121) (pc' := 117) rfl rfl rfl (fun h3 => ?_) (fun h3 => ?_)
      · exact absurd ‹(1 : Int32) = 0› (by decide)
      · refine rn_iconst (pc' := 118) (v := 1) rfl rfl (by decide) ?_
        refine rn_goto (pc' := 122) rfl rfl ?_
        exact l1 M
  have loop : ∀ (m a q : Nat) (N : xM), a + m = 24 → rok N q → q + m ≤ 4000 → alF m a N = alF 24 0 (nTick M) → Rn (d + 1) 87 (38, [some (vR 20 0), some (vI (nI n)), some (vI c), some (vI (nI i)), some (vI (nI a))], [], N) Z := by
    intro m
    induction m with
    | zero =>
      intro a q N ha hq hq4 he
      obtain rfl : a = 24 := by omega
      have fin := fin (some (vI (nI 24)))
      rw [← he] at fin
      refine rn_iload (pc' := 40) rfl rfl rfl ?_
      refine rn_bipush (pc' := 42) (v := 24) rfl rfl (by decide) ?_
      refine rn_ic_ge (t := 105) (pc' := 45) rfl rfl rfl (fun h1 => ?_) (fun h1 => ?_)
      · exact fin
      · exact absurd ((lt24 (by omega)).mp h1) (by omega)
    | succ m ih =>
      intro a q N ha hq hq4 he
      have ha24 : a < 24 := by omega
      unfold alF at he
      have no : ¬ (0 < rpid N a ∧ 0 < ralm N a ∧ ralm N a ≤ (N.1 20 0 26).toInt64) → Rn (d + 1) 87 (99, [some (vR 20 0), some (vI (nI n)), some (vI c), some (vI (nI i)), some (vI (nI a))], [], N) Z := by
        intro hc
        rw [if_neg hc] at he
        refine rn_iinc (pc' := 102) rfl rfl rfl (nI_inc _) rfl (Nat.le_of_ble_eq_true rfl) rfl ?_
        refine rn_goto (pc' := 38) rfl rfl ?_
        exact ih (a + 1) q N (by omega) hq (by omega) he
      have yes : (0 < rpid N a ∧ 0 < ralm N a ∧ ralm N a ≤ (N.1 20 0 26).toInt64) → Rn (d + 1) 87 (83, [some (vR 20 0), some (vI (nI n)), some (vI c), some (vI (nI i)), some (vI (nI a))], [], N) Z := by
        intro hc
        rw [if_pos hc] at he
        refine rn_aload_n (pc' := 84) rfl rfl rfl ?_
        refine rn_getF (N := 1) (t' := 38) (pc' := 87) rfl rfl rfl rfl rfl (by first | assumption | decide | omega) ?_
        refine rn_iload (pc' := 89) rfl rfl rfl ?_
        refine rn_lconst (pc' := 90) (v := 0) rfl rfl rfl ?_
        refine rn_last (N := 1) (K := 24) (pc' := 91) rfl rfl ⟨rfl, rfl⟩ rfl (by first | assumption | decide | omega) rfl (by decide) rfl (by first | assumption | decide | omega) ?_
        refine rn_aload_n (pc' := 92) rfl rfl rfl ?_
        refine rn_iload (pc' := 94) rfl rfl rfl ?_
        refine rn_bipush (pc' := 96) (v := 14) rfl rfl (by decide) ?_
        refine rn_callV (pc' := 99) (as := [_, _]) rfl rfl rfl ⟨Nat.le_of_ble_eq_true rfl, rfl, rfl⟩ rfl (by first | assumption | decide | omega) (Nat.le_of_ble_eq_true rfl) (Nat.le_of_ble_eq_true rfl) rfl (r_send _ 14 ha24 (n := q) hq (by omega)) (fun r1 M1 hz => ?_)
        obtain ⟨rfl, hm_⟩ := hz
        refine rn_mem hm_ ?_
        clear hm_
        refine rn_iinc (pc' := 102) rfl rfl rfl (nI_inc _) rfl (Nat.le_of_ble_eq_true rfl) rfl ?_
        refine rn_goto (pc' := 38) rfl rfl ?_
        exact ih (a + 1) (q + 1) _ (by omega) (rok_send (M := mJ N 38 0 a 0) hq a 14) (by omega) he
      refine rn_iload (pc' := 40) rfl rfl rfl ?_
      refine rn_bipush (pc' := 42) (v := 24) rfl rfl (by decide) ?_
      refine rn_ic_ge (t := 105) (pc' := 45) rfl rfl rfl (fun h1 => ?_) (fun h1 => ?_)
      · exact absurd ((lt24 (by omega)).mpr ha24) h1
      · refine rn_aload_n (pc' := 46) rfl rfl rfl ?_
        refine rn_getF (N := 1) (t' := 25) (pc' := 49) rfl rfl rfl rfl rfl (by first | assumption | decide | omega) ?_
        refine rn_iload (pc' := 51) rfl rfl rfl ?_
        refine rn_iald (N := 1) (K := 24) (pc' := 52) rfl rfl ⟨rfl, rfl⟩ rfl (by first | assumption | decide | omega) rfl (by decide) rfl (by first | assumption | decide | omega) ?_
        refine rn_if_le (t := 99) (pc' := 55) rfl rfl rfl (fun h2 => ?_) (fun h2 => ?_)
        · (simp only [lg_gt] at *; first | exact no (fun q => absurd q.1 h2) | exact no (fun q => absurd q.2.1 h3) | exact no (fun q => absurd q.2.2 (Int64.not_le.mpr h4)))
        · refine rn_aload_n (pc' := 56) rfl rfl rfl ?_
          refine rn_getF (N := 1) (t' := 38) (pc' := 59) rfl rfl rfl rfl rfl (by first | assumption | decide | omega) ?_
          refine rn_iload (pc' := 61) rfl rfl rfl ?_
          refine rn_lald (N := 1) (K := 24) (pc' := 62) rfl rfl ⟨rfl, rfl⟩ rfl (by first | assumption | decide | omega) rfl (by decide) rfl (by first | assumption | decide | omega) ?_
          refine rn_lconst (pc' := 63) (v := 0) rfl rfl rfl ?_
          refine rn_lcmp (pc' := 64) rfl rfl ?_
          refine rn_if_le (t := 99) (pc' := 67) rfl rfl rfl (fun h3 => ?_) (fun h3 => ?_)
          · (simp only [lg_gt] at *; first | exact no (fun q => absurd q.1 h2) | exact no (fun q => absurd q.2.1 h3) | exact no (fun q => absurd q.2.2 (Int64.not_le.mpr h4)))
          · refine rn_aload_n (pc' := 68) rfl rfl rfl ?_
            refine rn_getF (N := 1) (t' := 38) (pc' := 71) rfl rfl rfl rfl rfl (by first | assumption | decide | omega) ?_
            refine rn_iload (pc' := 73) rfl rfl rfl ?_
            refine rn_lald (N := 1) (K := 24) (pc' := 74) rfl rfl ⟨rfl, rfl⟩ rfl (by first | assumption | decide | omega) rfl (by decide) rfl (by first | assumption | decide | omega) ?_
            refine rn_aload_n (pc' := 75) rfl rfl rfl ?_
            refine rn_getI (N := 1) (pc' := 78) rfl rfl rfl rfl (by decide) rfl (by first | assumption | decide | omega) ?_
            refine rn_i2l (pc' := 79) rfl rfl ?_
            refine rn_lcmp (pc' := 80) rfl rfl ?_
            refine rn_if_gt (t := 99) (pc' := 83) rfl rfl rfl (fun h4 => ?_) (fun h4 => ?_)
            · (simp only [lg_gt] at *; first | exact no (fun q => absurd q.1 h2) | exact no (fun q => absurd q.2.1 h3) | exact no (fun q => absurd q.2.2 (Int64.not_le.mpr h4)))
            · (simp only [lg_gt] at *; exact yes ⟨h2, h3, Int64.not_lt.mp h4⟩)
  refine rn_iload_n (pc' := 21) rfl rfl rfl ?_
  refine rn_iload_n (pc' := 22) rfl rfl rfl ?_
  refine rn_ic_ge (t := 134) (pc' := 25) rfl rfl rfl (fun h1 => ?_) (fun h1 => ?_)
  · exact absurd ((nI_ltI (by omega) hn).mpr h) h1
  · refine rn_aload_n (pc' := 26) rfl rfl rfl ?_
    refine rn_dupA (pc' := 27) rfl rfl ?_
    refine rn_getI (N := 1) (pc' := 30) rfl rfl rfl rfl (by decide) rfl (by first | assumption | decide | omega) ?_
    refine rn_iconst (pc' := 31) (v := 1) rfl rfl (by decide) ?_
    refine rn_iadd (pc' := 32) rfl rfl ?_
    refine rn_putI (N := 1) (pc' := 35) rfl rfl rfl rfl rfl (by first | assumption | decide | omega) ?_
    refine rn_iconst (pc' := 36) (v := 0) rfl rfl (by decide) ?_
    refine rn_istore (pc' := 38) rfl rfl rfl (Nat.le_of_ble_eq_true rfl) rfl ?_
    exact loop 24 0 r0 _ rfl hr (by omega) rfl
theorem r_killU {d : Nat} (M : xM) (p s : Int32) (h : eo M p = none) : Rn (d + 1) 99 (0, xen 99 [vR 20 0, vI p, vI s], [], M) (fun r M' => r = some (vI (-1001)) ∧ M' = M) := by
  have ho := oI_neg (o := eo M p) (fun e h => eo_lt h)
  show Rn _ 99 (0, [some (vR 20 0), some (vI p), some (vI s), none], [], _) _
  refine rn_aload_n (pc' := 1) rfl rfl rfl ?_
  refine rn_iload_n (pc' := 2) rfl rfl rfl ?_
  refine rn_callV (pc' := 5) (as := [_]) rfl rfl rfl ⟨Nat.le_of_ble_eq_true rfl, rfl, rfl⟩ rfl (by first | assumption | decide | omega) (Nat.le_of_ble_eq_true rfl) (Nat.le_of_ble_eq_true rfl) rfl (r_entryOf M p) (fun r1 M1 hz => ?_)
  obtain ⟨rfl, hm_⟩ := hz
  refine rn_mem hm_ ?_
  clear hm_
  refine rn_istore_n (pc' := 6) rfl rfl rfl (Nat.le_of_ble_eq_true rfl) rfl ?_
  refine rn_iload_n (pc' := 7) rfl rfl rfl ?_
  refine rn_if_ge (t := 14) (pc' := 10) rfl rfl rfl (fun h2 => ?_) (fun h2 => ?_)
  · exact absurd (ho.mpr h) h2
  · refine rn_sipush (pc' := 13) (v := (-1001)) rfl rfl (by decide) ?_
    refine rn_ireturn rfl rfl ?_
    exact ⟨rfl, rfl⟩
theorem r_killO {d e : Nat} (M : xM) (p s : Int32) (h : eo M p = some e) (hs : ¬ isS1 s) : Rn (d + 1) 99 (0, xen 99 [vR 20 0, vI p, vI s], [], M) (fun r M' => r = some (vI (-1002)) ∧ M' = M) := by
  have hp := nI_pos (n := e) (by have := eo_lt h; omega)
  show Rn _ 99 (0, [some (vR 20 0), some (vI p), some (vI s), none], [], _) _
  refine rn_aload_n (pc' := 1) rfl rfl rfl ?_
  refine rn_iload_n (pc' := 2) rfl rfl rfl ?_
  refine rn_callV (pc' := 5) (as := [_]) rfl rfl rfl ⟨Nat.le_of_ble_eq_true rfl, rfl, rfl⟩ rfl (by first | assumption | decide | omega) (Nat.le_of_ble_eq_true rfl) (Nat.le_of_ble_eq_true rfl) rfl (r_entryOf M p) (fun r1 M1 hz => ?_)
  obtain ⟨rfl, hm_⟩ := hz
  refine rn_mem hm_ ?_
  clear hm_
  refine rn_topI (oI_some h) ?_
  refine rn_istore_n (pc' := 6) rfl rfl rfl (Nat.le_of_ble_eq_true rfl) rfl ?_
  refine rn_iload_n (pc' := 7) rfl rfl rfl ?_
  refine rn_if_ge (t := 14) (pc' := 10) rfl rfl rfl (fun h2 => ?_) (fun h2 => ?_)
  · refine rn_iload_n (pc' := 15) rfl rfl rfl ?_
    refine rn_i2l (pc' := 16) rfl rfl ?_
    refine rn_lconst (pc' := 17) (v := 1) rfl rfl rfl ?_
    refine rn_ldc2_w (pc' := 20) (v := 20) rfl rfl rfl ?_
    refine rn_callS (pc' := 23) (as := [_, _, _]) rfl rfl rfl ⟨rfl, rfl, rfl⟩ (Nat.le_of_ble_eq_true rfl) (Nat.le_of_ble_eq_true rfl) rfl (r_in M _ 1 20) (fun r3 M3 hz => ?_)
    obtain ⟨rfl, hm_⟩ := hz
    refine rn_mem hm_ ?_
    clear hm_
    refine rn_if_ne (t := 30) (pc' := 26) rfl rfl rfl (fun h4 => ?_) (fun h4 => ?_)
    · exact absurd (ite01.mpr hs) h4
    · refine rn_sipush (pc' := 29) (v := (-1002)) rfl rfl (by decide) ?_
      refine rn_ireturn rfl rfl ?_
      exact ⟨rfl, rfl⟩
  · exact absurd h2 hp
theorem r_killOut {d e n : Nat} (M N : xM) (p s : Int32) (h : eo M p = some e) (hs : isS1 s) (hn : rok M n) (hn4 : n < 4000) (h2 : Rn d 79 (0, [some (vR 20 0), none, none], [], f_send M e s) (fun r M' => r = none ∧ M' = N)) : Rn (d + 1) 99 (0, xen 99 [vR 20 0, vI p, vI s], [], M) (fun r M' => r = some (vI 1) ∧ M' = N) := by
  have he := eo_lt h
  have hp := nI_pos (n := e) (by omega)
  show Rn _ 99 (0, [some (vR 20 0), some (vI p), some (vI s), none], [], _) _
  refine rn_aload_n (pc' := 1) rfl rfl rfl ?_
  refine rn_iload_n (pc' := 2) rfl rfl rfl ?_
  refine rn_callV (pc' := 5) (as := [_]) rfl rfl rfl ⟨Nat.le_of_ble_eq_true rfl, rfl, rfl⟩ rfl (by first | assumption | decide | omega) (Nat.le_of_ble_eq_true rfl) (Nat.le_of_ble_eq_true rfl) rfl (r_entryOf M p) (fun r1 M1 hz => ?_)
  obtain ⟨rfl, hm_⟩ := hz
  refine rn_mem hm_ ?_
  clear hm_
  refine rn_topI (oI_some h) ?_
  refine rn_istore_n (pc' := 6) rfl rfl rfl (Nat.le_of_ble_eq_true rfl) rfl ?_
  refine rn_iload_n (pc' := 7) rfl rfl rfl ?_
  refine rn_if_ge (t := 14) (pc' := 10) rfl rfl rfl (fun hb7 => ?_) (fun hb7 => ?_)
  · refine rn_iload_n (pc' := 15) rfl rfl rfl ?_
    refine rn_i2l (pc' := 16) rfl rfl ?_
    refine rn_lconst (pc' := 17) (v := 1) rfl rfl rfl ?_
    refine rn_ldc2_w (pc' := 20) (v := 20) rfl rfl rfl ?_
    refine rn_callS (pc' := 23) (as := [_, _, _]) rfl rfl rfl ⟨rfl, rfl, rfl⟩ (Nat.le_of_ble_eq_true rfl) (Nat.le_of_ble_eq_true rfl) rfl (r_in M _ 1 20) (fun r3 M3 hz => ?_)
    obtain ⟨rfl, hm_⟩ := hz
    refine rn_mem hm_ ?_
    clear hm_
    refine rn_if_ne (t := 30) (pc' := 26) rfl rfl rfl (fun hb23 => ?_) (fun hb23 => ?_)
    · refine rn_aload_n (pc' := 31) rfl rfl rfl ?_
      refine rn_iload_n (pc' := 32) rfl rfl rfl ?_
      refine rn_iload_n (pc' := 33) rfl rfl rfl ?_
      refine rn_callV (pc' := 36) (as := [_, _]) rfl rfl rfl ⟨Nat.le_of_ble_eq_true rfl, rfl, rfl⟩ rfl (by first | assumption | decide | omega) (Nat.le_of_ble_eq_true rfl) (Nat.le_of_ble_eq_true rfl) rfl (r_send M s he hn hn4) (fun r5 M5 hz => ?_)
      obtain ⟨rfl, hm_⟩ := hz
      refine rn_mem hm_ ?_
      clear hm_
      refine rn_aload_n (pc' := 37) rfl rfl rfl ?_
      refine rn_callV (pc' := 40) (as := []) rfl rfl rfl ⟨Nat.le_of_ble_eq_true rfl, rfl, rfl⟩ rfl (by first | assumption | decide | omega) (Nat.le_of_ble_eq_true rfl) (Nat.le_of_ble_eq_true rfl) rfl h2 (fun r6 M6 hz => ?_)
      obtain ⟨rfl, hm_⟩ := hz
      refine rn_mem hm_ ?_
      clear hm_
      refine rn_iconst (pc' := 41) (v := 1) rfl rfl (by decide) ?_
      refine rn_ireturn rfl rfl ?_
      exact ⟨rfl, rfl⟩
    · exact absurd hs (ite01.mp hb23)
  · exact absurd hb7 hp
