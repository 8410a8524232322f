theorem tk_iff (M : xM) (n : Int32) : ∀ k, tkF M n k = true ↔ ∃ j, j < k ∧ 0 < M.1 25 0 j ∧ (M.1 25 0 j = n ∨ M.1 27 0 j = n) := by
  intro k
  induction k with
  | zero => exact ⟨fun h => (by cases h), fun ⟨j, h, _⟩ => absurd h (Nat.not_lt_zero j)⟩
  | succ k ih =>
    unfold tkF
    simp only [Bool.or_eq_true, Bool.and_eq_true, decide_eq_true_eq, ih]
    constructor
    · rintro (⟨j, h1, h2⟩ | h)
      · exact ⟨j, by omega, h2⟩
      · exact ⟨k, by omega, h⟩
    · rintro ⟨j, h1, h2⟩
      by_cases hj : j = k
      · subst hj; exact Or.inr h2
      · exact Or.inl ⟨j, by omega, h2⟩
theorem gm_iff (M : xM) (n : Int32) : ∀ k, gmF M n k = true ↔ ∃ j, j < k ∧ 0 < M.1 25 0 j ∧ M.1 27 0 j = n := by
  intro k
  induction k with
  | zero => exact ⟨fun h => (by cases h), fun ⟨j, h, _⟩ => absurd h (Nat.not_lt_zero j)⟩
  | succ k ih =>
    unfold gmF
    simp only [Bool.or_eq_true, Bool.and_eq_true, decide_eq_true_eq, ih]
    constructor
    · rintro (⟨j, h1, h2⟩ | h)
      · exact ⟨j, by omega, h2⟩
      · exact ⟨k, by omega, h⟩
    · rintro ⟨j, h1, h2⟩
      by_cases hj : j = k
      · subst hj; exact Or.inr h2
      · exact Or.inl ⟨j, by omega, h2⟩
theorem c_isGroup {d n : Nat} {D N : xM} (g : Int32) (h : Inv D N n) : Rn d 48 (0, xen 48 [vR 9 0, vI g], [], D) (fun r C' => r = some (vI (bI (gmF N g 24))) ∧ C' = D) := by
  have loop : ∀ (m i : Nat) (x5 : Option xV), i + m = 24 → (∀ j, j < i → ¬ (0 < N.1 25 0 j ∧ N.1 27 0 j = g)) → Rn d 48 (11, [some (vR 9 0), some (vI g), some (vR 11 0), some (vI 24), some (vI (nI i)), x5], [], D) (fun r C' => r = some (vI (bI (gmF N g 24))) ∧ C' = D) := by
    intro m
    induction m with
    | zero =>
      intro i x5 hi hq
      obtain rfl : i = 24 := by omega
      have e0 : gmF N g 24 = false := by
        cases hg : gmF N g 24 with
        | false => rfl
        | true =>
          obtain ⟨j, j1, j2⟩ := (gm_iff N g 24).mp hg
          exact absurd j2 (hq j j1)
      rw [e0]
      refine rn_iload (pc' := 13) rfl rfl rfl ?_
      refine rn_iload_n (pc' := 14) rfl rfl rfl ?_
      refine rn_ic_ge (t := 48) (pc' := 17) rfl rfl rfl (fun h1 => ?_) (fun h1 => ?_)
      · refine rn_iconst (pc' := 49) (v := 0) rfl rfl (by decide) ?_
        refine rn_zreturn rfl rfl (by decide) ?_
        exact ⟨rfl, rfl⟩
      · exact absurd ((lt24 (by omega)).mp h1) (by omega)
    | succ m ih =>
      intro i x5 hi hq
      have hi24 : i < 24 := by omega
      have v0 : D.1 0 i 0 = N.1 25 0 i := f1 h.1.1 hi24 (by decide)
      have v2 : D.1 0 i 2 = N.1 27 0 i := f1 h.1.1 hi24 (by decide)
      by_cases hc : 0 < N.1 25 0 i ∧ N.1 27 0 i = g
      · have e1 : gmF N g 24 = true := (gm_iff N g 24).mpr ⟨i, hi24, hc⟩
        rw [e1]
        have hne : ¬ D.1 0 i 0 = 0 := by rw [v0]; exact fun q => by rw [q] at hc; exact absurd hc.1 (by decide)
        refine rn_iload (pc' := 13) rfl rfl rfl ?_
        refine rn_iload_n (pc' := 14) rfl rfl rfl ?_
        refine rn_ic_ge (t := 48) (pc' := 17) rfl rfl rfl (fun h1 => ?_) (fun h1 => ?_)
        · exact absurd ((lt24 (by omega)).mpr hi24) h1
        · refine rn_aload_n (pc' := 18) rfl rfl rfl ?_
          refine rn_iload (pc' := 20) rfl rfl rfl ?_
          refine rn_aaldF (t' := 0) (N := 1) (K := 24) (pc' := 21) rfl rfl rfl rfl rfl (by first | assumption | decide | omega) rfl (by decide) rfl (by first | assumption | decide | omega) ?_
          refine rn_astore (pc' := 23) rfl rfl rfl (Nat.le_of_ble_eq_true rfl) rfl ?_
          refine rn_aload (pc' := 25) rfl rfl rfl ?_
          refine rn_getI (N := 24) (pc' := 28) rfl rfl rfl rfl (by decide) rfl (by first | assumption | decide | omega) ?_
          refine rn_if_eq (t := 42) (pc' := 31) rfl rfl rfl (fun h2 => ?_) (fun h2 => ?_)
          · first | exact absurd h2 hne | exact absurd (v2.trans hc.2) h3
          · refine rn_aload (pc' := 33) rfl rfl rfl ?_
            refine rn_getI (N := 24) (pc' := 36) rfl rfl rfl rfl (by decide) rfl (by first | assumption | decide | omega) ?_
            refine rn_iload_n (pc' := 37) rfl rfl rfl ?_
            refine rn_ic_ne (t := 42) (pc' := 40) rfl rfl rfl (fun h3 => ?_) (fun h3 => ?_)
            · first | exact absurd h2 hne | exact absurd (v2.trans hc.2) h3
            · refine rn_iconst (pc' := 41) (v := 1) rfl rfl (by decide) ?_
              refine rn_zreturn rfl rfl (by decide) ?_
              exact ⟨rfl, rfl⟩
      · have nx := ih (i + 1) (some (vR 0 i)) (by omega) (fun j hj => by
          by_cases hji : j = i
          · subst hji; exact hc
          · exact hq j (by omega))
        have hpos : ¬ N.1 25 0 i = 0 → 0 < N.1 25 0 i := fun q => (lv_or h.2.2.1 hi24).resolve_left q
        refine rn_iload (pc' := 13) rfl rfl rfl ?_
        refine rn_iload_n (pc' := 14) rfl rfl rfl ?_
        refine rn_ic_ge (t := 48) (pc' := 17) rfl rfl rfl (fun h1 => ?_) (fun h1 => ?_)
        · exact absurd ((lt24 (by omega)).mpr hi24) h1
        · refine rn_aload_n (pc' := 18) rfl rfl rfl ?_
          refine rn_iload (pc' := 20) rfl rfl rfl ?_
          refine rn_aaldF (t' := 0) (N := 1) (K := 24) (pc' := 21) rfl rfl rfl rfl rfl (by first | assumption | decide | omega) rfl (by decide) rfl (by first | assumption | decide | omega) ?_
          refine rn_astore (pc' := 23) rfl rfl rfl (Nat.le_of_ble_eq_true rfl) rfl ?_
          refine rn_aload (pc' := 25) rfl rfl rfl ?_
          refine rn_getI (N := 24) (pc' := 28) rfl rfl rfl rfl (by decide) rfl (by first | assumption | decide | omega) ?_
          refine rn_if_eq (t := 42) (pc' := 31) rfl rfl rfl (fun h2 => ?_) (fun h2 => ?_)
          · refine rn_iinc (pc' := 45) rfl rfl rfl (nI_inc _) rfl (Nat.le_of_ble_eq_true rfl) rfl ?_
            refine rn_goto (pc' := 11) rfl rfl ?_
            exact nx
          · refine rn_aload (pc' := 33) rfl rfl rfl ?_
            refine rn_getI (N := 24) (pc' := 36) rfl rfl rfl rfl (by decide) rfl (by first | assumption | decide | omega) ?_
            refine rn_iload_n (pc' := 37) rfl rfl rfl ?_
            refine rn_ic_ne (t := 42) (pc' := 40) rfl rfl rfl (fun h3 => ?_) (fun h3 => ?_)
            · refine rn_iinc (pc' := 45) rfl rfl rfl (nI_inc _) rfl (Nat.le_of_ble_eq_true rfl) rfl ?_
              refine rn_goto (pc' := 11) rfl rfl ?_
              exact nx
            · (rw [v0] at h2; rw [v2] at h3; exact absurd ⟨hpos h2, h3⟩ hc)
  show Rn _ 48 (0, [some (vR 9 0), some (vI g), none, none, none, none], [], _) _
  refine rn_aload_n (pc' := 1) rfl rfl rfl ?_
  refine rn_getF (N := 1) (t' := 11) (pc' := 4) rfl rfl rfl rfl rfl (by first | assumption | decide | omega) ?_
  refine rn_astore_n (pc' := 5) rfl rfl rfl (Nat.le_of_ble_eq_true rfl) rfl ?_
  refine rn_aload_n (pc' := 6) rfl rfl rfl ?_
  refine rn_alen (N := 1) (K := 24) (pc' := 7) (v := 24) rfl rfl rfl rfl (by first | assumption | decide | omega) rfl rfl ?_
  refine rn_istore_n (pc' := 8) rfl rfl rfl (Nat.le_of_ble_eq_true rfl) rfl ?_
  refine rn_iconst (pc' := 9) (v := 0) rfl rfl (by decide) ?_
  refine rn_istore (pc' := 11) rfl rfl rfl (Nat.le_of_ble_eq_true rfl) rfl ?_
  exact loop 24 0 none rfl (fun j hj => absurd hj (Nat.not_lt_zero j))
theorem c_firstFree {d n : Nat} {D N : xM} (h : Inv D N n) : Rn d 46 (0, xen 46 [vR 9 0], [], D) (fun r C' => r = some (vO 0 (if fe N < 24 then some (fe N) else none)) ∧ C' = D) := by
  have loop : ∀ (m i : Nat) (x4 : Option xV), i + m = 24 → feF N m i = fe N → Rn d 46 (10, [some (vR 9 0), some (vR 11 0), some (vI 24), some (vI (nI i)), x4], [], D) (fun r C' => r = some (vO 0 (if fe N < 24 then some (fe N) else none)) ∧ C' = D) := by
    intro m
    induction m with
    | zero =>
      intro i x4 hi hq
      obtain rfl : i = 24 := by omega
      have e0 : fe N = 24 := hq.symm
      rw [e0]
      refine rn_iload_n (pc' := 11) rfl rfl rfl ?_
      refine rn_iload_n (pc' := 12) rfl rfl rfl ?_
      refine rn_ic_ge (t := 37) (pc' := 15) rfl rfl rfl (fun h1 => ?_) (fun h1 => ?_)
      · refine rn_aconst_null (pc' := 38) rfl rfl ?_
        refine rn_areturn rfl rfl ?_
        exact ⟨rfl, rfl⟩
      · exact absurd ((lt24 (by omega)).mp h1) (by omega)
    | succ m ih =>
      intro i x4 hi hq
      have hi24 : i < 24 := by omega
      have v0 : D.1 0 i 0 = N.1 25 0 i := f1 h.1.1 hi24 (by decide)
      unfold feF at hq
      rcases lv_or h.2.2.1 hi24 with hz | hl
      · rw [if_neg (by rw [show rpid N i = 0 from hz]; decide)] at hq
        rw [← hq, if_pos hi24]
        refine rn_iload_n (pc' := 11) rfl rfl rfl ?_
        refine rn_iload_n (pc' := 12) rfl rfl rfl ?_
        refine rn_ic_ge (t := 37) (pc' := 15) rfl rfl rfl (fun h1 => ?_) (fun h1 => ?_)
        · exact absurd ((lt24 (by omega)).mpr hi24) h1
        · refine rn_aload_n (pc' := 16) rfl rfl rfl ?_
          refine rn_iload_n (pc' := 17) rfl rfl rfl ?_
          refine rn_aaldF (t' := 0) (N := 1) (K := 24) (pc' := 18) rfl rfl rfl rfl rfl (by first | assumption | decide | omega) rfl (by decide) rfl (by first | assumption | decide | omega) ?_
          refine rn_astore (pc' := 20) rfl rfl rfl (Nat.le_of_ble_eq_true rfl) rfl ?_
          refine rn_aload (pc' := 22) rfl rfl rfl ?_
          refine rn_getI (N := 24) (pc' := 25) rfl rfl rfl rfl (by decide) rfl (by first | assumption | decide | omega) ?_
          refine rn_if_ne (t := 31) (pc' := 28) rfl rfl rfl (fun h2 => ?_) (fun h2 => ?_)
          · exact absurd (v0.trans hz) h2
          · refine rn_aload (pc' := 30) rfl rfl rfl ?_
            refine rn_areturn rfl rfl ?_
            exact ⟨rfl, rfl⟩
      · rw [if_pos hl] at hq
        have nx := ih (i + 1) (some (vR 0 i)) (by omega) hq
        have hne : ¬ D.1 0 i 0 = 0 := by rw [v0]; exact fun q => by rw [q] at hl; exact absurd hl (by decide)
        refine rn_iload_n (pc' := 11) rfl rfl rfl ?_
        refine rn_iload_n (pc' := 12) rfl rfl rfl ?_
        refine rn_ic_ge (t := 37) (pc' := 15) rfl rfl rfl (fun h1 => ?_) (fun h1 => ?_)
        · exact absurd ((lt24 (by omega)).mpr hi24) h1
        · refine rn_aload_n (pc' := 16) rfl rfl rfl ?_
          refine rn_iload_n (pc' := 17) rfl rfl rfl ?_
          refine rn_aaldF (t' := 0) (N := 1) (K := 24) (pc' := 18) rfl rfl rfl rfl rfl (by first | assumption | decide | omega) rfl (by decide) rfl (by first | assumption | decide | omega) ?_
          refine rn_astore (pc' := 20) rfl rfl rfl (Nat.le_of_ble_eq_true rfl) rfl ?_
          refine rn_aload (pc' := 22) rfl rfl rfl ?_
          refine rn_getI (N := 24) (pc' := 25) rfl rfl rfl rfl (by decide) rfl (by first | assumption | decide | omega) ?_
          refine rn_if_ne (t := 31) (pc' := 28) rfl rfl rfl (fun h2 => ?_) (fun h2 => ?_)
          · refine rn_iinc (pc' := 34) rfl rfl rfl (nI_inc _) rfl (Nat.le_of_ble_eq_true rfl) rfl ?_
            refine rn_goto (pc' := 10) rfl rfl ?_
            exact nx
          · exact absurd h2 hne
  show Rn _ 46 (0, [some (vR 9 0), none, none, none, none], [], _) _
  refine rn_aload_n (pc' := 1) rfl rfl rfl ?_
  refine rn_getF (N := 1) (t' := 11) (pc' := 4) rfl rfl rfl rfl rfl (by first | assumption | decide | omega) ?_
  refine rn_astore_n (pc' := 5) rfl rfl rfl (Nat.le_of_ble_eq_true rfl) rfl ?_
  refine rn_aload_n (pc' := 6) rfl rfl rfl ?_
  refine rn_alen (N := 1) (K := 24) (pc' := 7) (v := 24) rfl rfl rfl rfl (by first | assumption | decide | omega) rfl rfl ?_
  refine rn_istore_n (pc' := 8) rfl rfl rfl (Nat.le_of_ble_eq_true rfl) rfl ?_
  refine rn_iconst (pc' := 9) (v := 0) rfl rfl (by decide) ?_
  refine rn_istore_n (pc' := 10) rfl rfl rfl (Nat.le_of_ble_eq_true rfl) rfl ?_
  exact loop 24 0 none rfl rfl
theorem tk_parts {N : xM} {x : Nat} (hx : 1 ≤ x) (hx2 : x < 2 ^ 31) : tk N (nI x) = false ↔ eo N (nI x) = none ∧ gmF N (nI x) 24 = false := by
  have hpos : (0 : Int32) < nI x := nI_lt (a := 0) (by omega) hx2
  constructor
  · intro h
    have hn : ¬ tkF N (nI x) 24 = true := fun z => by unfold tk at h; rw [h] at z; cases z
    rw [tk_iff] at hn
    refine ⟨eo_no (fun k hk q => hn ⟨k, hk, by rw [q.2]; exact hpos, Or.inl q.2⟩), ?_⟩
    cases hg : gmF N (nI x) 24 with
    | false => rfl
    | true =>
      obtain ⟨j, j1, j2, j3⟩ := (gm_iff N _ 24).mp hg
      exact absurd ⟨j, j1, j2, Or.inr j3⟩ hn
  · rintro ⟨h1, h2⟩
    cases hq : tk N (nI x) with
    | false => rfl
    | true =>
      obtain ⟨j, j1, j2, j3⟩ := (tk_iff N _ 24).mp hq
      rcases j3 with j3 | j3
      · exact absurd ⟨hpos, j3⟩ (eoF_none h1 j j1)
      · have := (gm_iff N (nI x) 24).mpr ⟨j, j1, j2, j3⟩
        rw [h2] at this; cases this
theorem c_newPid {d n : Nat} {D N : xM} (h : Inv D N n) {l m : Nat} (hl : D.1 9 0 12 = nI l) (hl2 : l ≤ 999) (hm : m < 900) (hb : ∀ i, i < m → tk N (nI (nxi (i + 1) l)) = true) (hf : tk N (nI (nxi (m + 1) l)) = false) : Rn (d + 1) 47 (0, xen 47 [vR 9 0], [], D) (fun r C' => r = some (vI (nI (nxi (m + 1) l))) ∧ C' = D) := by
  have loop : ∀ m j l : Nat, 1 ≤ j → j + m < 999 → l ≤ 999 → (∀ i, i < m → tk N (nI (nxi (i + 1) l)) = true) → tk N (nI (nxi (m + 1) l)) = false → Rn (d + 1) 47 (7, [some (vR 9 0), some (vI (nI l)), some (vI (nI j))], [], D) (fun r C' => r = some (vI (nI (nxi (m + 1) l))) ∧ C' = D) := by
    intro m
    induction m with
    | zero =>
      intro j l hj hjm hl hb hf
      have hj9 : nI j < 999 := (nI_ltI (b := 999) (by omega) (by decide)).mpr (by omega)
      have hl9 : nI l < 999 ↔ l < 999 := nI_ltI (b := 999) (by omega) (by decide)
      have hnx := nx_le (n := l)
      have hf : tk N (nI (nx l)) = false := hf
      obtain ⟨f1', f2'⟩ := (tk_parts (by omega) (by omega)).mp hf
      have hfind := c_find (d := d) (nI (nx l)) h.1.1 h.2.2.2.1
      rw [f1'] at hfind
      have hg := c_isGroup (d := d) (nI (nx l)) h
      rw [f2'] at hg
      have go_ : Rn (d + 1) 47 (28, [some (vR 9 0), some (vI (nI l)), some (vI (nI j))], [vI (nI (nx l))], D) (fun r C' => r = some (vI (nI (nxi (0 + 1) l))) ∧ C' = D) := by
        refine rn_istore_n (pc' := 29) rfl rfl rfl (Nat.le_of_ble_eq_true rfl) rfl ?_
        refine rn_aload_n (pc' := 30) rfl rfl rfl ?_
        refine rn_iload_n (pc' := 31) rfl rfl rfl ?_
        refine rn_callV (pc' := 34) (as := [_]) rfl rfl rfl ⟨Nat.le_of_ble_eq_true rfl, rfl, rfl⟩ rfl (by first | assumption | decide | omega) (Nat.le_of_ble_eq_true rfl) (Nat.le_of_ble_eq_true rfl) rfl hfind (fun r1 M1 hz => ?_)
        obtain ⟨rfl, hm_⟩ := hz
        refine rn_mem hm_ ?_
        clear hm_
        refine rn_ifnonnull (t := 47) (pc' := 37) rfl rfl rfl (fun h1 => ?_) (fun h1 => ?_)
        · first | exact absurd rfl h1 | exact absurd rfl h2
        · refine rn_aload_n (pc' := 38) rfl rfl rfl ?_
          refine rn_iload_n (pc' := 39) rfl rfl rfl ?_
          refine rn_callV (pc' := 42) (as := [_]) rfl rfl rfl ⟨Nat.le_of_ble_eq_true rfl, rfl, rfl⟩ rfl (by first | assumption | decide | omega) (Nat.le_of_ble_eq_true rfl) (Nat.le_of_ble_eq_true rfl) rfl hg (fun r3 M3 hz => ?_)
          obtain ⟨rfl, hm_⟩ := hz
          refine rn_mem hm_ ?_
          clear hm_
          refine rn_if_ne (t := 47) (pc' := 45) rfl rfl rfl (fun h2 => ?_) (fun h2 => ?_)
          · first | exact absurd rfl h1 | exact absurd rfl h2
          · refine rn_iload_n (pc' := 46) rfl rfl rfl ?_
            refine rn_ireturn rfl rfl ?_
            exact ⟨rfl, rfl⟩
      refine rn_iload_n (pc' := 8) rfl rfl rfl ?_
      refine rn_sipush (pc' := 11) (v := 999) rfl rfl (by decide) ?_
      refine rn_ic_ge (t := 53) (pc' := 14) rfl rfl rfl (fun h1 => ?_) (fun h1 => ?_)
      · exact absurd hj9 h1
      · refine rn_iload_n (pc' := 15) rfl rfl rfl ?_
        refine rn_sipush (pc' := 18) (v := 999) rfl rfl (by decide) ?_
        refine rn_ic_lt (t := 25) (pc' := 21) rfl rfl rfl (fun h2 => ?_) (fun h2 => ?_)
        · refine rn_iload_n (pc' := 26) rfl rfl rfl ?_
          refine rn_iconst (pc' := 27) (v := 1) rfl rfl (by decide) ?_
          refine rn_iadd (pc' := 28) rfl rfl ?_
          refine rn_topI (y := nI (nx l)) (by unfold nx; first | (rw [if_neg (by have := hl9.mp h2; omega)]; exact nI_1 l) | (rw [if_pos (by by_cases q : l < 999; (· exact absurd (hl9.mpr q) h2); omega)]; rfl)) ?_
          exact go_
        · refine rn_iconst (pc' := 22) (v := 2) rfl rfl (by decide) ?_
          refine rn_goto (pc' := 28) rfl rfl ?_
          refine rn_topI (y := nI (nx l)) (by unfold nx; first | (rw [if_neg (by have := hl9.mp h2; omega)]; exact nI_1 l) | (rw [if_pos (by by_cases q : l < 999; (· exact absurd (hl9.mpr q) h2); omega)]; rfl)) ?_
          exact go_
    | succ m ih =>
      intro j l hj hjm hl hb hf
      have hj9 : nI j < 999 := (nI_ltI (b := 999) (by omega) (by decide)).mpr (by omega)
      have hl9 : nI l < 999 ↔ l < 999 := nI_ltI (b := 999) (by omega) (by decide)
      have hnx := nx_le (n := l)
      have hb0 : tk N (nI (nx l)) = true := hb 0 (by omega)
      have ih := ih (j + 1) (nx l) (by omega) (by omega) hnx.1 (fun i hi => hb (i + 1) (by omega)) hf
      have hfind := c_find (d := d) (nI (nx l)) h.1.1 h.2.2.2.1
      have hg := c_isGroup (d := d) (nI (nx l)) h
      have nxt : Rn (d + 1) 47 (47, [some (vR 9 0), some (vI (nI (nx l))), some (vI (nI j))], [], D) (fun r C' => r = some (vI (nI (nxi (m + 1 + 1) l))) ∧ C' = D) := by
        refine rn_iinc (pc' := 50) rfl rfl rfl (nI_inc _) rfl (Nat.le_of_ble_eq_true rfl) rfl ?_
        refine rn_goto (pc' := 7) rfl rfl ?_
        exact ih
      have go_ : Rn (d + 1) 47 (28, [some (vR 9 0), some (vI (nI l)), some (vI (nI j))], [vI (nI (nx l))], D) (fun r C' => r = some (vI (nI (nxi (m + 1 + 1) l))) ∧ C' = D) := by
        cases hq : eo N (nI (nx l)) with
        | some k =>
          rw [hq] at hfind
          refine rn_istore_n (pc' := 29) rfl rfl rfl (Nat.le_of_ble_eq_true rfl) rfl ?_
          refine rn_aload_n (pc' := 30) rfl rfl rfl ?_
          refine rn_iload_n (pc' := 31) rfl rfl rfl ?_
          refine rn_callV (pc' := 34) (as := [_]) rfl rfl rfl ⟨Nat.le_of_ble_eq_true rfl, rfl, rfl⟩ rfl (by first | assumption | decide | omega) (Nat.le_of_ble_eq_true rfl) (Nat.le_of_ble_eq_true rfl) rfl hfind (fun r1 M1 hz => ?_)
          obtain ⟨rfl, hm_⟩ := hz
          refine rn_mem hm_ ?_
          clear hm_
          refine rn_ifnonnull (t := 47) (pc' := 37) rfl rfl rfl (fun h1 => ?_) (fun h1 => ?_)
          · exact nxt
          · exact nomatch h1
        | none =>
          rw [hq] at hfind
          have hgm : gmF N (nI (nx l)) 24 = true := by
            cases hg2 : gmF N (nI (nx l)) 24 with
            | true => rfl
            | false =>
              have := (tk_parts (N := N) (x := nx l) (by omega) (by omega)).mpr ⟨hq, hg2⟩
              rw [this] at hb0; cases hb0
          rw [hgm] at hg
          refine rn_istore_n (pc' := 29) rfl rfl rfl (Nat.le_of_ble_eq_true rfl) rfl ?_
          refine rn_aload_n (pc' := 30) rfl rfl rfl ?_
          refine rn_iload_n (pc' := 31) rfl rfl rfl ?_
          refine rn_callV (pc' := 34) (as := [_]) rfl rfl rfl ⟨Nat.le_of_ble_eq_true rfl, rfl, rfl⟩ rfl (by first | assumption | decide | omega) (Nat.le_of_ble_eq_true rfl) (Nat.le_of_ble_eq_true rfl) rfl hfind (fun r1 M1 hz => ?_)
          obtain ⟨rfl, hm_⟩ := hz
          refine rn_mem hm_ ?_
          clear hm_
          refine rn_ifnonnull (t := 47) (pc' := 37) rfl rfl rfl (fun h1 => ?_) (fun h1 => ?_)
          · exact nxt
          · refine rn_aload_n (pc' := 38) rfl rfl rfl ?_
            refine rn_iload_n (pc' := 39) rfl rfl rfl ?_
            refine rn_callV (pc' := 42) (as := [_]) rfl rfl rfl ⟨Nat.le_of_ble_eq_true rfl, rfl, rfl⟩ rfl (by first | assumption | decide | omega) (Nat.le_of_ble_eq_true rfl) (Nat.le_of_ble_eq_true rfl) rfl hg (fun r3 M3 hz => ?_)
            obtain ⟨rfl, hm_⟩ := hz
            refine rn_mem hm_ ?_
            clear hm_
            refine rn_if_ne (t := 47) (pc' := 45) rfl rfl rfl (fun h2 => ?_) (fun h2 => ?_)
            · exact nxt
            · exact absurd h2 (by decide)
      refine rn_iload_n (pc' := 8) rfl rfl rfl ?_
      refine rn_sipush (pc' := 11) (v := 999) rfl rfl (by decide) ?_
      refine rn_ic_ge (t := 53) (pc' := 14) rfl rfl rfl (fun h1 => ?_) (fun h1 => ?_)
      · exact absurd hj9 h1
      · refine rn_iload_n (pc' := 15) rfl rfl rfl ?_
        refine rn_sipush (pc' := 18) (v := 999) rfl rfl (by decide) ?_
        refine rn_ic_lt (t := 25) (pc' := 21) rfl rfl rfl (fun h2 => ?_) (fun h2 => ?_)
        · refine rn_iload_n (pc' := 26) rfl rfl rfl ?_
          refine rn_iconst (pc' := 27) (v := 1) rfl rfl (by decide) ?_
          refine rn_iadd (pc' := 28) rfl rfl ?_
          refine rn_topI (y := nI (nx l)) (by unfold nx; first | (rw [if_neg (by have := hl9.mp h2; omega)]; exact nI_1 l) | (rw [if_pos (by by_cases q : l < 999; (· exact absurd (hl9.mpr q) h2); omega)]; rfl)) ?_
          exact go_
        · refine rn_iconst (pc' := 22) (v := 2) rfl rfl (by decide) ?_
          refine rn_goto (pc' := 28) rfl rfl ?_
          refine rn_topI (y := nI (nx l)) (by unfold nx; first | (rw [if_neg (by have := hl9.mp h2; omega)]; exact nI_1 l) | (rw [if_pos (by by_cases q : l < 999; (· exact absurd (hl9.mpr q) h2); omega)]; rfl)) ?_
          exact go_
  show Rn _ 47 (0, [some (vR 9 0), none, none], [], _) _
  refine rn_aload_n (pc' := 1) rfl rfl rfl ?_
  refine rn_getI (N := 1) (pc' := 4) rfl rfl rfl rfl (by decide) rfl (by first | assumption | decide | omega) ?_
  refine rn_topI hl ?_
  refine rn_istore_n (pc' := 5) rfl rfl rfl (Nat.le_of_ble_eq_true rfl) rfl ?_
  refine rn_iconst (pc' := 6) (v := 1) rfl rfl (by decide) ?_
  refine rn_istore_n (pc' := 7) rfl rfl rfl (Nat.le_of_ble_eq_true rfl) rfl ?_
  exact loop m 1 l (Nat.le_refl _) (by omega) hl2 hb hf
theorem pigeon : ∀ (n : Nat) (f x : Nat → Int32), (∀ i j, i < j → j ≤ n → ¬ x i = x j) → ¬ ∀ i, i ≤ n → ∃ k, k < n ∧ f k = x i := by
  intro n
  induction n with
  | zero =>
    intro f x _ h
    obtain ⟨k, hk, _⟩ := h 0 (Nat.le_refl _)
    omega
  | succ n ih =>
    intro f x hx h
    obtain ⟨k0, hk0, hf0⟩ := h (n + 1) (Nat.le_refl _)
    refine ih (fun k => if k = k0 then f n else f k) x (fun i j h1 h2 => hx i j h1 (by omega)) (fun i hi => ?_)
    obtain ⟨k, hk, hf⟩ := h i (by omega)
    have hkk : ¬ k = k0 := fun q => by
      subst q
      exact hx i (n + 1) (by omega) (Nat.le_refl _) (hf.symm.trans hf0)
    by_cases hkn : k = n
    · subst hkn
      exact ⟨k0, by omega, by simp only [if_true]; exact hf⟩
    · exact ⟨k, by omega, by simp only [if_neg hkk]; exact hf⟩
theorem nxi_val : ∀ (j l : Nat), l ≤ 999 → 1 ≤ j → j ≤ 500 → nxi j l = if l + j ≤ 999 then l + j else l + j - 998 := by
  intro j
  induction j with
  | zero => intro l _ h; omega
  | succ j ih =>
    intro l hl _ hj
    show nxi j (nx l) = _
    have h1 := nx_le (n := l)
    by_cases hj0 : j = 0
    · subst hj0
      show nx l = _
      unfold nx
      split <;> (split <;> omega)
    · rw [ih (nx l) h1.1 (by omega) (by omega)]
      unfold nx
      split <;> (split <;> (split <;> omega))
theorem least_of {p : Nat → Bool} : ∀ (n : Nat), (∃ i, i ≤ n ∧ p i = false) → ∃ m, m ≤ n ∧ (∀ i, i < m → p i = true) ∧ p m = false := by
  intro n
  induction n with
  | zero =>
    rintro ⟨i, h1, h2⟩
    obtain rfl : i = 0 := by omega
    exact ⟨0, Nat.le_refl _, fun i hi => absurd hi (Nat.not_lt_zero i), h2⟩
  | succ n ih =>
    rintro ⟨i, h1, h2⟩
    by_cases h : ∃ i, i ≤ n ∧ p i = false
    · obtain ⟨m, m1, m2⟩ := ih h
      exact ⟨m, by omega, m2⟩
    · have hi : i = n + 1 := by
        by_cases q : i ≤ n
        · exact absurd ⟨i, q, h2⟩ h
        · omega
      subst hi
      refine ⟨n + 1, Nat.le_refl _, fun j hj => ?_, h2⟩
      cases hp : p j with
      | true => rfl
      | false => exact absurd ⟨j, by omega, hp⟩ h
theorem free_pid (N : xM) {l : Nat} (hl : l ≤ 999) : ∃ m, m ≤ 48 ∧ (∀ i, i < m → tk N (nI (nxi (i + 1) l)) = true) ∧ tk N (nI (nxi (m + 1) l)) = false := by
  refine least_of (p := fun i => tk N (nI (nxi (i + 1) l))) 48 ?_
  by_cases h : ∃ i, i ≤ 48 ∧ tk N (nI (nxi (i + 1) l)) = false
  · exact h
  · exfalso
    refine pigeon 48 (fun k => if k < 24 then N.1 25 0 k else N.1 27 0 (k - 24)) (fun i => nI (nxi (i + 1) l)) (fun i j h1 h2 q => ?_) (fun i hi => ?_)
    · have e1 := nxi_val (i + 1) l hl (by omega) (by omega)
      have e2 := nxi_val (j + 1) l hl (by omega) (by omega)
      have := (nI_eq (a := nxi (i + 1) l) (b := nxi (j + 1) l) (by rw [e1]; split <;> omega) (by rw [e2]; split <;> omega)).mp q
      rw [e1, e2] at this
      split at this <;> (split at this <;> omega)
    · have ht : tk N (nI (nxi (i + 1) l)) = true := by
        cases hq : tk N (nI (nxi (i + 1) l)) with
        | true => rfl
        | false => exact absurd ⟨i, hi, hq⟩ h
      obtain ⟨j, j1, j2, j3⟩ := (tk_iff N _ 24).mp ht
      rcases j3 with j3 | j3
      · exact ⟨j, by omega, by simp only [if_pos j1]; exact j3⟩
      · refine ⟨j + 24, by omega, ?_⟩
        simp only [if_neg (show ¬ j + 24 < 24 by omega), Nat.add_sub_cancel]
        exact j3
