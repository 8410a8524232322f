theorem send_row (M : xM) (e : Nat) (s : Int32) (t : Nat) (ht : ¬ (t = 45 ∨ t = 46 ∨ t = 20)) : (f_send M e s).1 t = M.1 t := by
  have h1 : ¬ t = 45 := fun z => ht (Or.inl z)
  have h2 : ¬ t = 46 := fun z => ht (Or.inr (Or.inl z))
  have h3 : ¬ t = 20 := fun z => ht (Or.inr (Or.inr z))
  unfold f_send
  funext a b
  simp [mI, xu, h1, h2, h3]
theorem saF_row (g s : Int32) (t : Nat) (ht : ¬ (t = 45 ∨ t = 46 ∨ t = 20)) : ∀ (m i : Nat) (M : xM), (saF g s m i M).1 t = M.1 t := by
  intro m
  induction m with
  | zero => intro i M; rfl
  | succ m ih =>
    intro i M
    unfold saF
    rw [ih]
    split
    · exact send_row M i s t ht
    · rfl
theorem tell_row (M : xM) (g : Int32) (t : Nat) (ht : ¬ (t = 45 ∨ t = 46 ∨ t = 20)) : (f_tell M g).1 t = M.1 t := by
  unfold f_tell
  split
  · unfold f_sendAll
    rw [saF_row _ _ t ht, saF_row _ _ t ht]
  · rfl
theorem tlF_row (t : Nat) (ht : ¬ (t = 45 ∨ t = 46 ∨ t = 20)) : ∀ (m g : Nat) (M : xM), (tlF m g M).1 t = M.1 t := by
  intro m
  induction m with
  | zero => intro g M; rfl
  | succ m ih =>
    intro g M
    unfold tlF
    rw [ih]
    split
    · exact tell_row M _ t ht
    · rfl
theorem stp_congr {M N : xM} (h1 : M.1 25 = N.1 25) (h2 : M.1 27 = N.1 27) (h3 : M.1 28 = N.1 28) (g : Int32) : ∀ k, stpF M g k = stpF N g k := by
  intro k
  induction k with
  | zero => rfl
  | succ k ih => unfold stpF rpid rgrp rste; rw [ih, h1, h2, h3]
theorem tlF_skip : ∀ (j g m : Nat) (M : xM), (∀ x, g ≤ x → x < g + j → ¬ (M.1 49 0 x = 0 ∧ stpF M (nI x) 24 = true)) → tlF (j + m) g M = tlF m (g + j) M := by
  intro j
  induction j with
  | zero => intro g m M _; rw [Nat.zero_add, Nat.add_zero]
  | succ j ih =>
    intro g m M h
    have e1 : tlF (j + 1 + m) g M = tlF (j + m) (g + 1) M := by
      rw [show j + 1 + m = (j + m) + 1 by omega]
      show tlF (j + m) (g + 1) (if M.1 49 0 g = 0 ∧ orph M (nI g) = true then f_tell M (nI g) else M) = _
      split
      · rename_i hc
        have : f_tell M (nI g) = M := by
          unfold f_tell
          rw [if_neg (fun z => h g (Nat.le_refl _) (by omega) ⟨hc.1, z⟩)]
        rw [this]
      · rfl
    rw [e1, ih (g + 1) m M (fun x h1 h2 => h x (by omega) (by omega))]
    congr 1
    omega
theorem cnt_lt {p r : Nat → Bool} {j0 k : Nat} (h : ∀ j, j < k → p j = true → r j = true) (hj : j0 < k) (hr : r j0 = true) (hp : ¬ p j0 = true) : cnt p k + 1 ≤ cnt r k := by
  have h1 := cnt_add (p := p) (q := fun j => decide (j = j0)) (r := r) k h (fun j _ z => by rw [of_decide_eq_true z]; exact hr) (fun j _ z1 z2 => hp (by rw [← of_decide_eq_true z2]; exact z1))
  have h2 := cnt_pos (p := fun j => decide (j = j0)) hj (decide_eq_true rfl)
  omega
def wantd (cr : Nat → Bool) (R : xM) (g : Nat) : Prop := ∃ k, k < 24 ∧ cr k = true ∧ R.1 27 0 k = nI g
def abL (R : xM) (a k : Nat) : Bool := decide (0 < R.1 25 0 k) && decide (nI a < R.1 27 0 k)
def abC (cr : Nat → Bool) (R : xM) (a k : Nat) : Bool := cr k && decide (nI a < R.1 27 0 k)
theorem memB_congr {M N : xM} (h1 : M.1 25 = N.1 25) (h2 : M.1 27 = N.1 27) (g : Int32) : memB M g = memB N g := by
  funext k; unfold memB; rw [h1, h2]
theorem LG_congr {M N : xM} (h2 : M.1 27 = N.1 27) {cr : Nat → Bool} {a i : Nat} {v : Int32} (h : LG cr M a i v) : LG cr N a i v := by
  unfold LG at h ⊢; rw [← h2]; exact h
theorem c_sendToOrphaned {d n : Nat} {C R : xM} (cr : Nat → Bool) (h : Inv C R n) (hn : n + 48 ≤ 1224) (h14 : ∀ k, k < 24 → C.1 14 0 k = bI (cr k)) (hcr : ∀ k, k < 24 → cr k = true → ∃ g, 1 ≤ g ∧ g < 1000 ∧ R.1 27 0 k = nI g) (hw : ∀ g, 1 ≤ g → g < 1000 → ((R.1 49 0 g = 0 ∧ stpF R (nI g) 24 = true) ↔ wantd cr R g)) : Rn (d + 2) 34 (0, xen 34 [vR 9 0], [], C) (fun r C' => r = none ∧ ∃ n', n' ≤ n + 48 ∧ Inv C' (tlF 999 1 R) n') := by
  obtain ⟨T, hT⟩ : ∃ T, T = tlF 999 1 R := ⟨_, rfl⟩
  rw [← hT]
  have loop : ∀ (m i a n1 : Nat) (D M : xM) (v : Int32), i + m = 24 → a < 1000 → Inv D M n1 → (∀ t, ¬ (t = 45 ∨ t = 46 ∨ t = 20) → M.1 t = R.1 t) → n1 + 2 * cnt (abL R a) 24 ≤ n + 48 → i + cnt (abC cr R a) 24 ≤ 24 → tlF (999 - a) (a + 1) M = T → D.1 14 = C.1 14 → LG cr R a 24 v → Rn (d + 2) 34 (8, [some (vR 9 0), some (vI v), some (vI (nI i))], [], D) (fun r C' => r = none ∧ ∃ n', n' ≤ n + 48 ∧ Inv C' T n') := by
    intro m
    induction m with
    | zero =>
      intro i a n1 D M v hi ha hD hrow hn1 hci hq hD14 hv
      have hw' : ∀ x, 1 ≤ x → x < 1000 → ((M.1 49 0 x = 0 ∧ stpF M (nI x) 24 = true) ↔ wantd cr R x) := fun x h1 h2 => by
        rw [hrow 49 (by decide), stp_congr (hrow 25 (by decide)) (hrow 27 (by decide)) (hrow 28 (by decide))]
        exact hw x h1 h2
      obtain rfl : i = 24 := by omega
      rcases hv with ⟨q1, q2⟩ | ⟨g, k, q1, q2, q3, q4, q5, q6, q7⟩
      · have : tlF (999 - a) (a + 1) M = M := by
          have := tlF_skip (999 - a) (a + 1) 0 M (fun x hx1 hx2 z => by
            obtain ⟨k, hk1, hk2, hk3⟩ := (hw' x (by omega) (by omega)).mp z
            have := q2 k hk1 hk2 x (by omega) hk3
            omega)
          exact this
        rw [this] at hq
        rw [hq] at hD
        refine rn_iload_n (pc' := 9) rfl rfl rfl ?_
        refine rn_bipush (pc' := 11) (v := 24) rfl rfl (by decide) ?_
        refine rn_ic_ge (t := 52) (pc' := 14) rfl rfl rfl (fun h1 => ?_) (fun h1 => ?_)
        · refine rn_return rfl rfl ?_
          exact ⟨rfl, n1, by omega, hD⟩
        · exact absurd ((lt24 (by omega)).mp h1) (by omega)
      · have := cnt_pos (p := abC cr R a) q1 (by
          unfold abC
          rw [q2, q3, decide_eq_true ((nI_ltI (by omega) (by omega)).mpr q4)]
          rfl)
        omega
    | succ m ih =>
      intro i a n1 D M v hi ha hD hrow hn1 hci hq hD14 hv
      have hi24 : i < 24 := by omega
      have r25 := hrow 25 (by decide)
      have r27 := hrow 27 (by decide)
      have hw' : ∀ x, 1 ≤ x → x < 1000 → ((M.1 49 0 x = 0 ∧ stpF M (nI x) 24 = true) ↔ wantd cr R x) := fun x h1 h2 => by
        rw [hrow 49 (by decide), stp_congr r25 r27 (hrow 28 (by decide))]
        exact hw x h1 h2
      rcases hv with ⟨q1, q2⟩ | ⟨g, k, q1, q2, q3, q4, q5, q6, q7⟩
      · have : tlF (999 - a) (a + 1) M = M := by
          have := tlF_skip (999 - a) (a + 1) 0 M (fun x hx1 hx2 z => by
            obtain ⟨k, hk1, hk2, hk3⟩ := (hw' x (by omega) (by omega)).mp z
            have := q2 k hk1 hk2 x (by omega) hk3
            omega)
          exact this
        rw [this] at hq
        rw [hq] at hD
        subst q1
        refine rn_iload_n (pc' := 9) rfl rfl rfl ?_
        refine rn_bipush (pc' := 11) (v := 24) rfl rfl (by decide) ?_
        refine rn_ic_ge (t := 52) (pc' := 14) rfl rfl rfl (fun h1 => ?_) (fun h1 => ?_)
        · refine rn_return rfl rfl ?_
          exact ⟨rfl, n1, by omega, hD⟩
        · refine rn_iload_n (pc' := 15) rfl rfl rfl ?_
          refine rn_iconst (pc' := 16) (v := (-1)) rfl rfl (by decide) ?_
          refine rn_ic_eq (t := 52) (pc' := 19) rfl rfl rfl (fun h2 => ?_) (fun h2 => ?_)
          · refine rn_return rfl rfl ?_
            exact ⟨rfl, n1, by omega, hD⟩
          · exact absurd rfl h2
      · subst q6
        have hne : ¬ nI g = -1 := fun z => by
          have := nI_pos (n := g) (by omega)
          rw [z] at this; exact this (by decide)
        have hlt : ∀ x, nI g < x → nI a < x := fun x hx => Int32.lt_trans ((nI_ltI (by omega) (by omega)).mpr q4) hx
        have hgg : ¬ nI g < nI g := Int32.lt_irrefl
        have c1 : cnt (abC cr R g) 24 + 1 ≤ cnt (abC cr R a) 24 := by
          refine cnt_lt (j0 := k) (fun j _ z => ?_) q1 ?_ ?_
          · unfold abC at z ⊢
            rw [Bool.and_eq_true, decide_eq_true_eq] at z ⊢
            exact ⟨z.1, hlt _ z.2⟩
          · unfold abC
            rw [q2, q3, decide_eq_true ((nI_ltI (by omega) (by omega)).mpr q4)]
            rfl
          · unfold abC
            rw [q3, decide_eq_false hgg, Bool.and_false]
            decide
        have c2 : cnt (memB R (nI g)) 24 + cnt (abL R g) 24 ≤ cnt (abL R a) 24 := by
          refine cnt_add 24 (fun j _ z => ?_) (fun j _ z => ?_) (fun j _ z1 z2 => ?_)
          · unfold memB at z
            unfold abL
            rw [Bool.and_eq_true, decide_eq_true_eq, decide_eq_true_eq] at z ⊢
            rw [z.2]
            exact ⟨z.1, (nI_ltI (by omega) (by omega)).mpr q4⟩
          · unfold abL at z ⊢
            rw [Bool.and_eq_true, decide_eq_true_eq, decide_eq_true_eq] at z ⊢
            exact ⟨z.1, hlt _ z.2⟩
          · unfold memB at z1
            unfold abL at z2
            rw [Bool.and_eq_true, decide_eq_true_eq, decide_eq_true_eq] at z1 z2
            rw [z1.2] at z2
            exact hgg z2.2
        have hq2 : tlF (999 - g) (g + 1) (if M.1 49 0 g = 0 ∧ orph M (nI g) = true then f_tell M (nI g) else M) = T := by
          have e1 := tlF_skip (g - a - 1) (a + 1) (1000 - g) M (fun x hx1 hx2 z => by
            obtain ⟨k, hk1, hk2, hk3⟩ := (hw' x (by omega) (by omega)).mp z
            have := q7 k hk1 hk2 x (by omega) hk3 (by omega)
            omega)
          rw [show g - a - 1 + (1000 - g) = 999 - a by omega, show a + 1 + (g - a - 1) = g by omega, hq, show 1000 - g = (999 - g) + 1 by omega] at e1
          exact e1.symm
        have hwg := (hw' g (by omega) q5).mpr ⟨k, q1, q2, q3⟩
        have go_ : ∀ (E N : xM) (n2 : Nat), Inv E N n2 → (∀ t, ¬ (t = 45 ∨ t = 46 ∨ t = 20) → N.1 t = R.1 t) → n2 + 2 * cnt (abL R g) 24 ≤ n + 48 → tlF (999 - g) (g + 1) N = T → E.1 14 = C.1 14 → Rn (d + 2) 34 (40, [some (vR 9 0), some (vI (nI g)), some (vI (nI i))], [], E) (fun r C' => r = none ∧ ∃ n', n' ≤ n + 48 ∧ Inv C' T n') := by
          intro E N n2 hE hrowN hn2 hqN hE14
          have hl := c_least (d := d + 1) (C := E) (R := N) cr hE.1.1 q5 (fun k hk => by rw [hE14]; exact h14 k hk) (fun k hk hc => by rw [hrowN 27 (by decide)]; exact hcr k hk hc)
          refine rn_aload_n (pc' := 41) rfl rfl rfl ?_
          refine rn_iload_n (pc' := 42) rfl rfl rfl ?_
          refine rn_callV (pc' := 45) (as := [_]) rfl rfl rfl ⟨Nat.le_of_ble_eq_true rfl, rfl, rfl⟩ rfl (by first | assumption | decide | omega) (Nat.le_of_ble_eq_true rfl) (Nat.le_of_ble_eq_true rfl) rfl hl (fun r9 D9 hz9 => ?_)
          obtain ⟨⟨v9, rfl, hLG⟩, rfl⟩ := hz9
          refine rn_istore_n (pc' := 46) rfl rfl rfl (Nat.le_of_ble_eq_true rfl) rfl ?_
          refine rn_iinc (pc' := 49) rfl rfl rfl (nI_inc _) rfl (Nat.le_of_ble_eq_true rfl) rfl ?_
          refine rn_goto (pc' := 8) rfl rfl ?_
          exact ih (i + 1) g n2 _ N v9 (by omega) q5 hE hrowN hn2 (by omega) hqN hE14 (LG_congr (hrowN 27 (by decide)) hLG)
        have hio := c_isOrphaned (d := d + 1) hD (nI g)
        by_cases ho : orph M (nI g) = true
        · rw [if_pos ⟨hwg.1, ho⟩] at hq2
          have eft : f_tell M (nI g) = f_sendAll (f_sendAll M (nI g) 1) (nI g) 18 := by unfold f_tell; rw [if_pos hwg.2]
          rw [eft] at hq2
          have m1 : memB M (nI g) = memB R (nI g) := memB_congr r25 r27 _
          have m2 : memB (f_sendAll M (nI g) (nI 1)) (nI g) = memB R (nI g) := by
            refine memB_congr ?_ ?_ _
            · unfold f_sendAll; rw [saF_row _ _ 25 (by decide), r25]
            · unfold f_sendAll; rw [saF_row _ _ 27 (by decide), r27]
          have s1 := c_sendToGroup (d := d) (s := 1) (nI g) hD (by rw [m1]; omega) (by omega) (by omega)
          rw [m1] at s1
          have s2 : ∀ D9, Inv D9 (f_sendAll M (nI g) (nI 1)) (n1 + cnt (memB R (nI g)) 24) → _ := fun D9 hI => c_sendToGroup (d := d) (s := 18) (nI g) (C := D9) hI (by rw [m2]; omega) (by omega) (by omega)
          rw [m2] at s2
          rw [ho] at hio
          refine rn_iload_n (pc' := 9) rfl rfl rfl ?_
          refine rn_bipush (pc' := 11) (v := 24) rfl rfl (by decide) ?_
          refine rn_ic_ge (t := 52) (pc' := 14) rfl rfl rfl (fun h1 => ?_) (fun h1 => ?_)
          · first | exact absurd h2 hne | exact absurd ((lt24 (by omega)).mpr hi24) h1
          · refine rn_iload_n (pc' := 15) rfl rfl rfl ?_
            refine rn_iconst (pc' := 16) (v := (-1)) rfl rfl (by decide) ?_
            refine rn_ic_eq (t := 52) (pc' := 19) rfl rfl rfl (fun h2 => ?_) (fun h2 => ?_)
            · first | exact absurd h2 hne | exact absurd ((lt24 (by omega)).mpr hi24) h1
            · refine rn_aload_n (pc' := 20) rfl rfl rfl ?_
              refine rn_iload_n (pc' := 21) rfl rfl rfl ?_
              refine rn_callV (pc' := 24) (as := [_]) rfl rfl rfl ⟨Nat.le_of_ble_eq_true rfl, rfl, rfl⟩ rfl (by first | assumption | decide | omega) (Nat.le_of_ble_eq_true rfl) (Nat.le_of_ble_eq_true rfl) rfl hio (fun r3 M3 hz => ?_)
              obtain ⟨rfl, hm_⟩ := hz
              refine rn_mem hm_ ?_
              clear hm_
              refine rn_if_eq (t := 40) (pc' := 27) rfl rfl rfl (fun h3 => ?_) (fun h3 => ?_)
              · first | exact absurd h3 (by decide) | exact go_ D8 (f_sendAll (f_sendAll M (nI g) (nI 1)) (nI g) (nI 18)) _ hI8 (fun t ht => by unfold f_sendAll; rw [saF_row _ _ t ht, saF_row _ _ t ht, hrow t ht]) (by omega) hq2 (h148.trans (h149.trans hD14))
              · refine rn_aload_n (pc' := 28) rfl rfl rfl ?_
                refine rn_iload_n (pc' := 29) rfl rfl rfl ?_
                refine rn_iconst (pc' := 30) (v := 1) rfl rfl (by decide) ?_
                refine rn_callV (pc' := 33) (as := [_, _]) rfl rfl rfl ⟨Nat.le_of_ble_eq_true rfl, rfl, rfl⟩ rfl (by first | assumption | decide | omega) (Nat.le_of_ble_eq_true rfl) (Nat.le_of_ble_eq_true rfl) rfl s1 (fun r9 D9 hz9 => ?_)
                obtain ⟨rfl, hI, h149⟩ := hz9
                refine rn_aload_n (pc' := 34) rfl rfl rfl ?_
                refine rn_iload_n (pc' := 35) rfl rfl rfl ?_
                refine rn_bipush (pc' := 37) (v := 18) rfl rfl (by decide) ?_
                refine rn_callV (pc' := 40) (as := [_, _]) rfl rfl rfl ⟨Nat.le_of_ble_eq_true rfl, rfl, rfl⟩ rfl (by first | assumption | decide | omega) (Nat.le_of_ble_eq_true rfl) (Nat.le_of_ble_eq_true rfl) rfl (s2 D9 hI) (fun r8 D8 hz8 => ?_)
                obtain ⟨rfl, hI8, h148⟩ := hz8
                first | exact absurd h3 (by decide) | exact go_ D8 (f_sendAll (f_sendAll M (nI g) (nI 1)) (nI g) (nI 18)) _ hI8 (fun t ht => by unfold f_sendAll; rw [saF_row _ _ t ht, saF_row _ _ t ht, hrow t ht]) (by omega) hq2 (h148.trans (h149.trans hD14))
        · rw [if_neg (fun z => ho z.2)] at hq2
          have ho' : orph M (nI g) = false := by simpa using ho
          rw [ho'] at hio
          refine rn_iload_n (pc' := 9) rfl rfl rfl ?_
          refine rn_bipush (pc' := 11) (v := 24) rfl rfl (by decide) ?_
          refine rn_ic_ge (t := 52) (pc' := 14) rfl rfl rfl (fun h1 => ?_) (fun h1 => ?_)
          · first | exact absurd h2 hne | exact absurd ((lt24 (by omega)).mpr hi24) h1
          · refine rn_iload_n (pc' := 15) rfl rfl rfl ?_
            refine rn_iconst (pc' := 16) (v := (-1)) rfl rfl (by decide) ?_
            refine rn_ic_eq (t := 52) (pc' := 19) rfl rfl rfl (fun h2 => ?_) (fun h2 => ?_)
            · first | exact absurd h2 hne | exact absurd ((lt24 (by omega)).mpr hi24) h1
            · refine rn_aload_n (pc' := 20) rfl rfl rfl ?_
              refine rn_iload_n (pc' := 21) rfl rfl rfl ?_
              refine rn_callV (pc' := 24) (as := [_]) rfl rfl rfl ⟨Nat.le_of_ble_eq_true rfl, rfl, rfl⟩ rfl (by first | assumption | decide | omega) (Nat.le_of_ble_eq_true rfl) (Nat.le_of_ble_eq_true rfl) rfl hio (fun r3 M3 hz => ?_)
              obtain ⟨rfl, hm_⟩ := hz
              refine rn_mem hm_ ?_
              clear hm_
              refine rn_if_eq (t := 40) (pc' := 27) rfl rfl rfl (fun h3 => ?_) (fun h3 => ?_)
              · exact go_ D M n1 hD hrow (by omega) hq2 hD14
              · exact absurd rfl h3
  have hl := c_least (d := d + 1) (C := C) (R := R) (a := 0) cr h.1.1 (by omega) h14 hcr
  have k1 := cnt_le (abL R 0) 24
  have k2 := cnt_le (abC cr R 0) 24
  show Rn _ 34 (0, [some (vR 9 0), none, none], [], _) _
  refine rn_aload_n (pc' := 1) rfl rfl rfl ?_
  refine rn_iconst (pc' := 2) (v := 0) rfl rfl (by decide) ?_
  refine rn_callV (pc' := 5) (as := [_]) rfl rfl rfl ⟨Nat.le_of_ble_eq_true rfl, rfl, rfl⟩ rfl (by first | assumption | decide | omega) (Nat.le_of_ble_eq_true rfl) (Nat.le_of_ble_eq_true rfl) rfl hl (fun r9 D9 hz9 => ?_)
  obtain ⟨⟨v9, rfl, hLG⟩, rfl⟩ := hz9
  refine rn_istore_n (pc' := 6) rfl rfl rfl (Nat.le_of_ble_eq_true rfl) rfl ?_
  refine rn_iconst (pc' := 7) (v := 0) rfl rfl (by decide) ?_
  refine rn_istore_n (pc' := 8) rfl rfl rfl (Nat.le_of_ble_eq_true rfl) rfl ?_
  exact loop 24 0 0 n _ R v9 rfl (by omega) h (fun _ _ => rfl) (by omega) (by omega) hT.symm rfl hLG
