theorem xM_ext {M N : xM} (h1 : ∀ t e k, M.1 t e k = N.1 t e k) (h2 : M.2 = N.2) : M = N := Prod.ext (funext fun t => funext fun e => funext fun k => h1 t e k) h2
def mRow (M : xM) (t e : Nat) (f : Nat → Int32) : xM := (fun a b k => if a = t ∧ b = e then f k else M.1 a b k, M.2)
theorem mRow_put (M : xM) (t e k : Nat) (f : Nat → Int32) (v : Int32) : mI (mRow M t e f) t e k v = mRow M t e (upd f k v) := by
  refine xM_ext (fun a b c => ?_) rfl
  simp only [mI, xu, mRow, upd]
  by_cases h : a = t ∧ b = e
  · obtain ⟨rfl, rfl⟩ := h
    simp
  · rw [if_neg (fun q => h ⟨q.1, q.2.1⟩), if_neg h, if_neg h]
theorem mRow_id (M : xM) (t e : Nat) : mRow M t e (M.1 t e) = M := by
  refine xM_ext (fun a b c => ?_) rfl
  simp only [mRow]
  by_cases h : a = t ∧ b = e
  · obtain ⟨rfl, rfl⟩ := h; simp
  · rw [if_neg h]
theorem eoF_congr {M N : xM} (h : ∀ e, rpid M e = rpid N e) (p : Int32) : ∀ k, eoF M p k = eoF N p k := by
  intro k
  induction k with
  | zero => rfl
  | succ k ih => unfold eoF; rw [h k, ih]
theorem eo_congr {M N : xM} (h : ∀ e, rpid M e = rpid N e) (p : Int32) : eo M p = eo N p := eoF_congr h p 24
theorem orph_congr {M N : xM} (h1 : ∀ e, rpid M e = rpid N e) (h2 : ∀ e, rpar M e = rpar N e) (h3 : ∀ e, rgrp M e = rgrp N e) (h4 : ∀ e, rste M e = rste N e) (g : Int32) : orph M g = orph N g := by
  have e1 : ∀ k, oMem M g k = oMem N g k := fun k => by unfold oMem; rw [h1 k, h3 k, h4 k]
  have e2 : ∀ k, oOk M g k = oOk N g k := fun k => by
    unfold oOk
    rw [h2 k, eo_congr h1]
    cases eo N (rpar N k) with
    | none => rfl
    | some e => simp only [h3 e]
  have e3 : ∀ k, oAny M g k = oAny N g k := fun k => by
    induction k with
    | zero => rfl
    | succ k ih => unfold oAny; rw [ih, e1]
  have e4 : ∀ k, oAll M g k = oAll N g k := fun k => by
    induction k with
    | zero => rfl
    | succ k ih => unfold oAll; rw [ih, e1, e2]
  unfold orph
  rw [e3, e4]
def rok (M : xM) (n : Nat) : Prop := M.1 20 0 29 = nI n
theorem rok_send {M : xM} {n : Nat} (h : rok M n) (e : Nat) (s : Int32) : rok (f_send M e s) (n + 1) := by
  show M.1 20 0 29 + 1 = nI (n + 1)
  rw [show M.1 20 0 29 = nI n from h]
  exact nI_1 n
def saF (g s : Int32) : Nat → Nat → xM → xM
  | 0, _, M => M
  | m + 1, i, M => saF g s m (i + 1) (if 0 < rpid M i ∧ rgrp M i = g then f_send M i s else M)
def f_sendAll (M : xM) (g s : Int32) : xM := saF g s 24 0 M
theorem saF_rok (g s : Int32) : ∀ (m i n : Nat) (M : xM), rok M n → ∃ n', n ≤ n' ∧ n' ≤ n + m ∧ rok (saF g s m i M) n' := by
  intro m
  induction m with
  | zero => intro i n M h; exact ⟨n, Nat.le_refl _, by omega, h⟩
  | succ m ih =>
    intro i n M h
    unfold saF
    split
    · obtain ⟨n', h1, h2, h3⟩ := ih (i + 1) (n + 1) _ (rok_send h i s)
      exact ⟨n', by omega, by omega, h3⟩
    · obtain ⟨n', h1, h2, h3⟩ := ih (i + 1) n _ h
      exact ⟨n', by omega, by omega, h3⟩
theorem rok_inj {M : xM} {n n' : Nat} (h : rok M n) (h' : rok M n') (hn : n < 2 ^ 31) (hn' : n' < 2 ^ 31) : n = n' := (nI_eq hn hn').mp (h.symm.trans h')
def stpF (M : xM) (g : Int32) : Nat → Bool
  | 0 => false
  | k + 1 => stpF M g k || (decide (0 < rpid M k) && (decide (rgrp M k = g) && decide (rste M k = 3)))
def f_tell (M : xM) (g : Int32) : xM := if stpF M g 24 = true then f_sendAll (f_sendAll M g 1) g 18 else M
theorem r_tellOrphans {d n : Nat} (M : xM) (g : Int32) (hn : rok M n) (hn4 : n ≤ 4000) (h4 : ∃ n', rok (f_tell M g) n' ∧ n' ≤ 4000) : Rn (d + 1) 85 (0, xen 85 [vR 20 0, vI g], [], M) (fun r M' => r = none ∧ M' = f_tell M g) := by
  have inner : ∀ (s : Int32) (b : Bool) (Z : Option xV → xM → Prop) (m i n n' : Nat) (N : xM), i + m = 24 → rok N n → rok (saF g s m i N) n' → n ≤ 4000 → n' ≤ 4000 → Rn (d + 1) 85 (111, [some (vR 20 0), some (vI g), some (vI (bI b)), some (vI s), some (vI (nI 24))], [], saF g s m i N) Z → Rn (d + 1) 85 (70, [some (vR 20 0), some (vI g), some (vI (bI b)), some (vI s), some (vI (nI i))], [], N) Z := by
    intro s b Z m
    induction m with
    | zero =>
      intro i n n' N hi hn hn' hb hb' hk
      obtain rfl : i = 24 := by omega
      refine rn_iload (pc' := 72) rfl rfl rfl ?_
      refine rn_bipush (pc' := 74) (v := 24) rfl rfl (by decide) ?_
      refine rn_ic_ge (t := 111) (pc' := 77) rfl rfl rfl (fun h1 => ?_) (fun h1 => ?_)
      · exact hk
      · exact absurd ((lt24 (by omega)).mp h1) (by omega)
    | succ m ih =>
      intro i n n' N hi hn hn' hb hb' hk
      have he : i < 24 := by omega
      unfold saF at hn' hk
      have next : ∀ N', N' = (if 0 < rpid N i ∧ rgrp N i = g then f_send N i s else N) → Rn (d + 1) 85 (105, [some (vR 20 0), some (vI g), some (vI (bI b)), some (vI s), some (vI (nI i))], [], N') Z := by
        intro N' hN'
        subst hN'
        obtain ⟨n1, hn1, hle⟩ : ∃ n1, rok (if 0 < rpid N i ∧ rgrp N i = g then f_send N i s else N) n1 ∧ n1 ≤ n + 1 := by
          split
          · exact ⟨n + 1, rok_send hn i s, Nat.le_refl _⟩
          · exact ⟨n, hn, by omega⟩
        obtain ⟨n2, q1, q2, q3⟩ := saF_rok g s m (i + 1) n1 _ hn1
        have := rok_inj q3 hn' (by omega) (by omega)
        refine rn_iinc (pc' := 108) rfl rfl rfl (nI_inc _) rfl (Nat.le_of_ble_eq_true rfl) rfl ?_
        refine rn_goto (pc' := 70) rfl rfl ?_
        exact ih (i + 1) n1 n' _ (by omega) hn1 hn' (by omega) hb' hk
      have hlt : 0 < rpid N i → rgrp N i = g → n < 4000 := fun q1 q2 => by
        rw [if_pos ⟨q1, q2⟩] at hn'
        obtain ⟨n2, q1, q2, q3⟩ := saF_rok g s m (i + 1) (n + 1) _ (rok_send hn i s)
        have := rok_inj q3 hn' (by omega) (by omega)
        omega
      refine rn_iload (pc' := 72) rfl rfl rfl ?_
      refine rn_bipush (pc' := 74) (v := 24) rfl rfl (by decide) ?_
      refine rn_ic_ge (t := 111) (pc' := 77) rfl rfl rfl (fun h1 => ?_) (fun h1 => ?_)
      · exact absurd ((lt24 (by omega)).mpr he) h1
      · refine rn_aload_n (pc' := 78) rfl rfl rfl ?_
        refine rn_getF (N := 1) (t' := 25) (pc' := 81) rfl rfl rfl rfl rfl (by first | assumption | decide | omega) ?_
        refine rn_iload (pc' := 83) rfl rfl rfl ?_
        refine rn_iald (N := 1) (K := 24) (pc' := 84) rfl rfl ⟨rfl, rfl⟩ rfl (by first | assumption | decide | omega) rfl (by decide) rfl (by first | assumption | decide | omega) ?_
        refine rn_if_le (t := 105) (pc' := 87) rfl rfl rfl (fun h2 => ?_) (fun h2 => ?_)
        · refine next _ ?_
          first | (rw [if_pos ⟨h2, h3⟩]; done) | rw [if_neg (fun q => absurd q.2 h3)] | rw [if_neg (fun q => absurd q.1 h2)]
        · refine rn_aload_n (pc' := 88) rfl rfl rfl ?_
          refine rn_getF (N := 1) (t' := 27) (pc' := 91) rfl rfl rfl rfl rfl (by first | assumption | decide | omega) ?_
          refine rn_iload (pc' := 93) rfl rfl rfl ?_
          refine rn_iald (N := 1) (K := 24) (pc' := 94) rfl rfl ⟨rfl, rfl⟩ rfl (by first | assumption | decide | omega) rfl (by decide) rfl (by first | assumption | decide | omega) ?_
          refine rn_iload_n (pc' := 95) rfl rfl rfl ?_
          refine rn_ic_ne (t := 105) (pc' := 98) rfl rfl rfl (fun h3 => ?_) (fun h3 => ?_)
          · refine next _ ?_
            first | (rw [if_pos ⟨h2, h3⟩]; done) | rw [if_neg (fun q => absurd q.2 h3)] | rw [if_neg (fun q => absurd q.1 h2)]
          · refine rn_aload_n (pc' := 99) rfl rfl rfl ?_
            refine rn_iload (pc' := 101) rfl rfl rfl ?_
            refine rn_iload_n (pc' := 102) rfl rfl rfl ?_
            refine rn_callV (pc' := 105) (as := [_, _]) rfl rfl rfl ⟨Nat.le_of_ble_eq_true rfl, rfl, rfl⟩ rfl (by first | assumption | decide | omega) (Nat.le_of_ble_eq_true rfl) (Nat.le_of_ble_eq_true rfl) rfl (r_send N s he hn (hlt h2 h3)) (fun r4 M4 hz => ?_)
            obtain ⟨rfl, hm_⟩ := hz
            refine rn_mem hm_ ?_
            clear hm_
            refine next _ ?_
            first | (rw [if_pos ⟨h2, h3⟩]; done) | rw [if_neg (fun q => absurd q.2 h3)] | rw [if_neg (fun q => absurd q.1 h2)]
  have stage2 : ∀ (x4 : Option xV), Rn (d + 1) 85 (55, [some (vR 20 0), some (vI g), some (vI (bI (stpF M g 24))), some (vI (nI 24)), x4], [], M) (fun r M' => r = none ∧ M' = f_tell M g) := by
    intro x4
    obtain ⟨n2, f1, f2⟩ := h4
    by_cases hs : stpF M g 24 = true
    · rw [hs]
      have ef : f_tell M g = f_sendAll (f_sendAll M g 1) g 18 := by unfold f_tell; rw [if_pos hs]
      rw [ef] at f1 ⊢
      obtain ⟨n1, a1, a2, a3⟩ := saF_rok g 1 24 0 n M hn
      obtain ⟨n3, b1, b2, b3⟩ := saF_rok g 18 24 0 n1 _ a3
      have := rok_inj b3 f1 (by omega) (by omega)
      have last : Rn (d + 1) 85 (111, [some (vR 20 0), some (vI g), some (vI (bI true)), some (vI 18), some (vI (nI 24))], [], saF g 18 24 0 (saF g 1 24 0 M)) (fun r M' => r = none ∧ M' = f_sendAll (f_sendAll M g 1) g 18) := by
        refine rn_iinc (pc' := 114) rfl rfl rfl (show (18 : Int32) + Int32.ofInt 17 = 35 by decide) rfl (Nat.le_of_ble_eq_true rfl) rfl ?_
        refine rn_goto (pc' := 57) rfl rfl ?_
        refine rn_iload_n (pc' := 58) rfl rfl rfl ?_
        refine rn_bipush (pc' := 60) (v := 19) rfl rfl (by decide) ?_
        refine rn_ic_ge (t := 117) (pc' := 63) rfl rfl rfl (fun h1 => ?_) (fun h1 => ?_)
        · refine rn_return rfl rfl ?_
          exact ⟨rfl, rfl⟩
        · exact absurd h1 (by decide)
      have mid : Rn (d + 1) 85 (111, [some (vR 20 0), some (vI g), some (vI (bI true)), some (vI 1), some (vI (nI 24))], [], saF g 1 24 0 M) (fun r M' => r = none ∧ M' = f_sendAll (f_sendAll M g 1) g 18) := by
        refine rn_iinc (pc' := 114) rfl rfl rfl (show (1 : Int32) + Int32.ofInt 17 = 18 by decide) rfl (Nat.le_of_ble_eq_true rfl) rfl ?_
        refine rn_goto (pc' := 57) rfl rfl ?_
        refine rn_iload_n (pc' := 58) rfl rfl rfl ?_
        refine rn_bipush (pc' := 60) (v := 19) rfl rfl (by decide) ?_
        refine rn_ic_ge (t := 117) (pc' := 63) rfl rfl rfl (fun h1 => ?_) (fun h1 => ?_)
        · first | exact absurd h2 (by decide) | exact absurd (show (18 : Int32) < 19 by decide) h1
        · refine rn_iload_n (pc' := 64) rfl rfl rfl ?_
          refine rn_if_eq (t := 117) (pc' := 67) rfl rfl rfl (fun h2 => ?_) (fun h2 => ?_)
          · first | exact absurd h2 (by decide) | exact absurd (show (18 : Int32) < 19 by decide) h1
          · refine rn_iconst (pc' := 68) (v := 0) rfl rfl (by decide) ?_
            refine rn_istore (pc' := 70) rfl rfl rfl (Nat.le_of_ble_eq_true rfl) rfl ?_
            exact inner 18 true _ 24 0 n1 n2 _ rfl a3 f1 (by omega) f2 last
      refine rn_iconst (pc' := 56) (v := 1) rfl rfl (by decide) ?_
      refine rn_istore_n (pc' := 57) rfl rfl rfl (Nat.le_of_ble_eq_true rfl) rfl ?_
      refine rn_iload_n (pc' := 58) rfl rfl rfl ?_
      refine rn_bipush (pc' := 60) (v := 19) rfl rfl (by decide) ?_
      refine rn_ic_ge (t := 117) (pc' := 63) rfl rfl rfl (fun h1 => ?_) (fun h1 => ?_)
      · first | exact absurd h2 (by decide) | exact absurd (show (1 : Int32) < 19 by decide) h1
      · refine rn_iload_n (pc' := 64) rfl rfl rfl ?_
        refine rn_if_eq (t := 117) (pc' := 67) rfl rfl rfl (fun h2 => ?_) (fun h2 => ?_)
        · first | exact absurd h2 (by decide) | exact absurd (show (1 : Int32) < 19 by decide) h1
        · refine rn_iconst (pc' := 68) (v := 0) rfl rfl (by decide) ?_
          refine rn_istore (pc' := 70) rfl rfl rfl (Nat.le_of_ble_eq_true rfl) rfl ?_
          exact inner 1 true _ 24 0 n n1 _ rfl hn a3 hn4 (by omega) mid
    · have hs' : stpF M g 24 = false := by simpa using hs
      rw [hs']
      refine rn_iconst (pc' := 56) (v := 1) rfl rfl (by decide) ?_
      refine rn_istore_n (pc' := 57) rfl rfl rfl (Nat.le_of_ble_eq_true rfl) rfl ?_
      refine rn_iload_n (pc' := 58) rfl rfl rfl ?_
      refine rn_bipush (pc' := 60) (v := 19) rfl rfl (by decide) ?_
      refine rn_ic_ge (t := 117) (pc' := 63) rfl rfl rfl (fun h1 => ?_) (fun h1 => ?_)
      · refine rn_return rfl rfl ?_
        exact ⟨rfl, by unfold f_tell; rw [if_neg hs]⟩
      · refine rn_iload_n (pc' := 64) rfl rfl rfl ?_
        refine rn_if_eq (t := 117) (pc' := 67) rfl rfl rfl (fun h2 => ?_) (fun h2 => ?_)
        · refine rn_return rfl rfl ?_
          exact ⟨rfl, by unfold f_tell; rw [if_neg hs]⟩
        · exact absurd rfl h2
  have loop : ∀ m i : Nat, i + m = 24 → Rn (d + 1) 85 (4, [some (vR 20 0), some (vI g), some (vI (bI (stpF M g i))), some (vI (nI i)), none], [], M) (fun r M' => r = none ∧ M' = f_tell M g) := by
    intro m
    induction m with
    | zero =>
      intro i hi
      obtain rfl : i = 24 := by omega
      refine rn_iload_n (pc' := 5) rfl rfl rfl ?_
      refine rn_bipush (pc' := 7) (v := 24) rfl rfl (by decide) ?_
      refine rn_ic_ge (t := 55) (pc' := 10) rfl rfl rfl (fun h1 => ?_) (fun h1 => ?_)
      · exact stage2 none
      · exact absurd ((lt24 (by omega)).mp h1) (by omega)
    | succ m ih =>
      intro i hi
      have he : i < 24 := by omega
      have key : ∀ x, x = bI (stpF M g (i + 1)) → Rn (d + 1) 85 (48, [some (vR 20 0), some (vI g), some (vI (bI (stpF M g i))), some (vI (nI i)), none], [vI x], M) (fun r M' => r = none ∧ M' = f_tell M g) := by
        intro x hx
        subst hx
        refine rn_istore_n (pc' := 49) rfl rfl rfl (Nat.le_of_ble_eq_true rfl) rfl ?_
        refine rn_iinc (pc' := 52) rfl rfl rfl (nI_inc _) rfl (Nat.le_of_ble_eq_true rfl) rfl ?_
        refine rn_goto (pc' := 4) rfl rfl ?_
        exact ih (i + 1) (by omega)
      refine rn_iload_n (pc' := 5) rfl rfl rfl ?_
      refine rn_bipush (pc' := 7) (v := 24) rfl rfl (by decide) ?_
      refine rn_ic_ge (t := 55) (pc' := 10) rfl rfl rfl (fun h1 => ?_) (fun h1 => ?_)
      · exact absurd ((lt24 (by omega)).mpr he) h1
      · refine rn_iload_n (pc' := 11) rfl rfl rfl ?_
        refine rn_if_ne (t := 43) (pc' := 14) rfl rfl rfl (fun h2 => ?_) (fun h2 => ?_)
        · refine rn_iconst (pc' := 44) (v := 1) rfl rfl (by decide) ?_
          refine rn_goto (pc' := 48) rfl rfl ?_
          refine key _ ?_
          simp only [bI_0, Bool.not_eq_false] at h2
          first | (simp [stpF, rpid, rgrp, rste, bI, *]; done) | simp_all [stpF, rpid, rgrp, rste, bI]
        · refine rn_aload_n (pc' := 15) rfl rfl rfl ?_
          refine rn_getF (N := 1) (t' := 25) (pc' := 18) rfl rfl rfl rfl rfl (by first | assumption | decide | omega) ?_
          refine rn_iload_n (pc' := 19) rfl rfl rfl ?_
          refine rn_iald (N := 1) (K := 24) (pc' := 20) rfl rfl ⟨rfl, rfl⟩ rfl (by first | assumption | decide | omega) rfl (by decide) rfl (by first | assumption | decide | omega) ?_
          refine rn_if_le (t := 47) (pc' := 23) rfl rfl rfl (fun h3 => ?_) (fun h3 => ?_)
          · refine rn_iconst (pc' := 48) (v := 0) rfl rfl (by decide) ?_
            refine key _ ?_
            simp only [bI_0, Bool.not_eq_false] at h2
            first | (simp [stpF, rpid, rgrp, rste, bI, *]; done) | simp_all [stpF, rpid, rgrp, rste, bI]
          · refine rn_aload_n (pc' := 24) rfl rfl rfl ?_
            refine rn_getF (N := 1) (t' := 27) (pc' := 27) rfl rfl rfl rfl rfl (by first | assumption | decide | omega) ?_
            refine rn_iload_n (pc' := 28) rfl rfl rfl ?_
            refine rn_iald (N := 1) (K := 24) (pc' := 29) rfl rfl ⟨rfl, rfl⟩ rfl (by first | assumption | decide | omega) rfl (by decide) rfl (by first | assumption | decide | omega) ?_
            refine rn_iload_n (pc' := 30) rfl rfl rfl ?_
            refine rn_ic_ne (t := 47) (pc' := 33) rfl rfl rfl (fun h4 => ?_) (fun h4 => ?_)
            · refine rn_iconst (pc' := 48) (v := 0) rfl rfl (by decide) ?_
              refine key _ ?_
              simp only [bI_0, Bool.not_eq_false] at h2
              first | (simp [stpF, rpid, rgrp, rste, bI, *]; done) | simp_all [stpF, rpid, rgrp, rste, bI]
            · refine rn_aload_n (pc' := 34) rfl rfl rfl ?_
              refine rn_getF (N := 1) (t' := 28) (pc' := 37) rfl rfl rfl rfl rfl (by first | assumption | decide | omega) ?_
              refine rn_iload_n (pc' := 38) rfl rfl rfl ?_
              refine rn_iald (N := 1) (K := 24) (pc' := 39) rfl rfl ⟨rfl, rfl⟩ rfl (by first | assumption | decide | omega) rfl (by decide) rfl (by first | assumption | decide | omega) ?_
              refine rn_iconst (pc' := 40) (v := 3) rfl rfl (by decide) ?_
              refine rn_ic_ne (t := 47) (pc' := 43) rfl rfl rfl (fun h5 => ?_) (fun h5 => ?_)
              · refine rn_iconst (pc' := 48) (v := 0) rfl rfl (by decide) ?_
                refine key _ ?_
                simp only [bI_0, Bool.not_eq_false] at h2
                first | (simp [stpF, rpid, rgrp, rste, bI, *]; done) | simp_all [stpF, rpid, rgrp, rste, bI]
              · refine rn_iconst (pc' := 44) (v := 1) rfl rfl (by decide) ?_
                refine rn_goto (pc' := 48) rfl rfl ?_
                refine key _ ?_
                simp only [bI_0, Bool.not_eq_false] at h2
                first | (simp [stpF, rpid, rgrp, rste, bI, *]; done) | simp_all [stpF, rpid, rgrp, rste, bI]
  show Rn _ 85 (0, [some (vR 20 0), some (vI g), none, none, none], [], _) _
  refine rn_iconst (pc' := 1) (v := 0) rfl rfl (by decide) ?_
  refine rn_istore_n (pc' := 2) rfl rfl rfl (Nat.le_of_ble_eq_true rfl) rfl ?_
  refine rn_iconst (pc' := 3) (v := 0) rfl rfl (by decide) ?_
  refine rn_istore_n (pc' := 4) rfl rfl rfl (Nat.le_of_ble_eq_true rfl) rfl ?_
  exact loop 24 0 (by omega)
def f_panic (M : xM) : xM := mI (mI (mRow (mI M 20 0 39 (M.1 20 0 39 + 1)) 25 0 (fun k => if k < 24 then 0 else M.1 25 0 k)) 20 0 29 0) 20 0 30 0
theorem r_panic {d : Nat} (M : xM) : Rn d 86 (0, xen 86 [vR 20 0], [], M) (fun r M' => r = none ∧ M' = f_panic M) := by
  have loop : ∀ m i : Nat, i + m = 24 → Rn d 86 (12, [some (vR 20 0), some (vI (nI i))], [], mRow (mI M 20 0 39 (M.1 20 0 39 + 1)) 25 0 (fun k => if k < i then 0 else M.1 25 0 k)) (fun r M' => r = none ∧ M' = f_panic M) := by
    intro m
    induction m with
    | zero =>
      intro i hi
      obtain rfl : i = 24 := by omega
      refine rn_iload_n (pc' := 13) rfl rfl rfl ?_
      refine rn_bipush (pc' := 15) (v := 24) rfl rfl (by decide) ?_
      refine rn_ic_ge (t := 31) (pc' := 18) rfl rfl rfl (fun h1 => ?_) (fun h1 => ?_)
      · refine rn_aload_n (pc' := 32) rfl rfl rfl ?_
        refine rn_iconst (pc' := 33) (v := 0) rfl rfl (by decide) ?_
        refine rn_putI (N := 1) (pc' := 36) rfl rfl rfl rfl rfl (by first | assumption | decide | omega) ?_
        refine rn_aload_n (pc' := 37) rfl rfl rfl ?_
        refine rn_iconst (pc' := 38) (v := 0) rfl rfl (by decide) ?_
        refine rn_putI (N := 1) (pc' := 41) rfl rfl rfl rfl rfl (by first | assumption | decide | omega) ?_
        refine rn_return rfl rfl ?_
        exact ⟨rfl, rfl⟩
      · exact absurd ((lt24 (by omega)).mp h1) (by omega)
    | succ m ih =>
      intro i hi
      have he : i < 24 := by omega
      have := ih (i + 1) (by omega)
      have e1 : upd (fun k => if k < i then 0 else M.1 25 0 k) i 0 = (fun k => if k < i + 1 then 0 else M.1 25 0 k) := by
        funext k
        unfold upd
        by_cases hk : k = i
        · subst hk; simp
        · by_cases hk2 : k < i
          · simp only [if_neg hk, if_pos hk2, if_pos (show k < i + 1 by omega)]
          · simp only [if_neg hk, if_neg hk2, if_neg (show ¬ k < i + 1 by omega)]
      refine rn_iload_n (pc' := 13) rfl rfl rfl ?_
      refine rn_bipush (pc' := 15) (v := 24) rfl rfl (by decide) ?_
      refine rn_ic_ge (t := 31) (pc' := 18) rfl rfl rfl (fun h1 => ?_) (fun h1 => ?_)
      · exact absurd ((lt24 (by omega)).mpr he) h1
      · refine rn_aload_n (pc' := 19) rfl rfl rfl ?_
        refine rn_getF (N := 1) (t' := 25) (pc' := 22) rfl rfl rfl rfl rfl (by first | assumption | decide | omega) ?_
        refine rn_iload_n (pc' := 23) rfl rfl rfl ?_
        refine rn_iconst (pc' := 24) (v := 0) rfl rfl (by decide) ?_
        refine rn_iast (N := 1) (K := 24) (pc' := 25) rfl rfl ⟨rfl, rfl⟩ rfl (by first | assumption | decide | omega) rfl (by decide) rfl (by first | assumption | decide | omega) ?_
        rw [mRow_put, e1]
        refine rn_iinc (pc' := 28) rfl rfl rfl (nI_inc _) rfl (Nat.le_of_ble_eq_true rfl) rfl ?_
        refine rn_goto (pc' := 12) rfl rfl ?_
        exact this
  show Rn _ 86 (0, [some (vR 20 0), none], [], _) _
  refine rn_aload_n (pc' := 1) rfl rfl rfl ?_
  refine rn_dupA (pc' := 2) rfl rfl ?_
  refine rn_getI (N := 1) (pc' := 5) rfl rfl rfl rfl (by decide) rfl (by first | assumption | decide | omega) ?_
  refine rn_iconst (pc' := 6) (v := 1) rfl rfl (by decide) ?_
  refine rn_iadd (pc' := 7) rfl rfl ?_
  refine rn_putI (N := 1) (pc' := 10) rfl rfl rfl rfl rfl (by first | assumption | decide | omega) ?_
  refine rn_iconst (pc' := 11) (v := 0) rfl rfl (by decide) ?_
  refine rn_istore_n (pc' := 12) rfl rfl rfl (Nat.le_of_ble_eq_true rfl) rfl ?_
  skip
  have := loop 24 0 rfl
  have e1 : mRow (mI M 20 0 39 (M.1 20 0 39 + 1)) 25 0 (fun k => if k < 0 then 0 else M.1 25 0 k) = mI M 20 0 39 (M.1 20 0 39 + 1) := by
    have e2 : (fun k => if k < 0 then 0 else M.1 25 0 k) = (mI M 20 0 39 (M.1 20 0 39 + 1)).1 25 0 := by
      funext k; rw [if_neg (Nat.not_lt_zero k)]; rfl
    rw [e2, mRow_id]
  rw [e1] at this
  exact this
theorem lt1000 {i : Nat} (h : i < 2 ^ 31) : (nI i < 1000) ↔ i < 1000 := nI_ltI h (by decide)
def woF (M : xM) : Nat → Nat → Int32
  | 0 => fun g => if 1 ≤ g ∧ g < 1000 then 1 else M.1 49 0 g
  | k + 1 => if 0 < rpid M k then upd (woF M k) (rgrp M k).toNatClampNeg (bI (orph M (rgrp M k))) else woF M k
def acF (M : xM) (e : Nat) : Nat → Bool
  | 0 => false
  | k + 1 => acF M e k || (decide (0 < rpid M k) && decide (rpar M k = rpid M e))
def rpF (M : xM) (e i : Nat) : Nat → Int32 := fun k => if k < i ∧ 0 < rpid M k ∧ rpar M k = rpid M e then 1 else rpar M k
def f_endA (M : xM) : xM := mRow M 49 0 (woF M 24)
def f_endB (M : xM) (e : Nat) : xM := if acF M e 24 = true then f_wake (mRow M 26 0 (rpF M e 24)) 1 else mRow M 26 0 (rpF M e 24)
def f_endC (M : xM) (e : Nat) (how : Int32) : xM := mI (mI (mJ (mI M 28 0 e 4) 38 0 e 0) 33 0 e 0) 39 0 e how
def upD (M : xM) (u : Option Nat) : Bool := match u with
  | none => false
  | some k => decide (M.1 32 0 (21 * k + 17) = 1)
def f_endD (M : xM) (e : Nat) (u : Option Nat) : xM := if upD (f_wake M (rpar M e)) u = true then mI (f_wake M (rpar M e)) 25 0 e 0 else f_wake M (rpar M e)
def f_endE (M : xM) (e : Nat) : xM := f_sendTo M (rpar M e) 17
def tlF : Nat → Nat → xM → xM
  | 0, _, M => M
  | m + 1, g, M => tlF m (g + 1) (if M.1 49 0 g = 0 ∧ orph M (nI g) = true then f_tell M (nI g) else M)
def f_end0 (M : xM) (e : Nat) (how : Int32) : xM := f_endE (f_endD (f_endC (f_endB (f_endA M) e) e how) e (eo (f_endB (f_endA M) e) (rpar (f_endB (f_endA M) e) e))) e
def f_end (M : xM) (e : Nat) (how : Int32) : xM := if rpid M e = 1 then f_panic (mI M 20 0 36 (M.1 20 0 36 + 1)) else tlF 999 1 (f_end0 (mI M 20 0 36 (M.1 20 0 36 + 1)) e how)
theorem tell_rok {M : xM} {n : Nat} (g : Int32) (h : rok M n) : ∃ n', n ≤ n' ∧ n' ≤ n + 48 ∧ rok (f_tell M g) n' := by
  unfold f_tell
  split
  · obtain ⟨n1, a1, a2, a3⟩ := saF_rok g 1 24 0 n M h
    obtain ⟨n3, b1, b2, b3⟩ := saF_rok g 18 24 0 n1 _ a3
    exact ⟨n3, by omega, by omega, b3⟩
  · exact ⟨n, by omega, by omega, h⟩
theorem tlF_rok : ∀ (m g n : Nat) (M : xM), rok M n → ∃ n', n ≤ n' ∧ n' ≤ n + 48 * m ∧ rok (tlF m g M) n' := by
  intro m
  induction m with
  | zero => intro g n M h; exact ⟨n, by omega, by omega, h⟩
  | succ m ih =>
    intro g n M h
    unfold tlF
    split
    · obtain ⟨n1, a1, a2, a3⟩ := tell_rok (nI g) h
      obtain ⟨n2, b1, b2, b3⟩ := ih (g + 1) n1 _ a3
      exact ⟨n2, by omega, by omega, b3⟩
    · obtain ⟨n2, b1, b2, b3⟩ := ih (g + 1) n _ h
      exact ⟨n2, by omega, by omega, b3⟩
theorem ix21 (u s : Nat) : (21 : Int32) * nI u + nI s = nI (21 * u + s) := by
  show nI 21 * nI u + nI s = _
  rw [pk_mul, nI_add]
theorem r_endT {d : Nat} (e : Nat) (how x3 x4 : Int32) : ∀ (m g n : Nat) (M : xM), g + m = 1000 → 1 ≤ g → rok M n → n ≤ 4000 → (∃ n', rok (tlF m g M) n' ∧ n' ≤ 4000) → Rn (d + 2) 84 (248, [some (vR 20 0), some (vI (nI e)), some (vI how), some (vI x3), some (vI x4), some (vI (nI g))], [], M) (fun r M' => r = none ∧ M' = tlF m g M) := by
  intro m
  induction m with
  | zero =>
    intro g n M hg hg1 hn hn4 hf
    obtain rfl : g = 1000 := by omega
    refine rn_iload (pc' := 250) rfl rfl rfl ?_
    refine rn_sipush (pc' := 253) (v := 1000) rfl rfl (by decide) ?_
    refine rn_ic_ge (t := 287) (pc' := 256) rfl rfl rfl (fun h1 => ?_) (fun h1 => ?_)
    · refine rn_return rfl rfl ?_
      exact ⟨rfl, rfl⟩
    · exact absurd ((lt1000 (by omega)).mp h1) (by omega)
  | succ m ih =>
    intro g n M hg hg1 hn hn4 hf
    have he : g < 1000 := by omega
    unfold tlF at hf ⊢
    have next : ∀ N, N = (if M.1 49 0 g = 0 ∧ orph M (nI g) = true then f_tell M (nI g) else M) → Rn (d + 2) 84 (281, [some (vR 20 0), some (vI (nI e)), some (vI how), some (vI x3), some (vI x4), some (vI (nI g))], [], N) (fun r M' => r = none ∧ M' = tlF m (g + 1) (if M.1 49 0 g = 0 ∧ orph M (nI g) = true then f_tell M (nI g) else M)) := by
      intro N hN
      subst hN
      obtain ⟨n', f1, f2⟩ := hf
      obtain ⟨n1, q1, q2⟩ : ∃ n1, rok (if M.1 49 0 g = 0 ∧ orph M (nI g) = true then f_tell M (nI g) else M) n1 ∧ n1 ≤ n + 48 := by
        split
        · obtain ⟨n1, a1, a2, a3⟩ := tell_rok (nI g) hn
          exact ⟨n1, a3, a2⟩
        · exact ⟨n, hn, by omega⟩
      obtain ⟨n2, b1, b2, b3⟩ := tlF_rok m (g + 1) n1 _ q1
      have := rok_inj b3 f1 (by omega) (by omega)
      refine rn_iinc (pc' := 284) rfl rfl rfl (nI_inc _) rfl (Nat.le_of_ble_eq_true rfl) rfl ?_
      refine rn_goto (pc' := 248) rfl rfl ?_
      exact ih (g + 1) n1 _ (by omega) (by omega) q1 (by omega) ⟨n', f1, f2⟩
    have hlt : M.1 49 0 g = 0 ∧ orph M (nI g) = true → ∃ n', rok (f_tell M (nI g)) n' ∧ n' ≤ 4000 := fun hc => by
      rw [if_pos hc] at hf
      obtain ⟨n', f1, f2⟩ := hf
      obtain ⟨n1, a1, a2, a3⟩ := tell_rok (nI g) hn
      obtain ⟨n2, b1, b2, b3⟩ := tlF_rok m (g + 1) n1 _ a3
      have := rok_inj b3 f1 (by omega) (by omega)
      exact ⟨n1, a3, by omega⟩
    have hb : ∀ b : Bool, ¬ bI b = 0 → b = true := fun b h => by cases b <;> simp [bI] at h ⊢
    refine rn_iload (pc' := 250) rfl rfl rfl ?_
    refine rn_sipush (pc' := 253) (v := 1000) rfl rfl (by decide) ?_
    refine rn_ic_ge (t := 287) (pc' := 256) rfl rfl rfl (fun h1 => ?_) (fun h1 => ?_)
    · exact absurd ((lt1000 (by omega)).mpr he) h1
    · refine rn_aload_n (pc' := 257) rfl rfl rfl ?_
      refine rn_getF (N := 1) (t' := 49) (pc' := 260) rfl rfl rfl rfl rfl (by first | assumption | decide | omega) ?_
      refine rn_iload (pc' := 262) rfl rfl rfl ?_
      refine rn_bald (N := 1) (K := 1000) (pc' := 263) rfl rfl ⟨rfl, rfl⟩ rfl (by first | assumption | decide | omega) rfl (by decide) rfl (by first | assumption | decide | omega) ?_
      refine rn_if_ne (t := 281) (pc' := 266) rfl rfl rfl (fun h2 => ?_) (fun h2 => ?_)
      · refine next _ ?_
        first | (rw [if_pos ⟨h2, hb _ h4⟩]; done) | (rw [if_neg (fun q => absurd q.1 h2)]; done) | rw [if_neg (fun q => absurd q.2 (by rw [(bI_0 _).mp h4]; simp))]
      · refine rn_aload_n (pc' := 267) rfl rfl rfl ?_
        refine rn_iload (pc' := 269) rfl rfl rfl ?_
        refine rn_callV (pc' := 272) (as := [_]) rfl rfl rfl ⟨Nat.le_of_ble_eq_true rfl, rfl, rfl⟩ rfl (by first | assumption | decide | omega) (Nat.le_of_ble_eq_true rfl) (Nat.le_of_ble_eq_true rfl) rfl (r_isOrphaned M _) (fun r3 M3 hz => ?_)
        obtain ⟨rfl, hm_⟩ := hz
        refine rn_mem hm_ ?_
        clear hm_
        refine rn_if_eq (t := 281) (pc' := 275) rfl rfl rfl (fun h4 => ?_) (fun h4 => ?_)
        · refine next _ ?_
          first | (rw [if_pos ⟨h2, hb _ h4⟩]; done) | (rw [if_neg (fun q => absurd q.1 h2)]; done) | rw [if_neg (fun q => absurd q.2 (by rw [(bI_0 _).mp h4]; simp))]
        · refine rn_aload_n (pc' := 276) rfl rfl rfl ?_
          refine rn_iload (pc' := 278) rfl rfl rfl ?_
          refine rn_callV (pc' := 281) (as := [_]) rfl rfl rfl ⟨Nat.le_of_ble_eq_true rfl, rfl, rfl⟩ rfl (by first | assumption | decide | omega) (Nat.le_of_ble_eq_true rfl) (Nat.le_of_ble_eq_true rfl) rfl (r_tellOrphans M _ hn hn4 (hlt ⟨h2, hb _ h4⟩)) (fun r5 M5 hz => ?_)
          obtain ⟨rfl, hm_⟩ := hz
          refine rn_mem hm_ ?_
          clear hm_
          refine next _ ?_
          first | (rw [if_pos ⟨h2, hb _ h4⟩]; done) | (rw [if_neg (fun q => absurd q.1 h2)]; done) | rw [if_neg (fun q => absurd q.2 (by rw [(bI_0 _).mp h4]; simp))]
