theorem gi0 : GI 0 C0 R0 := by
  have no : ∀ e : Nat, ¬ 0 < R0.1 25 0 e := fun e h => absurd (show (0 : Int32) < 0 from h) (by decide)
  have n28 : ∀ e : Nat, R0.1 28 0 e = 0 := fun e => rfl
  refine ⟨⟨⟨?_, ?_, ?_, ?_, ?_, ?_, ?_, ?_, ?_, ?_, ?_, ?_⟩, ?_, ?_, ?_, ?_, ?_, ?_, ?_, ?_, ?_, ?_, ?_⟩, rfl, ?_⟩
  · exact fun e he => ⟨rfl, rfl, rfl, rfl, rfl, rfl, rfl, rfl, rfl, rfl⟩
  · exact fun e he r hr => rfl
  · exact fun e he r hr => rfl
  · exact fun e he r hr => ⟨rfl, rfl⟩
  · exact fun e he => rfl
  · exact fun e he => ⟨fun _ => rfl, fun _ => rfl⟩
  · exact fun e he hl => absurd hl (no e)
  · exact fun e he hl => absurd hl (no e)
  · exact fun e he hl => absurd hl (no e)
  · exact ⟨rfl, rfl, rfl, rfl, rfl, rfl, rfl, rfl, rfl⟩
  · exact ⟨0, by decide, rfl, rfl, rfl, fun i hi => ⟨rfl, rfl⟩⟩
  · exact fun p hp => ⟨rfl, fun i hi => ⟨rfl, rfl, rfl⟩⟩
  · exact ⟨rfl, rfl, by omega, fun i hi => absurd hi (Nat.not_lt_zero i)⟩
  · exact fun e he => Or.inl rfl
  · exact fun e e' he he' hl => absurd hl (no e)
  · exact Or.inr (fun e he => rfl)
  · exact fun e he hl => absurd hl (no e)
  · exact fun e he => ⟨⟨0, by omega, rfl⟩, ⟨0, by omega, rfl⟩⟩
  · exact fun e he hl => absurd hl (no e)
  · intro e he h
    rw [n28] at h
    exact absurd h (by decide)
  · refine ⟨fun e he hl => absurd hl (no e), ?_⟩
    rw [n28]
    decide
  · exact ⟨⟨0, by omega, rfl⟩, ⟨23, by omega, rfl⟩, rfl⟩
  · exact ⟨fun p hp => ⟨0, by omega, rfl⟩, fun e he => rfl⟩
  · exact ⟨rfl, by decide, ⟨0, by omega, rfl⟩, fun e he hl => absurd hl (no e)⟩
set_option maxRecDepth 100000 in
theorem xfk_sy : (List.range 50).all (fun t => (xfk t).all (fun r => decide (3 ≤ r → 10 ≤ r) && decide (10 ≤ r ∧ r < 100 → xsy (r - 10) = xsy t) && decide (100 ≤ r → xsy (r - 100) = xsy t)) && decide (3 ≤ xek t → 10 ≤ xek t) && decide (10 ≤ xek t ∧ xek t < 100 → xsy (xek t - 10) = xsy t) && decide (100 ≤ xek t → xsy (xek t - 100) = xsy t)) = true := by decide +kernel
theorem xw_ad {ad ad' : Nat → Nat → Nat} {cA : Nat → ClassId} {sy : Nat} (M : xM) (h : ∀ t e, xsy t = sy → ad t e = ad' t e) : xw ad cA sy M = xw ad' cA sy M := by
  unfold xw
  refine List.map_congr_left (fun q hq => ?_)
  obtain ⟨t, e⟩ := q
  obtain ⟨hs, hc⟩ := xcs_of hq
  have ht : t < 50 := xcn_lt hc
  have hall := List.all_eq_true.mp xfk_sy t (List.mem_range.mpr ht)
  simp only [Bool.and_eq_true, List.all_eq_true, decide_eq_true_eq] at hall
  obtain ⟨⟨⟨h1, h4⟩, h2⟩, h3⟩ := hall
  have e1 : ad t e = ad' t e := h t e hs
  have ex : xar ad M t e = xar ad' M t e := by
    unfold xar
    by_cases k1 : xek t ≤ 1
    · rw [if_pos k1, if_pos k1]
    · rw [if_neg k1, if_neg k1]
      by_cases k2 : xek t = 2
      · rw [if_pos k2, if_pos k2]
      · rw [if_neg k2, if_neg k2]
        have hf : (fun j => if xek t < 100 then (M.2.2 t e j).map (ad (xek t - 10)) else some (ad (xek t - 100) j)) = fun j => if xek t < 100 then (M.2.2 t e j).map (ad' (xek t - 10)) else some (ad' (xek t - 100) j) := by
          funext j
          by_cases hk : xek t < 100
          · rw [if_pos hk, if_pos hk, show ad (xek t - 10) = ad' (xek t - 10) from funext fun x => h _ x ((h2 ⟨h4 (by omega), hk⟩).trans hs)]
          · rw [if_neg hk, if_neg hk, h _ j ((h3 (by omega)).trans hs)]
        rw [hf]
  have ef : xfs ad M t e = xfs ad' M t e := by
    apply List.ext_getElem?
    intro k
    cases hx : (xfk t)[k]? with
    | none =>
      have hlen : (xfk t).length ≤ k := List.getElem?_eq_none_iff.mp hx
      rw [List.getElem?_eq_none (by rw [xfs_len]; exact hlen), List.getElem?_eq_none (by rw [xfs_len]; exact hlen)]
    | some r =>
      obtain ⟨⟨g1, g2⟩, g3⟩ := h1 r (List.mem_of_getElem? hx)
      rw [xfs_at hx, xfs_at hx]
      unfold xfv
      by_cases k1 : r ≤ 1
      · rw [if_pos k1, if_pos k1]
      · rw [if_neg k1, if_neg k1]
        by_cases k2 : r = 2
        · rw [if_pos k2, if_pos k2]
        · rw [if_neg k2, if_neg k2]
          by_cases hk : r < 100
          · rw [if_pos hk, if_pos hk, show ad (r - 10) = ad' (r - 10) from funext fun x => h _ x ((g2 ⟨g1 (by omega), hk⟩).trans hs)]
          · rw [if_neg hk, if_neg hk, h _ e ((g3 (by omega)).trans hs)]
  have e2 : xcell ad cA M t e = xcell ad' cA M t e := by
    unfold xcell
    rw [ex, ef]
  show (ad t e, xcell ad cA M t e) = (ad' t e, xcell ad' cA M t e)
  rw [e1, e2]
set_option maxRecDepth 100000 in
theorem xat_5 : (List.range 50).all (fun t => decide (xat t = .int ∨ xat t = .boolean ∨ xat t = .long ∨ xat t = .object RX1 ∨ xat t = .object RX0)) = true := by decide +kernel
theorem k_arrays {args : Array Value} {s : State} (hts : ∀ w ∈ lw_tbl, w.before args s = true) : ∃ cA : Nat → ClassId, ∀ t, t < 50 → ArrOfT s (cA t) (xat t) ∧ va_RA s (cA t) (xat t) := by
  obtain ⟨cI, kI, pI, i1, i2, i3⟩ := Cond.arrayClass_spec (hts _ k_ac_int_)
  obtain ⟨cZ, kZ, pZ, z1, z2, z3⟩ := Cond.arrayClass_spec (hts _ k_ac_boolean_)
  obtain ⟨cJ, kJ, pJ, j1, j2, j3⟩ := Cond.arrayClass_spec (hts _ k_ac_long_)
  obtain ⟨pG, cG, kG, g1, g2, g3, g4, g5⟩ := Cond.arrayOver_spec (hts _ k_ao1)
  obtain ⟨pQ, cQ, kQ, q1, q2, q3, q4, q5⟩ := Cond.arrayOver_spec (hts _ k_ao0)
  have key : ∀ t, t < 50 → ∃ c : ClassId, ArrOfT s c (xat t) ∧ va_RA s c (xat t) := by
    intro t ht
    rcases of_decide_eq_true (List.all_eq_true.mp xat_5 t (List.mem_range.mpr ht)) with h | h | h | h | h
    · rw [h]; exact ⟨cI, fun n z => ⟨fun k h => (by cases h), kI, i2, pI, i3⟩, i1⟩
    · rw [h]; exact ⟨cZ, fun n z => ⟨fun k h => (by cases h), kZ, z2, pZ, z3⟩, z1⟩
    · rw [h]; exact ⟨cJ, fun n z => ⟨fun k h => (by cases h), kJ, j2, pJ, j3⟩, j1⟩
    · rw [h]; exact ⟨cG, fun n z => ⟨fun k h => (by cases h), kG, g3, pG, g4⟩, kG, pG, g3, g4, g1, g5⟩
    · rw [h]; exact ⟨cQ, fun n z => ⟨fun k h => (by cases h), kQ, q3, pQ, q4⟩, kQ, pQ, q3, q4, q1, q5⟩
  refine ⟨fun t => if h : t < 50 then (key t h).choose else cI, fun t ht => ?_⟩
  simp only [dif_pos ht]
  exact (key t ht).choose_spec
theorem xsy0 {t : Nat} (h : xsy t = 0) : t < 20 := by
  unfold xsy at h
  by_cases q : t < 20
  · exact q
  · rw [if_neg q] at h; exact absurd h (by decide)
theorem xsy1 {t : Nat} (h : xsy t = 1) : ¬ t < 20 := by
  intro q
  unfold xsy at h
  rw [if_pos q] at h
  exact absurd h (by decide)
theorem xw_two {D : va_G} {ad1 ad2 : Nat → Nat → Nat} {cA : Nat → ClassId} {A : Nat → Prop} {C N : xM} {H : Heap} (hP : va_P D vwCl (xw ad1 cA 0 C ++ xw ad2 cA 1 N) H) (hD : va_D A (xw ad1 cA 0 C ++ xw ad2 cA 1 N)) : va_P D vwCl (xw (fun t e => if t < 20 then ad1 t e else ad2 t e) cA 0 C ++ xw (fun t e => if t < 20 then ad1 t e else ad2 t e) cA 1 N) H ∧ va_D A (xw (fun t e => if t < 20 then ad1 t e else ad2 t e) cA 0 C ++ xw (fun t e => if t < 20 then ad1 t e else ad2 t e) cA 1 N) := by
  have e1 : xw (fun t e => if t < 20 then ad1 t e else ad2 t e) cA 0 C = xw ad1 cA 0 C := xw_ad C (fun t e h => if_pos (xsy0 h))
  have e2 : xw (fun t e => if t < 20 then ad1 t e else ad2 t e) cA 1 N = xw ad2 cA 1 N := xw_ad N (fun t e h => if_neg (xsy1 h))
  rw [e1, e2]
  exact ⟨hP, hD⟩
set_option maxHeartbeats 4000000 in
set_option maxRecDepth 100000 in
theorem whole_start {p : Program} {e : Env} {s : State} {m : MethodId} {below : List Frame} {meth : Method} {c : Code} (l : Launch) {b L : Nat} {xs : Nat → Int32} (hL : L ≤ 2560) (C0 : lw_At p s m meth c b L xs) : W p l e room_1 s m #[Value.ref b] below meth c s.heap [] 0 0 (lw_Z below #[Value.ref b] s) (entryFrame m ([Value.ref b] : List Value).toArray 4) := by
  obtain ⟨hx, hb, hr, hml, hown, hts0, hX, hbl, hlocks, hgv⟩ := id C0
  have hown : s.vm.findClass RL = some m.cls := hown
  have hts : ∀ w ∈ xgW, w.before #[Value.ref b] s = true := fun w hw => hts0 w (List.mem_filter.mp hw).1
  have hA : ∀ q : Nat, s.heap.size ≤ q → (fun q : Nat => s.heap.size ≤ q) q := fun _ h => h
  obtain ⟨c0, iS0, hKn0⟩ := u_known (C := RX0) (T := TX0) (N := 19) (n := 19) hts (xcls (ci := 0) rfl).1 (hts _ k_inst0)
  obtain ⟨c1, iS1, hKn1⟩ := u_known (C := RX1) (T := TX1) (N := 4) (n := 4) hts (xcls (ci := 1) rfl).1 (hts _ k_inst1)
  obtain ⟨c2, iS2, hKn2⟩ := u_known (C := RX2) (T := TX2) (N := 19) (n := 19) hts (xcls (ci := 2) rfl).1 (hts _ k_inst2)
  obtain ⟨c3, iS3, hKn3⟩ := u_known (C := RX3) (T := TX3) (N := 41) (n := 41) hts (xcls (ci := 3) rfl).1 (hts _ k_inst3)
  obtain ⟨dC, dI, hKc⟩ : ∃ (dC : Nat → ClassId) (dI : Nat → Nat → Nat), ∀ (k : Nat) (q : vw_C), vwCl[k]? = some q → u_Kn s q.1 q.2.1 q.2.2 (dC k) (dI k) := by
    refine ⟨fun k => if k = 0 then c0 else if k = 1 then c1 else if k = 2 then c2 else c3, fun k => if k = 0 then iS0 else if k = 1 then iS1 else if k = 2 then iS2 else iS3, ?_⟩
    intro k q hq
    match k, hq with
    | 0, hq => cases hq; exact hKn0
    | 1, hq => cases hq; exact hKn1
    | 2, hq => cases hq; exact hKn2
    | 3, hq => cases hq; exact hKn3
    | k + 4, hq => simp [vwCl] at hq
  obtain ⟨cA, hcA⟩ := k_arrays hts0
  have hK : va_K (dC, dI) vwCl (xty cA) s := by
    refine ⟨hKc, fun k q hq => ?_⟩
    obtain ⟨t, ht, hqt⟩ := List.mem_map.mp (List.mem_of_getElem? hq)
    rw [← hqt]
    exact hcA t (List.mem_range.mp (List.mem_filter.mp ht).1)
  have hN : ∀ w ∈ xnW, va_Nw w s := by
    intro w hw
    have h1 := hts0 w (List.mem_filter.mp hw).1
    have h2 := (List.mem_filter.mp hw).2
    cases w <;> first | exact va_Nw.of rfl h1 | cases h2
  have hao1 : va_AO RX1 s := va_AO.of (hts0 _ k_ao1)
  have hao0 : va_AO RX0 s := va_AO.of (hts0 _ k_ao0)
  have hS : va_S (fun q : Nat => s.heap.size ≤ q) s.heap s.heap [] := va_S.rf
  have hP : va_P (dC, dI) vwCl [] s.heap := fun k q h => by simp at h
  have hD : va_D (fun q : Nat => s.heap.size ≤ q) [] := ⟨fun i j p q h => by simp at h, fun k q h => by simp at h⟩
  have hl := lv_entry ([.ref b]) (n := 4) (Nat.le_of_ble_eq_true rfl)
  rw [lg_entry_eq]
  generalize (lg_sl ([.ref b]) ++ List.replicate (4 - (lg_sl ([.ref b])).length) Slot.unset).toArray = ls at hl ⊢
  have hl : lv_has ls 4 [(0, .ref b)] := hl
  refine va_new (ci := 2) (fs := in2) (C := RX2) (T := TX2) (N := 19) hx hb hts (xcls (ci := 2) rfl).1 tyX2 tyX2_ok hown (hts _ k_cll2) (hts _ k_inst2) (hts _ k_ini2) hK hP hD hS hA rfl (fun j hj => by rcases (show j = 0 ∨ j = 1 ∨ j = 2 ∨ j = 3 ∨ j = 4 ∨ j = 5 ∨ j = 6 ∨ j = 7 ∨ j = 8 ∨ j = 9 ∨ j = 10 ∨ j = 11 ∨ j = 12 ∨ j = 13 ∨ j = 14 ∨ j = 15 ∨ j = 16 ∨ j = 17 ∨ j = 18 by omega) with rfl | rfl | rfl | rfl | rfl | rfl | rfl | rfl | rfl | rfl | rfl | rfl | rfl | rfl | rfl | rfl | rfl | rfl | rfl <;> rfl) (Nat.le_of_ble_eq_true rfl) (Nat.le_of_ble_eq_true rfl) dL_law_0 (fun q9 H hP hD hS => ?_)
  refine W.widen (k := 1) (n := 19) (Nat.le_of_ble_eq_true rfl) (Nat.le_of_ble_eq_true rfl) ?_
  refine lv_dup hx hb dL_law_3 rfl ?_
  have hFc : ∀ x, va_A [(q9, .inr (2, in2))] H.size x → s.heap.size ≤ x := by
    rintro x (⟨k9, e9, h9⟩ | h9)
    · exact hD.2 k9 _ h9
    · exact Nat.le_trans hS.1 h9
  refine va_callv (va_runI (As := []) (rest := [.ref q9]) ⟨hx, hb, hml, hown, hts⟩ (c_init2 l (dC, dI) cA q9 H.size) ⟨callB_of 0 hts (iW_good k_code2) rfl rfl rfl (hts _ k_ini2) (hts _ k_li2) ⟨by decide +kernel, by decide +kernel, by decide +kernel⟩ ⟨Nat.le_of_ble_eq_true rfl, Nat.le_of_ble_eq_true rfl⟩, rfl, hts _ k_im2⟩ ⟨fun a U g mk q => by obtain ⟨q0, q1, qP, qK, qD, qN, qa, qb⟩ := q; exact ⟨q0, q1, qP, va_K.moved (u := U) (U := U.calling g mk a) (Vm.Alike.refl U.vm) qK, qD, xnW_same (s := U) (U := U.calling g mk a) rfl qN, va_AO.moved (u := U) (U := U.calling g mk a) (Vm.Alike.refl U.vm) qa, va_AO.moved (u := U) (U := U.calling g mk a) (Vm.Alike.refl U.vm) qb⟩, fun U hU hW => ⟨rfl, by rw [hU], by rw [hU]; exact hP, va_K.moved hW.alike hK, hD.weaken (fun _ _ _ _ => trivial), xnW_moved hW hN, va_AO.moved hW.alike hao1, va_AO.moved hW.alike hao0⟩⟩ rfl rfl hl.1 rfl (lv_room (Nat.le_of_ble_eq_true rfl)) dL_law_4 ⟨Nat.le_of_ble_eq_true rfl, Nat.le_of_ble_eq_true rfl⟩) hS (fun x _ h => hFc x h) hFc (fun ad1 t H locs ht hvm hw1 hB hz1 hk1 hS => ?_)
  obtain ⟨hP1, hD1⟩ := hB
  rw [ht] at hP1
  obtain ⟨hP, hD⟩ := kt_join (wr := []) hP hD hk1 hFc hP1 hD1
  refine W.widen (k := 192) (n := 6899) (Nat.le_of_ble_eq_true rfl) (Nat.le_of_ble_eq_true rfl) ?_
  refine lv_astore_n (lv' := [(1, .ref q9), (0, .ref b)]) hx hb dL_law_7 rfl hl (by decide) rfl (fun ls hl => ?_)
  refine va_new (ci := 3) (fs := in3) (C := RX3) (T := TX3) (N := 41) hx hb hts (xcls (ci := 3) rfl).1 tyX3 tyX3_ok hown (hts _ k_cll3) (hts _ k_inst3) (hts _ k_ini3) hK hP hD hS hA rfl (fun j hj => by rcases (show j = 0 ∨ j = 1 ∨ j = 2 ∨ j = 3 ∨ j = 4 ∨ j = 5 ∨ j = 6 ∨ j = 7 ∨ j = 8 ∨ j = 9 ∨ j = 10 ∨ j = 11 ∨ j = 12 ∨ j = 13 ∨ j = 14 ∨ j = 15 ∨ j = 16 ∨ j = 17 ∨ j = 18 ∨ j = 19 ∨ j = 20 ∨ j = 21 ∨ j = 22 ∨ j = 23 ∨ j = 24 ∨ j = 25 ∨ j = 26 ∨ j = 27 ∨ j = 28 ∨ j = 29 ∨ j = 30 ∨ j = 31 ∨ j = 32 ∨ j = 33 ∨ j = 34 ∨ j = 35 ∨ j = 36 ∨ j = 37 ∨ j = 38 ∨ j = 39 ∨ j = 40 by omega) with rfl | rfl | rfl | rfl | rfl | rfl | rfl | rfl | rfl | rfl | rfl | rfl | rfl | rfl | rfl | rfl | rfl | rfl | rfl | rfl | rfl | rfl | rfl | rfl | rfl | rfl | rfl | rfl | rfl | rfl | rfl | rfl | rfl | rfl | rfl | rfl | rfl | rfl | rfl | rfl | rfl <;> rfl) (Nat.le_of_ble_eq_true rfl) (Nat.le_of_ble_eq_true rfl) dL_law_8 (fun q20 H hP hD hS => ?_)
  refine W.widen (k := 193) (n := 6940) (Nat.le_of_ble_eq_true rfl) (Nat.le_of_ble_eq_true rfl) ?_
  refine lv_dup hx hb dL_law_11 rfl ?_
  obtain ⟨-, ⟨hPc, hDc⟩, -⟩ := kt_parts hP hD
  have hFc : ∀ x, va_A [(q20, .inr (3, in3))] H.size x → s.heap.size ≤ x := by
    rintro x (⟨k9, e9, h9⟩ | h9)
    · exact hDc.2 k9 _ h9
    · exact Nat.le_trans hS.1 h9
  refine va_callv (va_runI (As := []) (rest := [.ref q20]) ⟨hx, hb, hml, hown, hts⟩ (c_init3 l (dC, dI) cA q20 H.size) ⟨callB_of 0 hts (iW_good k_code3) rfl rfl rfl (hts _ k_ini3) (hts _ k_li3) ⟨by decide +kernel, by decide +kernel, by decide +kernel⟩ ⟨Nat.le_of_ble_eq_true rfl, Nat.le_of_ble_eq_true rfl⟩, rfl, hts _ k_im3⟩ ⟨fun a U g mk q => by obtain ⟨q0, q1, qP, qK, qD⟩ := q; exact ⟨q0, q1, qP, va_K.moved (u := U) (U := U.calling g mk a) (Vm.Alike.refl U.vm) qK, qD⟩, fun U hU hW => ⟨rfl, by rw [hU], by rw [hU]; exact hPc, va_K.moved hW.alike hK, hDc.weaken (fun _ _ _ _ => trivial)⟩⟩ rfl rfl hl.1 rfl (lv_room (Nat.le_of_ble_eq_true rfl)) dL_law_12 ⟨Nat.le_of_ble_eq_true rfl, Nat.le_of_ble_eq_true rfl⟩) hS (fun x _ h => hFc x h) hFc (fun ad2 t H locs ht hvm hw2 hB hz1 hk1 hS => ?_)
  obtain ⟨hP1, hD1⟩ := hB
  rw [ht] at hP1
  obtain ⟨hP, hD⟩ := kt_join hP hD hk1 hFc hP1 hD1
  rw [List.nil_append] at hP hD
  have hW := xw_two (A := fun q : Nat => s.heap.size ≤ q) hP hD
  refine W.widen (k := 222) (n := 20188) (Nat.le_of_ble_eq_true rfl) (Nat.le_of_ble_eq_true rfl) ?_
  refine lv_astore_n (lv' := [(2, .ref q20), (1, .ref q9), (0, .ref b)]) hx hb dL_law_15 rfl hl (by decide) rfl (fun ls hl => ?_)
  refine lv_iconst (v := nI 0) hx hb dL_law_16 rfl ?_
  refine lv_istore_n (lv' := [(3, .int (nI 0)), (2, .ref q20), (1, .ref q9), (0, .ref b)]) hx hb dL_law_17 rfl hl (by decide) rfl (fun ls hl => ?_)
  rw [← hw1, ← hw2] at hl
  exact law_loop hL C0 (D := (dC, dI)) (ad := fun t e => if t < 20 then ad1 t e else ad2 t e) (cA := cA) hK hN (L + 1) 0 0 _ _ _ _ ls (by omega) (by omega) (by omega) gi0 ⟨hW.1, hW.2, hS⟩ hl
