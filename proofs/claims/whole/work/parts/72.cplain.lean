def Cx (e t : Nat) (D N : xM) : Prop := e < 24 ∧ Inv D N 0 ∧ 0 < N.1 25 0 e ∧ N.1 28 0 e = 0 ∧ N.1 20 0 30 = 0 ∧ Tm (t + 1) t N
theorem Tm.mono {t b b' : Nat} {M : xM} (h : Tm t b M) (hb : b ≤ b') : Tm t b' M := by
  obtain ⟨h1, h2, ⟨g, g1, g2⟩, h4⟩ := h
  exact ⟨h1, h2, ⟨g, by omega, g2⟩, h4⟩
theorem Cx.tm {e t : Nat} {D N : xM} (h : Cx e t D N) : Tm (t + 1) (t + 1) N := h.2.2.2.2.2.mono (by omega)
theorem Cx.n4 {e t : Nat} {D N : xM} (h : Cx e t D N) : ¬ N.1 28 0 e = 4 := by rw [h.2.2.2.1]; decide
theorem Cx.n12 {e t : Nat} {D N : xM} (h : Cx e t D N) : ¬ (N.1 28 0 e = 1 ∨ N.1 28 0 e = 2) := by rw [h.2.2.2.1]; decide
theorem c_registerOf {d : Nat} {C : xM} (x : Int32) : Rn d 38 (0, xen 38 [vI x], [], C) (fun r C' => r = some (vI (x &&& 7)) ∧ C' = C) := by
  show Rn _ 38 (0, [some (vI x)], [], _) _
  refine rn_iload_n (pc' := 1) rfl rfl rfl ?_
  refine rn_bipush (pc' := 3) (v := 7) rfl rfl (by decide) ?_
  refine rn_iand (pc' := 4) rfl rfl ?_
  refine rn_ireturn rfl rfl ?_
  exact ⟨rfl, rfl⟩
theorem c_isProgram {d : Nat} {C : xM} (x : Int32) : Rn d 11 (0, xen 11 [vI x], [], C) (fun r C' => r = some (vI (bI (decide (¬ x < 0 ∧ x < 16)))) ∧ C' = C) := by
  show Rn _ 11 (0, [some (vI x)], [], _) _
  refine rn_iload_n (pc' := 1) rfl rfl rfl ?_
  refine rn_if_lt (t := 14) (pc' := 4) rfl rfl rfl (fun h1 => ?_) (fun h1 => ?_)
  · refine rn_iconst (pc' := 15) (v := 0) rfl rfl (by decide) ?_
    refine rn_zreturn rfl rfl (by decide) ?_
    refine ⟨?_, rfl⟩
    first | (simp [bI, h1, h2]; done) | simp [bI, h1]
  · refine rn_iload_n (pc' := 5) rfl rfl rfl ?_
    refine rn_bipush (pc' := 7) (v := 16) rfl rfl (by decide) ?_
    refine rn_ic_ge (t := 14) (pc' := 10) rfl rfl rfl (fun h2 => ?_) (fun h2 => ?_)
    · refine rn_iconst (pc' := 15) (v := 0) rfl rfl (by decide) ?_
      refine rn_zreturn rfl rfl (by decide) ?_
      refine ⟨?_, rfl⟩
      first | (simp [bI, h1, h2]; done) | simp [bI, h1]
    · refine rn_iconst (pc' := 11) (v := 1) rfl rfl (by decide) ?_
      refine rn_goto (pc' := 15) rfl rfl ?_
      refine rn_zreturn rfl rfl (by decide) ?_
      refine ⟨?_, rfl⟩
      first | (simp [bI, h1, h2]; done) | simp [bI, h1]
theorem c_isSignal {d : Nat} {C : xM} (x : Int32) : Rn d 15 (0, xen 15 [vI x], [], C) (fun r C' => r = some (vI (bI (decide (¬ x < 1 ∧ ¬ 20 < x)))) ∧ C' = C) := by
  show Rn _ 15 (0, [some (vI x)], [], _) _
  refine rn_iload_n (pc' := 1) rfl rfl rfl ?_
  refine rn_iconst (pc' := 2) (v := 1) rfl rfl (by decide) ?_
  refine rn_ic_lt (t := 15) (pc' := 5) rfl rfl rfl (fun h1 => ?_) (fun h1 => ?_)
  · refine rn_iconst (pc' := 16) (v := 0) rfl rfl (by decide) ?_
    refine rn_zreturn rfl rfl (by decide) ?_
    refine ⟨?_, rfl⟩
    first | (simp only [h1, h2]; rfl) | (simp only [h1]; rfl)
  · refine rn_iload_n (pc' := 6) rfl rfl rfl ?_
    refine rn_bipush (pc' := 8) (v := 20) rfl rfl (by decide) ?_
    refine rn_ic_gt (t := 15) (pc' := 11) rfl rfl rfl (fun h2 => ?_) (fun h2 => ?_)
    · refine rn_iconst (pc' := 16) (v := 0) rfl rfl (by decide) ?_
      refine rn_zreturn rfl rfl (by decide) ?_
      refine ⟨?_, rfl⟩
      first | (simp only [h1, h2]; rfl) | (simp only [h1]; rfl)
    · refine rn_iconst (pc' := 12) (v := 1) rfl rfl (by decide) ?_
      refine rn_goto (pc' := 16) rfl rfl ?_
      refine rn_zreturn rfl rfl (by decide) ?_
      refine ⟨?_, rfl⟩
      first | (simp only [h1, h2]; rfl) | (simp only [h1]; rfl)
theorem c_doActP {d e : Nat} {D : xM} {P : xM → Prop} (op a b : Int32) (he : e < 24) (hop : op.toInt ≤ 7) (hc : Rn d 39 (0, xen 39 [vR 9 0, vR 0 e, vI op, vI a, vI b], [], D) (fun r C' => r = none ∧ P C')) : Rn (d + 1) 37 (0, xen 37 [vR 9 0, vR 0 e, vI op, vI a, vI b], [], D) (fun r C' => r = none ∧ P C') := by
  have i7 : (7 : Int32).toInt = 7 := by decide
  have n7 : ¬ (7 : Int32) < op := by rw [Int32.lt_iff_toInt_lt]; omega
  show Rn _ 37 (0, [some (vR 9 0), some (vR 0 e), some (vI op), some (vI a), some (vI b)], [], _) _
  refine rn_iload_n (pc' := 1) rfl rfl rfl ?_
  refine rn_bipush (pc' := 3) (v := 7) rfl rfl (by decide) ?_
  refine rn_ic_gt (t := 18) (pc' := 6) rfl rfl rfl (fun h1 => ?_) (fun h1 => ?_)
  · exact absurd h1 n7
  · refine rn_aload_n (pc' := 7) rfl rfl rfl ?_
    refine rn_aload_n (pc' := 8) rfl rfl rfl ?_
    refine rn_iload_n (pc' := 9) rfl rfl rfl ?_
    refine rn_iload_n (pc' := 10) rfl rfl rfl ?_
    refine rn_iload (pc' := 12) rfl rfl rfl ?_
    refine rn_callV (pc' := 15) (as := [_, _, _, _]) rfl rfl rfl ⟨Nat.le_of_ble_eq_true rfl, rfl, rfl⟩ rfl (by first | assumption | decide | omega) (Nat.le_of_ble_eq_true rfl) (Nat.le_of_ble_eq_true rfl) rfl hc (fun r9 D9 hz9 => ?_)
    obtain ⟨rfl, hp⟩ := hz9
    refine rn_goto (pc' := 63) rfl rfl ?_
    refine rn_return rfl rfl ?_
    exact ⟨rfl, hp⟩
theorem c_doActF {d e : Nat} {D : xM} {P : xM → Prop} (op a b : Int32) (he : e < 24) (hop : 7 < op.toInt) (hop2 : op.toInt ≤ 13) (hc : Rn d 40 (0, xen 40 [vR 9 0, vR 0 e, vI op, vI a, vI b], [], D) (fun r C' => r = none ∧ P C')) : Rn (d + 1) 37 (0, xen 37 [vR 9 0, vR 0 e, vI op, vI a, vI b], [], D) (fun r C' => r = none ∧ P C') := by
  have i7 : (7 : Int32).toInt = 7 := by decide
  have i13 : (13 : Int32).toInt = 13 := by decide
  have n7 : (7 : Int32) < op := by rw [Int32.lt_iff_toInt_lt]; omega
  have n13 : ¬ (13 : Int32) < op := by rw [Int32.lt_iff_toInt_lt]; omega
  show Rn _ 37 (0, [some (vR 9 0), some (vR 0 e), some (vI op), some (vI a), some (vI b)], [], _) _
  refine rn_iload_n (pc' := 1) rfl rfl rfl ?_
  refine rn_bipush (pc' := 3) (v := 7) rfl rfl (by decide) ?_
  refine rn_ic_gt (t := 18) (pc' := 6) rfl rfl rfl (fun h1 => ?_) (fun h1 => ?_)
  · refine rn_iload_n (pc' := 19) rfl rfl rfl ?_
    refine rn_bipush (pc' := 21) (v := 13) rfl rfl (by decide) ?_
    refine rn_ic_gt (t := 36) (pc' := 24) rfl rfl rfl (fun h2 => ?_) (fun h2 => ?_)
    · exact absurd h2 n13
    · refine rn_aload_n (pc' := 25) rfl rfl rfl ?_
      refine rn_aload_n (pc' := 26) rfl rfl rfl ?_
      refine rn_iload_n (pc' := 27) rfl rfl rfl ?_
      refine rn_iload_n (pc' := 28) rfl rfl rfl ?_
      refine rn_iload (pc' := 30) rfl rfl rfl ?_
      refine rn_callV (pc' := 33) (as := [_, _, _, _]) rfl rfl rfl ⟨Nat.le_of_ble_eq_true rfl, rfl, rfl⟩ rfl (by first | assumption | decide | omega) (Nat.le_of_ble_eq_true rfl) (Nat.le_of_ble_eq_true rfl) rfl hc (fun r9 D9 hz9 => ?_)
      obtain ⟨rfl, hp⟩ := hz9
      refine rn_goto (pc' := 63) rfl rfl ?_
      refine rn_return rfl rfl ?_
      exact ⟨rfl, hp⟩
  · exact absurd n7 h1
theorem c_doActS {d e : Nat} {D : xM} {P : xM → Prop} (op a b : Int32) (he : e < 24) (hop : 13 < op.toInt) (hop2 : op.toInt ≤ 19) (hc : Rn d 41 (0, xen 41 [vR 9 0, vR 0 e, vI op, vI a, vI b], [], D) (fun r C' => r = none ∧ P C')) : Rn (d + 1) 37 (0, xen 37 [vR 9 0, vR 0 e, vI op, vI a, vI b], [], D) (fun r C' => r = none ∧ P C') := by
  have i7 : (7 : Int32).toInt = 7 := by decide
  have i13 : (13 : Int32).toInt = 13 := by decide
  have i19 : (19 : Int32).toInt = 19 := by decide
  have n7 : (7 : Int32) < op := by rw [Int32.lt_iff_toInt_lt]; omega
  have n13 : (13 : Int32) < op := by rw [Int32.lt_iff_toInt_lt]; omega
  have n19 : ¬ (19 : Int32) < op := by rw [Int32.lt_iff_toInt_lt]; omega
  show Rn _ 37 (0, [some (vR 9 0), some (vR 0 e), some (vI op), some (vI a), some (vI b)], [], _) _
  refine rn_iload_n (pc' := 1) rfl rfl rfl ?_
  refine rn_bipush (pc' := 3) (v := 7) rfl rfl (by decide) ?_
  refine rn_ic_gt (t := 18) (pc' := 6) rfl rfl rfl (fun h1 => ?_) (fun h1 => ?_)
  · refine rn_iload_n (pc' := 19) rfl rfl rfl ?_
    refine rn_bipush (pc' := 21) (v := 13) rfl rfl (by decide) ?_
    refine rn_ic_gt (t := 36) (pc' := 24) rfl rfl rfl (fun h2 => ?_) (fun h2 => ?_)
    · refine rn_iload_n (pc' := 37) rfl rfl rfl ?_
      refine rn_bipush (pc' := 39) (v := 19) rfl rfl (by decide) ?_
      refine rn_ic_gt (t := 54) (pc' := 42) rfl rfl rfl (fun h3 => ?_) (fun h3 => ?_)
      · exact absurd h3 n19
      · refine rn_aload_n (pc' := 43) rfl rfl rfl ?_
        refine rn_aload_n (pc' := 44) rfl rfl rfl ?_
        refine rn_iload_n (pc' := 45) rfl rfl rfl ?_
        refine rn_iload_n (pc' := 46) rfl rfl rfl ?_
        refine rn_iload (pc' := 48) rfl rfl rfl ?_
        refine rn_callV (pc' := 51) (as := [_, _, _, _]) rfl rfl rfl ⟨Nat.le_of_ble_eq_true rfl, rfl, rfl⟩ rfl (by first | assumption | decide | omega) (Nat.le_of_ble_eq_true rfl) (Nat.le_of_ble_eq_true rfl) rfl hc (fun r9 D9 hz9 => ?_)
        obtain ⟨rfl, hp⟩ := hz9
        refine rn_goto (pc' := 63) rfl rfl ?_
        refine rn_return rfl rfl ?_
        exact ⟨rfl, hp⟩
    · exact absurd n13 h2
  · exact absurd n7 h1
theorem c_doActN {d e : Nat} {D : xM} {P : xM → Prop} (op a b : Int32) (he : e < 24) (hop : 19 < op.toInt) (hc : Rn d 42 (0, xen 42 [vR 9 0, vR 0 e, vI op, vI a, vI b], [], D) (fun r C' => r = none ∧ P C')) : Rn (d + 1) 37 (0, xen 37 [vR 9 0, vR 0 e, vI op, vI a, vI b], [], D) (fun r C' => r = none ∧ P C') := by
  have i7 : (7 : Int32).toInt = 7 := by decide
  have i13 : (13 : Int32).toInt = 13 := by decide
  have i19 : (19 : Int32).toInt = 19 := by decide
  have n7 : (7 : Int32) < op := by rw [Int32.lt_iff_toInt_lt]; omega
  have n13 : (13 : Int32) < op := by rw [Int32.lt_iff_toInt_lt]; omega
  have n19 : (19 : Int32) < op := by rw [Int32.lt_iff_toInt_lt]; omega
  show Rn _ 37 (0, [some (vR 9 0), some (vR 0 e), some (vI op), some (vI a), some (vI b)], [], _) _
  refine rn_iload_n (pc' := 1) rfl rfl rfl ?_
  refine rn_bipush (pc' := 3) (v := 7) rfl rfl (by decide) ?_
  refine rn_ic_gt (t := 18) (pc' := 6) rfl rfl rfl (fun h1 => ?_) (fun h1 => ?_)
  · refine rn_iload_n (pc' := 19) rfl rfl rfl ?_
    refine rn_bipush (pc' := 21) (v := 13) rfl rfl (by decide) ?_
    refine rn_ic_gt (t := 36) (pc' := 24) rfl rfl rfl (fun h2 => ?_) (fun h2 => ?_)
    · refine rn_iload_n (pc' := 37) rfl rfl rfl ?_
      refine rn_bipush (pc' := 39) (v := 19) rfl rfl (by decide) ?_
      refine rn_ic_gt (t := 54) (pc' := 42) rfl rfl rfl (fun h3 => ?_) (fun h3 => ?_)
      · refine rn_aload_n (pc' := 55) rfl rfl rfl ?_
        refine rn_aload_n (pc' := 56) rfl rfl rfl ?_
        refine rn_iload_n (pc' := 57) rfl rfl rfl ?_
        refine rn_iload_n (pc' := 58) rfl rfl rfl ?_
        refine rn_iload (pc' := 60) rfl rfl rfl ?_
        refine rn_callV (pc' := 63) (as := [_, _, _, _]) rfl rfl rfl ⟨Nat.le_of_ble_eq_true rfl, rfl, rfl⟩ rfl (by first | assumption | decide | omega) (Nat.le_of_ble_eq_true rfl) (Nat.le_of_ble_eq_true rfl) rfl hc (fun r9 D9 hz9 => ?_)
        obtain ⟨rfl, hp⟩ := hz9
        refine rn_return rfl rfl ?_
        exact ⟨rfl, hp⟩
      · exact absurd n19 h3
    · exact absurd n13 h2
  · exact absurd n7 h1
theorem c_plPre {d e ja jb : Nat} {D : xM} (Z : Option xV → xM → Prop) (op a b : Int32) (he : e < 24) (ha : a &&& 7 = nI ja) (hb : b &&& 7 = nI jb) (k : Rn (d + 1) 39 (20, [some (vR 9 0), some (vR 0 e), some (vI op), some (vI a), some (vI b), some (vR 1 e), some (vI (nI ja)), some (vI (nI jb))], [vI op], D) Z) : Rn (d + 1) 39 (0, xen 39 [vR 9 0, vR 0 e, vI op, vI a, vI b], [], D) Z := by
  show Rn _ 39 (0, [some (vR 9 0), some (vR 0 e), some (vI op), some (vI a), some (vI b), none, none, none], [], _) _
  refine rn_aload_n (pc' := 1) rfl rfl rfl ?_
  refine rn_getF (N := 24) (t' := 1) (pc' := 4) rfl rfl rfl rfl rfl (by first | assumption | decide | omega) ?_
  refine rn_astore (pc' := 6) rfl rfl rfl (Nat.le_of_ble_eq_true rfl) rfl ?_
  refine rn_iload_n (pc' := 7) rfl rfl rfl ?_
  refine rn_callS (pc' := 10) (as := [_]) rfl rfl rfl ⟨rfl, rfl, rfl⟩ (Nat.le_of_ble_eq_true rfl) (Nat.le_of_ble_eq_true rfl) rfl (c_registerOf a) (fun r1 M1 hz => ?_)
  obtain ⟨rfl, hm_⟩ := hz
  refine rn_mem hm_ ?_
  clear hm_
  refine rn_topI ha ?_
  refine rn_istore (pc' := 12) rfl rfl rfl (Nat.le_of_ble_eq_true rfl) rfl ?_
  refine rn_iload (pc' := 14) rfl rfl rfl ?_
  refine rn_callS (pc' := 17) (as := [_]) rfl rfl rfl ⟨rfl, rfl, rfl⟩ (Nat.le_of_ble_eq_true rfl) (Nat.le_of_ble_eq_true rfl) rfl (c_registerOf b) (fun r2 M2 hz => ?_)
  obtain ⟨rfl, hm_⟩ := hz
  refine rn_mem hm_ ?_
  clear hm_
  refine rn_topI hb ?_
  refine rn_istore (pc' := 19) rfl rfl rfl (Nat.le_of_ble_eq_true rfl) rfl ?_
  refine rn_iload_n (pc' := 20) rfl rfl rfl ?_
  exact k
theorem reg_eq {e t r : Nat} {D N : xM} (h : Cx e t D N) (hr : r < 8) : D.1 1 e r = N.1 31 0 (8 * e + r) := h.2.1.1.2.1 e h.1 r hr
theorem AP_reg {e t r : Nat} {D N : xM} {v : Int32} (h : Cx e t D N) (hr : r < 8) : AP e (N.1 25 0 e) (t + 1) (mI D 1 e r v) (mI N 31 0 (8 * e + r) v) := AP_of (Inv_reg h.2.1 hr) (by omega) h.2.2.2.2.1 h.tm rfl h.n4
theorem AP_nxt {e t : Nat} {D N : xM} {v : Int32} (h : Cx e t D N) : AP e (N.1 25 0 e) (t + 1) (mI D 0 e 5 v) (mI N 30 0 e v) := AP_of (Inv_fld (k := 5) (t := 30) h.2.1 (by decide) (by decide) (by decide) (fun _ => h.n12) h.2.1.2.2) (by omega) h.2.2.2.2.1 h.tm rfl h.n4
theorem AP_same {e t : Nat} {D N : xM} (h : Cx e t D N) : AP e (N.1 25 0 e) (t + 1) D N := AP_of h.2.1 (by omega) h.2.2.2.2.1 h.tm rfl h.n4
theorem c_pl0 {d e t ja jb : Nat} {D N : xM} (op a b : Int32) (h : Cx e t D N) (hja : ja < 8) (ha : a &&& 7 = nI ja) (hb : b &&& 7 = nI jb) (hop : op.toInt = 0) : Rn (d + 1) 39 (0, xen 39 [vR 9 0, vR 0 e, vI op, vI a, vI b], [], D) (fun r C' => r = none ∧ AP e (N.1 25 0 e) (t + 1) C' (mI N 31 0 (8 * e + ja) b)) := by
  have he := h.1
  refine c_plPre _ op a b he ha hb ?_
  refine rn_swIn (k := 0) (t := 68) rfl hop (by decide) rfl rfl ?_
  refine rn_aload (pc' := 70) rfl rfl rfl ?_
  refine rn_iload (pc' := 72) rfl rfl rfl ?_
  refine rn_iload (pc' := 74) rfl rfl rfl ?_
  refine rn_iast (N := 24) (K := 8) (pc' := 75) rfl rfl ⟨rfl, rfl⟩ rfl (by first | assumption | decide | omega) rfl (by decide) rfl (by first | assumption | decide | omega) ?_
  refine rn_goto (pc' := 195) rfl rfl ?_
  refine rn_return rfl rfl ?_
  exact ⟨rfl, AP_reg h hja⟩
theorem c_pl1 {d e t ja jb : Nat} {D N : xM} (op a b : Int32) (h : Cx e t D N) (hja : ja < 8) (hjb : jb < 8) (ha : a &&& 7 = nI ja) (hb : b &&& 7 = nI jb) (hop : op.toInt = 1) : Rn (d + 1) 39 (0, xen 39 [vR 9 0, vR 0 e, vI op, vI a, vI b], [], D) (fun r C' => r = none ∧ AP e (N.1 25 0 e) (t + 1) C' (mI N 31 0 (8 * e + ja) (N.1 31 0 (8 * e + jb)))) := by
  have he := h.1
  refine c_plPre _ op a b he ha hb ?_
  refine rn_swIn (k := 1) (t := 78) rfl hop (by decide) rfl rfl ?_
  refine rn_aload (pc' := 80) rfl rfl rfl ?_
  refine rn_iload (pc' := 82) rfl rfl rfl ?_
  refine rn_aload (pc' := 84) rfl rfl rfl ?_
  refine rn_iload (pc' := 86) rfl rfl rfl ?_
  refine rn_iald (N := 24) (K := 8) (pc' := 87) rfl rfl ⟨rfl, rfl⟩ rfl (by first | assumption | decide | omega) rfl (by decide) rfl (by first | assumption | decide | omega) ?_
  refine rn_topI (reg_eq h hjb) ?_
  refine rn_iast (N := 24) (K := 8) (pc' := 88) rfl rfl ⟨rfl, rfl⟩ rfl (by first | assumption | decide | omega) rfl (by decide) rfl (by first | assumption | decide | omega) ?_
  refine rn_goto (pc' := 195) rfl rfl ?_
  refine rn_return rfl rfl ?_
  exact ⟨rfl, AP_reg h hja⟩
theorem c_pl2 {d e t ja jb : Nat} {D N : xM} (op a b : Int32) (h : Cx e t D N) (hja : ja < 8) (hjb : jb < 8) (ha : a &&& 7 = nI ja) (hb : b &&& 7 = nI jb) (hop : op.toInt = 2) : Rn (d + 1) 39 (0, xen 39 [vR 9 0, vR 0 e, vI op, vI a, vI b], [], D) (fun r C' => r = none ∧ AP e (N.1 25 0 e) (t + 1) C' (mI N 31 0 (8 * e + ja) (N.1 31 0 (8 * e + ja) + N.1 31 0 (8 * e + jb)))) := by
  have he := h.1
  refine c_plPre _ op a b he ha hb ?_
  refine rn_swIn (k := 2) (t := 91) rfl hop (by decide) rfl rfl ?_
  refine rn_aload (pc' := 93) rfl rfl rfl ?_
  refine rn_iload (pc' := 95) rfl rfl rfl ?_
  refine rn_dup2 (pc' := 96) rfl rfl ?_
  refine rn_iald (N := 24) (K := 8) (pc' := 97) rfl rfl ⟨rfl, rfl⟩ rfl (by first | assumption | decide | omega) rfl (by decide) rfl (by first | assumption | decide | omega) ?_
  refine rn_aload (pc' := 99) rfl rfl rfl ?_
  refine rn_iload (pc' := 101) rfl rfl rfl ?_
  refine rn_iald (N := 24) (K := 8) (pc' := 102) rfl rfl ⟨rfl, rfl⟩ rfl (by first | assumption | decide | omega) rfl (by decide) rfl (by first | assumption | decide | omega) ?_
  refine rn_iadd (pc' := 103) rfl rfl ?_
  refine rn_topI (y := N.1 31 0 (8 * e + ja) + N.1 31 0 (8 * e + jb)) (by rw [reg_eq h hja, reg_eq h hjb]) ?_
  refine rn_iast (N := 24) (K := 8) (pc' := 104) rfl rfl ⟨rfl, rfl⟩ rfl (by first | assumption | decide | omega) rfl (by decide) rfl (by first | assumption | decide | omega) ?_
  refine rn_goto (pc' := 195) rfl rfl ?_
  refine rn_return rfl rfl ?_
  exact ⟨rfl, AP_reg h hja⟩
theorem c_pl3 {d e t ja jb : Nat} {D N : xM} (op a b : Int32) (h : Cx e t D N) (hja : ja < 8) (hjb : jb < 8) (ha : a &&& 7 = nI ja) (hb : b &&& 7 = nI jb) (hop : op.toInt = 3) : Rn (d + 1) 39 (0, xen 39 [vR 9 0, vR 0 e, vI op, vI a, vI b], [], D) (fun r C' => r = none ∧ AP e (N.1 25 0 e) (t + 1) C' (mI N 31 0 (8 * e + ja) (N.1 31 0 (8 * e + ja) - N.1 31 0 (8 * e + jb)))) := by
  have he := h.1
  refine c_plPre _ op a b he ha hb ?_
  refine rn_swIn (k := 3) (t := 107) rfl hop (by decide) rfl rfl ?_
  refine rn_aload (pc' := 109) rfl rfl rfl ?_
  refine rn_iload (pc' := 111) rfl rfl rfl ?_
  refine rn_dup2 (pc' := 112) rfl rfl ?_
  refine rn_iald (N := 24) (K := 8) (pc' := 113) rfl rfl ⟨rfl, rfl⟩ rfl (by first | assumption | decide | omega) rfl (by decide) rfl (by first | assumption | decide | omega) ?_
  refine rn_aload (pc' := 115) rfl rfl rfl ?_
  refine rn_iload (pc' := 117) rfl rfl rfl ?_
  refine rn_iald (N := 24) (K := 8) (pc' := 118) rfl rfl ⟨rfl, rfl⟩ rfl (by first | assumption | decide | omega) rfl (by decide) rfl (by first | assumption | decide | omega) ?_
  refine rn_isub (pc' := 119) rfl rfl ?_
  refine rn_topI (y := N.1 31 0 (8 * e + ja) - N.1 31 0 (8 * e + jb)) (by rw [reg_eq h hja, reg_eq h hjb]) ?_
  refine rn_iast (N := 24) (K := 8) (pc' := 120) rfl rfl ⟨rfl, rfl⟩ rfl (by first | assumption | decide | omega) rfl (by decide) rfl (by first | assumption | decide | omega) ?_
  refine rn_goto (pc' := 195) rfl rfl ?_
  refine rn_return rfl rfl ?_
  exact ⟨rfl, AP_reg h hja⟩
theorem c_pl4 {d e t ja jb : Nat} {D N : xM} (op a b : Int32) (h : Cx e t D N) (ha : a &&& 7 = nI ja) (hb : b &&& 7 = nI jb) (hop : op.toInt = 4) : Rn (d + 1) 39 (0, xen 39 [vR 9 0, vR 0 e, vI op, vI a, vI b], [], D) (fun r C' => r = none ∧ AP e (N.1 25 0 e) (t + 1) C' (mI N 30 0 e a)) := by
  have he := h.1
  refine c_plPre _ op a b he ha hb ?_
  refine rn_swIn (k := 4) (t := 123) rfl hop (by decide) rfl rfl ?_
  refine rn_aload_n (pc' := 124) rfl rfl rfl ?_
  refine rn_iload_n (pc' := 125) rfl rfl rfl ?_
  refine rn_putI (N := 24) (pc' := 128) rfl rfl rfl rfl rfl (by first | assumption | decide | omega) ?_
  refine rn_goto (pc' := 195) rfl rfl ?_
  refine rn_return rfl rfl ?_
  exact ⟨rfl, AP_nxt h⟩
theorem c_pl5 {d e t ja jb : Nat} {D N : xM} (op a b : Int32) (h : Cx e t D N) (hja : ja < 8) (ha : a &&& 7 = nI ja) (hb : b &&& 7 = nI jb) (hop : op.toInt = 5) : Rn (d + 1) 39 (0, xen 39 [vR 9 0, vR 0 e, vI op, vI a, vI b], [], D) (fun r C' => r = none ∧ AP e (N.1 25 0 e) (t + 1) C' (mI N 30 0 e (if N.1 31 0 (8 * e + ja) = 0 then b else N.1 30 0 e))) := by
  have he := h.1
  have v5 : D.1 0 e 5 = N.1 30 0 e := f1 h.2.1.1.1 he (by decide)
  have hr := reg_eq h hja
  refine c_plPre _ op a b he ha hb ?_
  refine rn_swIn (k := 5) (t := 131) rfl hop (by decide) rfl rfl ?_
  refine rn_aload_n (pc' := 132) rfl rfl rfl ?_
  refine rn_aload (pc' := 134) rfl rfl rfl ?_
  refine rn_iload (pc' := 136) rfl rfl rfl ?_
  refine rn_iald (N := 24) (K := 8) (pc' := 137) rfl rfl ⟨rfl, rfl⟩ rfl (by first | assumption | decide | omega) rfl (by decide) rfl (by first | assumption | decide | omega) ?_
  refine rn_if_ne (t := 145) (pc' := 140) rfl rfl rfl (fun h1 => ?_) (fun h1 => ?_)
  · refine rn_aload_n (pc' := 146) rfl rfl rfl ?_
    refine rn_getI (N := 24) (pc' := 149) rfl rfl rfl rfl (by decide) rfl (by first | assumption | decide | omega) ?_
    refine rn_topI (y := if N.1 31 0 (8 * e + ja) = 0 then b else N.1 30 0 e) (by rw [← hr]; first | (rw [if_pos h1]; done) | (rw [if_neg h1]; exact v5)) ?_
    refine rn_putI (N := 24) (pc' := 152) rfl rfl rfl rfl rfl (by first | assumption | decide | omega) ?_
    refine rn_goto (pc' := 195) rfl rfl ?_
    refine rn_return rfl rfl ?_
    exact ⟨rfl, AP_nxt h⟩
  · refine rn_iload (pc' := 142) rfl rfl rfl ?_
    refine rn_goto (pc' := 149) rfl rfl ?_
    refine rn_topI (y := if N.1 31 0 (8 * e + ja) = 0 then b else N.1 30 0 e) (by rw [← hr]; first | (rw [if_pos h1]; done) | (rw [if_neg h1]; exact v5)) ?_
    refine rn_putI (N := 24) (pc' := 152) rfl rfl rfl rfl rfl (by first | assumption | decide | omega) ?_
    refine rn_goto (pc' := 195) rfl rfl ?_
    refine rn_return rfl rfl ?_
    exact ⟨rfl, AP_nxt h⟩
theorem c_pl6 {d e t ja jb : Nat} {D N : xM} (op a b : Int32) (h : Cx e t D N) (hja : ja < 8) (ha : a &&& 7 = nI ja) (hb : b &&& 7 = nI jb) (hop : op.toInt = 6) : Rn (d + 1) 39 (0, xen 39 [vR 9 0, vR 0 e, vI op, vI a, vI b], [], D) (fun r C' => r = none ∧ AP e (N.1 25 0 e) (t + 1) C' (mI N 30 0 e (if N.1 31 0 (8 * e + ja) < 0 then b else N.1 30 0 e))) := by
  have he := h.1
  have v5 : D.1 0 e 5 = N.1 30 0 e := f1 h.2.1.1.1 he (by decide)
  have hr := reg_eq h hja
  refine c_plPre _ op a b he ha hb ?_
  refine rn_swIn (k := 6) (t := 155) rfl hop (by decide) rfl rfl ?_
  refine rn_aload_n (pc' := 156) rfl rfl rfl ?_
  refine rn_aload (pc' := 158) rfl rfl rfl ?_
  refine rn_iload (pc' := 160) rfl rfl rfl ?_
  refine rn_iald (N := 24) (K := 8) (pc' := 161) rfl rfl ⟨rfl, rfl⟩ rfl (by first | assumption | decide | omega) rfl (by decide) rfl (by first | assumption | decide | omega) ?_
  refine rn_if_ge (t := 169) (pc' := 164) rfl rfl rfl (fun h1 => ?_) (fun h1 => ?_)
  · refine rn_aload_n (pc' := 170) rfl rfl rfl ?_
    refine rn_getI (N := 24) (pc' := 173) rfl rfl rfl rfl (by decide) rfl (by first | assumption | decide | omega) ?_
    refine rn_topI (y := if N.1 31 0 (8 * e + ja) < 0 then b else N.1 30 0 e) (by rw [← hr]; first | (rw [if_pos h1]; done) | (rw [if_neg h1]; exact v5)) ?_
    refine rn_putI (N := 24) (pc' := 176) rfl rfl rfl rfl rfl (by first | assumption | decide | omega) ?_
    refine rn_goto (pc' := 195) rfl rfl ?_
    refine rn_return rfl rfl ?_
    exact ⟨rfl, AP_nxt h⟩
  · refine rn_iload (pc' := 166) rfl rfl rfl ?_
    refine rn_goto (pc' := 173) rfl rfl ?_
    refine rn_topI (y := if N.1 31 0 (8 * e + ja) < 0 then b else N.1 30 0 e) (by rw [← hr]; first | (rw [if_pos h1]; done) | (rw [if_neg h1]; exact v5)) ?_
    refine rn_putI (N := 24) (pc' := 176) rfl rfl rfl rfl rfl (by first | assumption | decide | omega) ?_
    refine rn_goto (pc' := 195) rfl rfl ?_
    refine rn_return rfl rfl ?_
    exact ⟨rfl, AP_nxt h⟩
theorem c_plN {d e t ja jb : Nat} {D N : xM} (op a b : Int32) (h : Cx e t D N) (ha : a &&& 7 = nI ja) (hb : b &&& 7 = nI jb) (hop : op.toInt < 0) : Rn (d + 1) 39 (0, xen 39 [vR 9 0, vR 0 e, vI op, vI a, vI b], [], D) (fun r C' => r = none ∧ AP e (N.1 25 0 e) (t + 1) C' N) := by
  have he := h.1
  refine c_plPre _ op a b he ha hb ?_
  refine rn_swOut (t := 195) rfl (Or.inl hop) rfl ?_
  refine rn_return rfl rfl ?_
  exact ⟨rfl, AP_same h⟩
theorem lgN_1 (g : Nat) : (if (40 : Int32) < nI (lgN g) + 1 then (40 : Int32) else nI (lgN g) + 1) = nI (lgN (g + 1)) := by
  have h40 : lgN g ≤ 40 := by unfold lgN; split <;> omega
  rw [nI_1]
  have h1 : (40 : Int32) < nI (lgN g + 1) ↔ 40 < lgN g + 1 := nI_ltI (a := 40) (by decide) (by omega)
  by_cases h : 40 < lgN g + 1
  · rw [if_pos (h1.mpr h)]
    have : lgN (g + 1) = 40 := by unfold lgN at h ⊢; split at h <;> (split <;> omega)
    rw [this]; rfl
  · rw [if_neg (fun z => h (h1.mp z))]
    have : lgN (g + 1) = lgN g + 1 := by unfold lgN at h ⊢; split at h <;> (split <;> omega)
    rw [this]
theorem Inv_log {C R : xM} {n g : Nat} {v w : Int32} (h : Inv C R n) (hg : R.1 20 0 31 = nI g) (hg1 : g + 1 < 2 ^ 31) : Inv (mI (mI (mI (mI C 15 0 (g % 40) v) 16 0 (g % 40) w) 9 0 9 (nI ((g + 1) % 40))) 9 0 8 (nI (lgN (g + 1)))) (mI (mI (mI R 47 0 (g % 40) v) 48 0 (g % 40) w) 20 0 31 (nI (g + 1))) n := by
  obtain ⟨⟨a1, a2, a3, a4, a5, a6, a7, a8, a9, a10, a11, a12⟩, a13, b1, b2, b3, b4, b5, b7, b9, b10, b11, b14⟩ := h
  refine ⟨⟨a1, a2, a3, a4, a5, a6, a7, a8, a9, a10, ?_, a12⟩, a13, b1, b2, b3, b4, b5, b7, b9, b10, b11, b14⟩
  obtain ⟨g', g0, g1, g2, g3, g4⟩ := a11
  refine ⟨g + 1, hg1, rfl, rfl, rfl, fun i hi => ?_⟩
  have := g4 i hi
  by_cases hc : i = g % 40
  · subst hc
    simp [mI, xu]
  · simpa [mI, xu, hc] using this
theorem log_g {C R : xM} {n g : Nat} (h : Inv C R n) (hg : R.1 20 0 31 = nI g) (hg1 : g < 2 ^ 31) : C.1 9 0 9 = nI (g % 40) ∧ C.1 9 0 8 = nI (lgN g) := by
  obtain ⟨g', g0, g1, g2, g3, g4⟩ := h.1.2.2.2.2.2.2.2.2.2.2.1
  have : g' = g := (nI_eq g0 hg1).mp (g1.symm.trans hg)
  subst this
  exact ⟨g2, g3⟩
theorem c_writeLog {d n g : Nat} {C R : xM} (v w : Int32) (h : Inv C R n) (hg : R.1 20 0 31 = nI g) (hg1 : g + 1 < 2 ^ 31) : Rn (d + 1) 44 (0, xen 44 [vR 9 0, vI v, vI w], [], C) (fun r C' => r = none ∧ Inv C' (mI (mI (mI R 47 0 (g % 40) v) 48 0 (g % 40) w) 20 0 31 (nI (g + 1))) n) := by
  obtain ⟨l9, l8⟩ := log_g h hg (by omega)
  have hm : g % 40 < 40 := Nat.mod_lt _ (by decide)
  have e9 : (C.1 9 0 9 + 1) - (C.1 9 0 9 + 1) / 40 * 40 = nI ((g + 1) % 40) := by
    rw [l9, nI_1, rem40 (g := g % 40 + 1) rfl (by omega)]
    congr 1
    omega
  have e8 : (if (40 : Int32) < C.1 9 0 8 + 1 then (40 : Int32) else C.1 9 0 8 + 1) = nI (lgN (g + 1)) := by rw [l8]; exact lgN_1 g
  show Rn _ 44 (0, [some (vR 9 0), some (vI v), some (vI w)], [], _) _
  refine rn_aload_n (pc' := 1) rfl rfl rfl ?_
  refine rn_getF (N := 1) (t' := 15) (pc' := 4) rfl rfl rfl rfl rfl (by first | assumption | decide | omega) ?_
  refine rn_aload_n (pc' := 5) rfl rfl rfl ?_
  refine rn_getI (N := 1) (pc' := 8) rfl rfl rfl rfl (by decide) rfl (by first | assumption | decide | omega) ?_
  refine rn_iload_n (pc' := 9) rfl rfl rfl ?_
  refine rn_iast (k := g % 40) (N := 1) (K := 40) (pc' := 10) rfl rfl ⟨rfl, rfl⟩ rfl (by first | assumption | decide | omega) rfl (by decide) (l9) (by first | assumption | decide | omega) ?_
  refine rn_aload_n (pc' := 11) rfl rfl rfl ?_
  refine rn_getF (N := 1) (t' := 16) (pc' := 14) rfl rfl rfl rfl rfl (by first | assumption | decide | omega) ?_
  refine rn_aload_n (pc' := 15) rfl rfl rfl ?_
  refine rn_getI (N := 1) (pc' := 18) rfl rfl rfl rfl (by decide) rfl (by first | assumption | decide | omega) ?_
  refine rn_iload_n (pc' := 19) rfl rfl rfl ?_
  refine rn_iast (k := g % 40) (N := 1) (K := 40) (pc' := 20) rfl rfl ⟨rfl, rfl⟩ rfl (by first | assumption | decide | omega) rfl (by decide) (l9) (by first | assumption | decide | omega) ?_
  refine rn_aload_n (pc' := 21) rfl rfl rfl ?_
  refine rn_aload_n (pc' := 22) rfl rfl rfl ?_
  refine rn_getI (N := 1) (pc' := 25) rfl rfl rfl rfl (by decide) rfl (by first | assumption | decide | omega) ?_
  refine rn_iconst (pc' := 26) (v := 1) rfl rfl (by decide) ?_
  refine rn_iadd (pc' := 27) rfl rfl ?_
  refine rn_bipush (pc' := 29) (v := 40) rfl rfl (by decide) ?_
  refine rn_irem (pc' := 30) rfl rfl (by decide) ?_
  refine rn_topI (y := nI ((g + 1) % 40)) e9 ?_
  refine rn_putI (N := 1) (pc' := 33) rfl rfl rfl rfl rfl (by first | assumption | decide | omega) ?_
  refine rn_aload_n (pc' := 34) rfl rfl rfl ?_
  refine rn_aload_n (pc' := 35) rfl rfl rfl ?_
  refine rn_getI (N := 1) (pc' := 38) rfl rfl rfl rfl (by decide) rfl (by first | assumption | decide | omega) ?_
  refine rn_iconst (pc' := 39) (v := 1) rfl rfl (by decide) ?_
  refine rn_iadd (pc' := 40) rfl rfl ?_
  refine rn_bipush (pc' := 42) (v := 40) rfl rfl (by decide) ?_
  refine rn_min (pc' := 45) rfl rfl rfl (by decide) (by decide) (by simp) ?_
  refine rn_topI (y := nI (lgN (g + 1))) e8 ?_
  refine rn_putI (N := 1) (pc' := 48) rfl rfl rfl rfl rfl (by first | assumption | decide | omega) ?_
  refine rn_return rfl rfl ?_
  exact ⟨rfl, Inv_log h hg hg1⟩
theorem c_pl7 {d e t ja jb g : Nat} {D N : xM} (op a b : Int32) (h : Cx e t D N) (hja : ja < 8) (ha : a &&& 7 = nI ja) (hb : b &&& 7 = nI jb) (hop : op.toInt = 7) (hg : N.1 20 0 31 = nI g) (hgt : g ≤ t) : Rn (d + 2) 39 (0, xen 39 [vR 9 0, vR 0 e, vI op, vI a, vI b], [], D) (fun r C' => r = none ∧ AP e (N.1 25 0 e) (t + 1) C' (f_log N e ja g)) := by
  have he := h.1
  have ht := h.2.2.2.2.2.2.1
  have v0 : D.1 0 e 0 = N.1 25 0 e := f1 h.2.1.1.1 he (by decide)
  have ef : f_log N e ja g = mI (mI (mI N 47 0 (g % 40) (N.1 25 0 e)) 48 0 (g % 40) (N.1 31 0 (8 * e + ja))) 20 0 31 (nI (g + 1)) := by
    have x1 : nI (g + 1) = N.1 20 0 31 + 1 := by rw [hg]; exact (nI_1 g).symm
    rw [x1]
    rfl
  rw [ef]
  have hw := c_writeLog (d := d) (N.1 25 0 e) (N.1 31 0 (8 * e + ja)) h.2.1 hg (by omega)
  have hT : Tm (t + 1) (t + 1) (mI (mI (mI N 47 0 (g % 40) (N.1 25 0 e)) 48 0 (g % 40) (N.1 31 0 (8 * e + ja))) 20 0 31 (nI (g + 1))) := ⟨h.2.2.2.2.2.1, ht, ⟨g + 1, by omega, rfl⟩, h.2.2.2.2.2.2.2.2⟩
  refine c_plPre _ op a b he ha hb ?_
  refine rn_swIn (k := 7) (t := 179) rfl hop (by decide) rfl rfl ?_
  refine rn_aload_n (pc' := 180) rfl rfl rfl ?_
  refine rn_aload_n (pc' := 181) rfl rfl rfl ?_
  refine rn_getI (N := 24) (pc' := 184) rfl rfl rfl rfl (by decide) rfl (by first | assumption | decide | omega) ?_
  refine rn_topI v0 ?_
  refine rn_aload (pc' := 186) rfl rfl rfl ?_
  refine rn_iload (pc' := 188) rfl rfl rfl ?_
  refine rn_iald (N := 24) (K := 8) (pc' := 189) rfl rfl ⟨rfl, rfl⟩ rfl (by first | assumption | decide | omega) rfl (by decide) rfl (by first | assumption | decide | omega) ?_
  refine rn_topI (reg_eq h hja) ?_
  refine rn_callV (pc' := 192) (as := [_, _]) rfl rfl rfl ⟨Nat.le_of_ble_eq_true rfl, rfl, rfl⟩ rfl (by first | assumption | decide | omega) (Nat.le_of_ble_eq_true rfl) (Nat.le_of_ble_eq_true rfl) rfl hw (fun r9 D9 hz9 => ?_)
  obtain ⟨rfl, hI⟩ := hz9
  refine rn_goto (pc' := 195) rfl rfl ?_
  refine rn_return rfl rfl ?_
  exact ⟨rfl, AP_of hI (by omega) h.2.2.2.2.1 hT rfl h.n4⟩
