theorem i64_in (p : Int32) (lo hi : Int64) : (lo ≤ p.toInt64 ∧ p.toInt64 ≤ hi) ↔ (lo.toInt ≤ p.toInt ∧ p.toInt ≤ hi.toInt) := by
  rw [Int64.le_iff_toInt_le, Int64.le_iff_toInt_le, Int32.toInt_toInt64]
theorem nI_ofInt {p : Int32} (h : 0 ≤ p.toInt) : ∃ k : Nat, k < 2 ^ 31 ∧ p = nI k ∧ p.toInt = k := by
  obtain ⟨k, hk, rfl⟩ := nI_of (x := p) (fun q => by
    have := Int32.lt_iff_toInt_lt.mp q
    rw [show (0 : Int32).toInt = 0 from rfl] at this
    omega)
  exact ⟨k, hk, rfl, nI_toInt hk⟩
theorem in_cases (p : Int32) (lo hi : Int64) (l h : Nat) (hl : lo.toInt = l) (hh : hi.toInt = h) : ¬ (lo ≤ p.toInt64 ∧ p.toInt64 ≤ hi) ∧ (p.toInt < l ∨ (h : Int) < p.toInt) ∨ ∃ k : Nat, l ≤ k ∧ k ≤ h ∧ p = nI k ∧ k < 2 ^ 31 ∧ (lo ≤ p.toInt64 ∧ p.toInt64 ≤ hi) := by
  by_cases hc : lo ≤ p.toInt64 ∧ p.toInt64 ≤ hi
  · right
    have hc2 := (i64_in p lo hi).mp hc
    rw [hl, hh] at hc2
    obtain ⟨k, h1, h2, h3⟩ := nI_ofInt (p := p) (by omega)
    exact ⟨k, by omega, by omega, h2, h1, hc⟩
  · left
    refine ⟨hc, ?_⟩
    rw [i64_in, hl, hh] at hc
    omega
theorem r_actU {d : Nat} (M : xM) (p op a b : Int32) (hp : ¬ isPr p) : Rn (d + 1) 70 (0, xen 70 [vR 20 0, vI p, vI op, vI a, vI b], [], M) (fun r M' => r = some (vI (-1001)) ∧ M' = M) := by
  show Rn _ 70 (0, [some (vR 20 0), some (vI p), some (vI op), some (vI a), some (vI b), none], [], _) _
  refine rn_iload_n (pc' := 1) rfl rfl rfl ?_
  refine rn_i2l (pc' := 2) rfl rfl ?_
  refine rn_lconst (pc' := 3) (v := 0) rfl rfl rfl ?_
  refine rn_ldc2_w (pc' := 6) (v := 15) rfl rfl rfl ?_
  refine rn_callS (pc' := 9) (as := [_, _, _]) rfl rfl rfl ⟨rfl, rfl, rfl⟩ (Nat.le_of_ble_eq_true rfl) (Nat.le_of_ble_eq_true rfl) rfl (r_in M _ 0 15) (fun r1 M1 hz => ?_)
  obtain ⟨rfl, hm_⟩ := hz
  refine rn_mem hm_ ?_
  clear hm_
  refine rn_if_ne (t := 16) (pc' := 12) rfl rfl rfl (fun h2 => ?_) (fun h2 => ?_)
  · exact absurd (ite01.mpr hp) h2
  · refine rn_sipush (pc' := 15) (v := (-1001)) rfl rfl (by decide) ?_
    refine rn_ireturn rfl rfl ?_
    exact ⟨rfl, rfl⟩
theorem r_actF {d k : Nat} (M : xM) (op a b : Int32) (hp : isPr (nI k)) (hk : k < 16) (h60 : M.1 21 0 k = 60) : Rn (d + 1) 70 (0, xen 70 [vR 20 0, vI (nI k), vI op, vI a, vI b], [], M) (fun r M' => r = some (vI (-1004)) ∧ M' = M) := by
  show Rn _ 70 (0, [some (vR 20 0), some (vI (nI k)), some (vI op), some (vI a), some (vI b), none], [], _) _
  refine rn_iload_n (pc' := 1) rfl rfl rfl ?_
  refine rn_i2l (pc' := 2) rfl rfl ?_
  refine rn_lconst (pc' := 3) (v := 0) rfl rfl rfl ?_
  refine rn_ldc2_w (pc' := 6) (v := 15) rfl rfl rfl ?_
  refine rn_callS (pc' := 9) (as := [_, _, _]) rfl rfl rfl ⟨rfl, rfl, rfl⟩ (Nat.le_of_ble_eq_true rfl) (Nat.le_of_ble_eq_true rfl) rfl (r_in M _ 0 15) (fun r1 M1 hz => ?_)
  obtain ⟨rfl, hm_⟩ := hz
  refine rn_mem hm_ ?_
  clear hm_
  refine rn_if_ne (t := 16) (pc' := 12) rfl rfl rfl (fun h2 => ?_) (fun h2 => ?_)
  · refine rn_aload_n (pc' := 17) rfl rfl rfl ?_
    refine rn_getF (N := 1) (t' := 21) (pc' := 20) rfl rfl rfl rfl rfl (by first | assumption | decide | omega) ?_
    refine rn_iload_n (pc' := 21) rfl rfl rfl ?_
    refine rn_iald (N := 1) (K := 16) (pc' := 22) rfl rfl ⟨rfl, rfl⟩ rfl (by first | assumption | decide | omega) rfl (by decide) rfl (by first | assumption | decide | omega) ?_
    refine rn_bipush (pc' := 24) (v := 60) rfl rfl (by decide) ?_
    refine rn_ic_ne (t := 31) (pc' := 27) rfl rfl rfl (fun h3 => ?_) (fun h3 => ?_)
    · exact absurd h60 h3
    · refine rn_sipush (pc' := 30) (v := (-1004)) rfl rfl (by decide) ?_
      refine rn_ireturn rfl rfl ?_
      exact ⟨rfl, rfl⟩
  · exact absurd hp (ite01.mp h2)
def f_act (M : xM) (k n : Nat) (op a b : Int32) : xM :=
  let A := mI M 22 0 (60 * k + n) op
  let B := mI A 23 0 (60 * k + n) a
  let C := mI B 24 0 (60 * k + n) b
  mI C 21 0 k (C.1 21 0 k + 1)
theorem r_actY {d k n : Nat} (M : xM) (op a b : Int32) (hp : isPr (nI k)) (hk : k < 16) (hn : M.1 21 0 k = nI n) (h60 : n < 60) : Rn (d + 1) 70 (0, xen 70 [vR 20 0, vI (nI k), vI op, vI a, vI b], [], M) (fun r M' => r = some (vI (nI (n + 1))) ∧ M' = f_act M k n op a b) := by
  have e1 : (mI (mI (mI M 22 0 (60 * k + n) op) 23 0 (60 * k + n) a) 24 0 (60 * k + n) b).1 21 0 k + 1 = nI (n + 1) := by
    show M.1 21 0 k + 1 = _
    rw [hn]; exact nI_1 n
  have e2 : (f_act M k n op a b).1 21 0 k = nI (n + 1) := by
    unfold f_act
    show (if 21 = 21 ∧ 0 = 0 ∧ k = k then _ else _) = _
    rw [if_pos ⟨rfl, rfl, rfl⟩]; exact e1
  show Rn _ 70 (0, [some (vR 20 0), some (vI (nI k)), some (vI op), some (vI a), some (vI b), none], [], _) _
  refine rn_iload_n (pc' := 1) rfl rfl rfl ?_
  refine rn_i2l (pc' := 2) rfl rfl ?_
  refine rn_lconst (pc' := 3) (v := 0) rfl rfl rfl ?_
  refine rn_ldc2_w (pc' := 6) (v := 15) rfl rfl rfl ?_
  refine rn_callS (pc' := 9) (as := [_, _, _]) rfl rfl rfl ⟨rfl, rfl, rfl⟩ (Nat.le_of_ble_eq_true rfl) (Nat.le_of_ble_eq_true rfl) rfl (r_in M _ 0 15) (fun r1 M1 hz => ?_)
  obtain ⟨rfl, hm_⟩ := hz
  refine rn_mem hm_ ?_
  clear hm_
  refine rn_if_ne (t := 16) (pc' := 12) rfl rfl rfl (fun h2 => ?_) (fun h2 => ?_)
  · refine rn_aload_n (pc' := 17) rfl rfl rfl ?_
    refine rn_getF (N := 1) (t' := 21) (pc' := 20) rfl rfl rfl rfl rfl (by first | assumption | decide | omega) ?_
    refine rn_iload_n (pc' := 21) rfl rfl rfl ?_
    refine rn_iald (N := 1) (K := 16) (pc' := 22) rfl rfl ⟨rfl, rfl⟩ rfl (by first | assumption | decide | omega) rfl (by decide) rfl (by first | assumption | decide | omega) ?_
    refine rn_bipush (pc' := 24) (v := 60) rfl rfl (by decide) ?_
    refine rn_ic_ne (t := 31) (pc' := 27) rfl rfl rfl (fun h3 => ?_) (fun h3 => ?_)
    · refine rn_bipush (pc' := 33) (v := 60) rfl rfl (by decide) ?_
      refine rn_iload_n (pc' := 34) rfl rfl rfl ?_
      refine rn_imul (pc' := 35) rfl rfl ?_
      refine rn_aload_n (pc' := 36) rfl rfl rfl ?_
      refine rn_getF (N := 1) (t' := 21) (pc' := 39) rfl rfl rfl rfl rfl (by first | assumption | decide | omega) ?_
      refine rn_iload_n (pc' := 40) rfl rfl rfl ?_
      refine rn_iald (N := 1) (K := 16) (pc' := 41) rfl rfl ⟨rfl, rfl⟩ rfl (by first | assumption | decide | omega) rfl (by decide) rfl (by first | assumption | decide | omega) ?_
      refine rn_topI (y := nI n) hn ?_
      refine rn_iadd (pc' := 42) rfl rfl ?_
      refine rn_topI (ix60 k n) ?_
      refine rn_istore (pc' := 44) rfl rfl rfl (Nat.le_of_ble_eq_true rfl) rfl ?_
      refine rn_aload_n (pc' := 45) rfl rfl rfl ?_
      refine rn_getF (N := 1) (t' := 22) (pc' := 48) rfl rfl rfl rfl rfl (by first | assumption | decide | omega) ?_
      refine rn_iload (pc' := 50) rfl rfl rfl ?_
      refine rn_iload_n (pc' := 51) rfl rfl rfl ?_
      refine rn_iast (k := 60 * k + n) (N := 1) (K := 960) (pc' := 52) rfl rfl ⟨rfl, rfl⟩ rfl (by first | assumption | decide | omega) rfl (by decide) (rfl) (by first | assumption | decide | omega) ?_
      refine rn_aload_n (pc' := 53) rfl rfl rfl ?_
      refine rn_getF (N := 1) (t' := 23) (pc' := 56) rfl rfl rfl rfl rfl (by first | assumption | decide | omega) ?_
      refine rn_iload (pc' := 58) rfl rfl rfl ?_
      refine rn_iload_n (pc' := 59) rfl rfl rfl ?_
      refine rn_iast (k := 60 * k + n) (N := 1) (K := 960) (pc' := 60) rfl rfl ⟨rfl, rfl⟩ rfl (by first | assumption | decide | omega) rfl (by decide) (rfl) (by first | assumption | decide | omega) ?_
      refine rn_aload_n (pc' := 61) rfl rfl rfl ?_
      refine rn_getF (N := 1) (t' := 24) (pc' := 64) rfl rfl rfl rfl rfl (by first | assumption | decide | omega) ?_
      refine rn_iload (pc' := 66) rfl rfl rfl ?_
      refine rn_iload (pc' := 68) rfl rfl rfl ?_
      refine rn_iast (k := 60 * k + n) (N := 1) (K := 960) (pc' := 69) rfl rfl ⟨rfl, rfl⟩ rfl (by first | assumption | decide | omega) rfl (by decide) (rfl) (by first | assumption | decide | omega) ?_
      refine rn_aload_n (pc' := 70) rfl rfl rfl ?_
      refine rn_getF (N := 1) (t' := 21) (pc' := 73) rfl rfl rfl rfl rfl (by first | assumption | decide | omega) ?_
      refine rn_iload_n (pc' := 74) rfl rfl rfl ?_
      refine rn_dup2 (pc' := 75) rfl rfl ?_
      refine rn_iald (N := 1) (K := 16) (pc' := 76) rfl rfl ⟨rfl, rfl⟩ rfl (by first | assumption | decide | omega) rfl (by decide) rfl (by first | assumption | decide | omega) ?_
      refine rn_iconst (pc' := 77) (v := 1) rfl rfl (by decide) ?_
      refine rn_iadd (pc' := 78) rfl rfl ?_
      refine rn_iast (N := 1) (K := 16) (pc' := 79) rfl rfl ⟨rfl, rfl⟩ rfl (by first | assumption | decide | omega) rfl (by decide) rfl (by first | assumption | decide | omega) ?_
      refine rn_aload_n (pc' := 80) rfl rfl rfl ?_
      refine rn_getF (N := 1) (t' := 21) (pc' := 83) rfl rfl rfl rfl rfl (by first | assumption | decide | omega) ?_
      refine rn_iload_n (pc' := 84) rfl rfl rfl ?_
      refine rn_iald (N := 1) (K := 16) (pc' := 85) rfl rfl ⟨rfl, rfl⟩ rfl (by first | assumption | decide | omega) rfl (by decide) rfl (by first | assumption | decide | omega) ?_
      refine rn_ireturn rfl rfl ?_
      exact ⟨congrArg (fun x => some (vI x)) e2, rfl⟩
    · exact absurd (show nI n = 60 from hn ▸ h3) (fun q => absurd ((nI_eq (a := n) (b := 60) (by omega) (by decide)).mp q) (by omega))
  · exact absurd hp (ite01.mp h2)
theorem r_wipeU {d : Nat} (M : xM) (p : Int32) (hp : ¬ isPr p) : Rn (d + 1) 71 (0, xen 71 [vR 20 0, vI p], [], M) (fun r M' => r = some (vI (-1001)) ∧ M' = M) := by
  show Rn _ 71 (0, [some (vR 20 0), some (vI p), none], [], _) _
  refine rn_iload_n (pc' := 1) rfl rfl rfl ?_
  refine rn_i2l (pc' := 2) rfl rfl ?_
  refine rn_lconst (pc' := 3) (v := 0) rfl rfl rfl ?_
  refine rn_ldc2_w (pc' := 6) (v := 15) rfl rfl rfl ?_
  refine rn_callS (pc' := 9) (as := [_, _, _]) rfl rfl rfl ⟨rfl, rfl, rfl⟩ (Nat.le_of_ble_eq_true rfl) (Nat.le_of_ble_eq_true rfl) rfl (r_in M _ 0 15) (fun r1 M1 hz => ?_)
  obtain ⟨rfl, hm_⟩ := hz
  refine rn_mem hm_ ?_
  clear hm_
  refine rn_if_ne (t := 16) (pc' := 12) rfl rfl rfl (fun h2 => ?_) (fun h2 => ?_)
  · exact absurd (ite01.mpr hp) h2
  · refine rn_sipush (pc' := 15) (v := (-1001)) rfl rfl (by decide) ?_
    refine rn_ireturn rfl rfl ?_
    exact ⟨rfl, rfl⟩
theorem r_wipeY {d k : Nat} (M : xM) (hp : isPr (nI k)) (hk : k < 16) : Rn (d + 1) 71 (0, xen 71 [vR 20 0, vI (nI k)], [], M) (fun r M' => r = some (vI (M.1 21 0 k)) ∧ M' = mI M 21 0 k 0) := by
  show Rn _ 71 (0, [some (vR 20 0), some (vI (nI k)), none], [], _) _
  refine rn_iload_n (pc' := 1) rfl rfl rfl ?_
  refine rn_i2l (pc' := 2) rfl rfl ?_
  refine rn_lconst (pc' := 3) (v := 0) rfl rfl rfl ?_
  refine rn_ldc2_w (pc' := 6) (v := 15) rfl rfl rfl ?_
  refine rn_callS (pc' := 9) (as := [_, _, _]) rfl rfl rfl ⟨rfl, rfl, rfl⟩ (Nat.le_of_ble_eq_true rfl) (Nat.le_of_ble_eq_true rfl) rfl (r_in M _ 0 15) (fun r1 M1 hz => ?_)
  obtain ⟨rfl, hm_⟩ := hz
  refine rn_mem hm_ ?_
  clear hm_
  refine rn_if_ne (t := 16) (pc' := 12) rfl rfl rfl (fun h2 => ?_) (fun h2 => ?_)
  · refine rn_aload_n (pc' := 17) rfl rfl rfl ?_
    refine rn_getF (N := 1) (t' := 21) (pc' := 20) rfl rfl rfl rfl rfl (by first | assumption | decide | omega) ?_
    refine rn_iload_n (pc' := 21) rfl rfl rfl ?_
    refine rn_iald (N := 1) (K := 16) (pc' := 22) rfl rfl ⟨rfl, rfl⟩ rfl (by first | assumption | decide | omega) rfl (by decide) rfl (by first | assumption | decide | omega) ?_
    refine rn_istore_n (pc' := 23) rfl rfl rfl (Nat.le_of_ble_eq_true rfl) rfl ?_
    refine rn_aload_n (pc' := 24) rfl rfl rfl ?_
    refine rn_getF (N := 1) (t' := 21) (pc' := 27) rfl rfl rfl rfl rfl (by first | assumption | decide | omega) ?_
    refine rn_iload_n (pc' := 28) rfl rfl rfl ?_
    refine rn_iconst (pc' := 29) (v := 0) rfl rfl (by decide) ?_
    refine rn_iast (N := 1) (K := 16) (pc' := 30) rfl rfl ⟨rfl, rfl⟩ rfl (by first | assumption | decide | omega) rfl (by decide) rfl (by first | assumption | decide | omega) ?_
    refine rn_iload_n (pc' := 31) rfl rfl rfl ?_
    refine rn_ireturn rfl rfl ?_
    exact ⟨rfl, rfl⟩
  · exact absurd hp (ite01.mp h2)
theorem r_entryU {d : Nat} (M : xM) (p : Int32) (hp : ¬ (0 ≤ p.toInt64 ∧ p.toInt64 ≤ 23)) : Rn (d + 1) 100 (0, xen 100 [vR 20 0, vI p], [], M) (fun r M' => r = some (vI (-1001)) ∧ M' = M) := by
  show Rn _ 100 (0, [some (vR 20 0), some (vI p)], [], _) _
  refine rn_iload_n (pc' := 1) rfl rfl rfl ?_
  refine rn_i2l (pc' := 2) rfl rfl ?_
  refine rn_lconst (pc' := 3) (v := 0) rfl rfl rfl ?_
  refine rn_ldc2_w (pc' := 6) (v := 23) rfl rfl rfl ?_
  refine rn_callS (pc' := 9) (as := [_, _, _]) rfl rfl rfl ⟨rfl, rfl, rfl⟩ (Nat.le_of_ble_eq_true rfl) (Nat.le_of_ble_eq_true rfl) rfl (r_in M _ 0 23) (fun r1 M1 hz => ?_)
  obtain ⟨rfl, hm_⟩ := hz
  refine rn_mem hm_ ?_
  clear hm_
  refine rn_if_eq (t := 21) (pc' := 12) rfl rfl rfl (fun h2 => ?_) (fun h2 => ?_)
  · refine rn_sipush (pc' := 24) (v := (-1001)) rfl rfl (by decide) ?_
    refine rn_ireturn rfl rfl ?_
    exact ⟨rfl, rfl⟩
  · exact absurd (ite01.mpr hp) h2
theorem r_entryY {d k : Nat} (M : xM) (hp : 0 ≤ (nI k).toInt64 ∧ (nI k).toInt64 ≤ 23) (hk : k < 24) : Rn (d + 1) 100 (0, xen 100 [vR 20 0, vI (nI k)], [], M) (fun r M' => r = some (vI (rpid M k)) ∧ M' = M) := by
  show Rn _ 100 (0, [some (vR 20 0), some (vI (nI k))], [], _) _
  refine rn_iload_n (pc' := 1) rfl rfl rfl ?_
  refine rn_i2l (pc' := 2) rfl rfl ?_
  refine rn_lconst (pc' := 3) (v := 0) rfl rfl rfl ?_
  refine rn_ldc2_w (pc' := 6) (v := 23) rfl rfl rfl ?_
  refine rn_callS (pc' := 9) (as := [_, _, _]) rfl rfl rfl ⟨rfl, rfl, rfl⟩ (Nat.le_of_ble_eq_true rfl) (Nat.le_of_ble_eq_true rfl) rfl (r_in M _ 0 23) (fun r1 M1 hz => ?_)
  obtain ⟨rfl, hm_⟩ := hz
  refine rn_mem hm_ ?_
  clear hm_
  refine rn_if_eq (t := 21) (pc' := 12) rfl rfl rfl (fun h2 => ?_) (fun h2 => ?_)
  · exact absurd hp (ite01.mp h2)
  · refine rn_aload_n (pc' := 13) rfl rfl rfl ?_
    refine rn_getF (N := 1) (t' := 25) (pc' := 16) rfl rfl rfl rfl rfl (by first | assumption | decide | omega) ?_
    refine rn_iload_n (pc' := 17) rfl rfl rfl ?_
    refine rn_iald (N := 1) (K := 24) (pc' := 18) rfl rfl ⟨rfl, rfl⟩ rfl (by first | assumption | decide | omega) rfl (by decide) rfl (by first | assumption | decide | omega) ?_
    refine rn_goto (pc' := 24) rfl rfl ?_
    refine rn_ireturn rfl rfl ?_
    exact ⟨rfl, rfl⟩
theorem oI_some {o : Option Nat} {e : Nat} (h : o = some e) : oI o = nI e := by rw [h]; rfl
theorem r_toldU {d : Nat} (M : xM) (p w : Int32) (h : eo M p = none) : Rn (d + 1) 101 (0, xen 101 [vR 20 0, vI p, vI w], [], M) (fun r M' => r = some (vI (-1001)) ∧ M' = M) := by
  have ho := oI_neg (o := eo M p) (fun e h => eo_lt h)
  show Rn _ 101 (0, [some (vR 20 0), some (vI p), some (vI w), none], [], _) _
  refine rn_aload_n (pc' := 1) rfl rfl rfl ?_
  refine rn_iload_n (pc' := 2) rfl rfl rfl ?_
  refine rn_callV (pc' := 5) (as := [_]) rfl rfl rfl ⟨Nat.le_of_ble_eq_true rfl, rfl, rfl⟩ rfl (by first | assumption | decide | omega) (Nat.le_of_ble_eq_true rfl) (Nat.le_of_ble_eq_true rfl) rfl (r_entryOf M p) (fun r1 M1 hz => ?_)
  obtain ⟨rfl, hm_⟩ := hz
  refine rn_mem hm_ ?_
  clear hm_
  refine rn_istore_n (pc' := 6) rfl rfl rfl (Nat.le_of_ble_eq_true rfl) rfl ?_
  refine rn_iload_n (pc' := 7) rfl rfl rfl ?_
  refine rn_if_ge (t := 14) (pc' := 10) rfl rfl rfl (fun h2 => ?_) (fun h2 => ?_)
  · exact absurd (ho.mpr h) h2
  · refine rn_sipush (pc' := 13) (v := (-1001)) rfl rfl (by decide) ?_
    refine rn_ireturn rfl rfl ?_
    exact ⟨rfl, rfl⟩
def tdV (M : xM) (e : Nat) (w : Int32) : Int32 := if w.toInt = 0 then rste M e else if w.toInt = 1 then rpar M e else if w.toInt = 2 then rgrp M e else if w.toInt = 3 then rprg M e else if w.toInt = 4 then rnxt M e else if w.toInt = 5 then rpnd M e else if w.toInt = 6 then rblk M e else if w.toInt = 7 then rhnd M e else if w.toInt = 8 then until_ M e else if w.toInt = 9 then (if rste M e = 4 then M.1 39 0 e else 0) else -1002
theorem r_told {d e : Nat} (M : xM) (p w : Int32) (h : eo M p = some e) : Rn (d + 1) 101 (0, xen 101 [vR 20 0, vI p, vI w], [], M) (fun r M' => r = some (vI (tdV M e w)) ∧ M' = M) := by
  have he := eo_lt h
  have hp := nI_pos (n := e) (by omega)
  show Rn _ 101 (0, [some (vR 20 0), some (vI p), some (vI w), none], [], _) _
  refine rn_aload_n (pc' := 1) rfl rfl rfl ?_
  refine rn_iload_n (pc' := 2) rfl rfl rfl ?_
  refine rn_callV (pc' := 5) (as := [_]) rfl rfl rfl ⟨Nat.le_of_ble_eq_true rfl, rfl, rfl⟩ rfl (by first | assumption | decide | omega) (Nat.le_of_ble_eq_true rfl) (Nat.le_of_ble_eq_true rfl) rfl (r_entryOf M p) (fun r1 M1 hz => ?_)
  obtain ⟨rfl, hm_⟩ := hz
  refine rn_mem hm_ ?_
  clear hm_
  refine rn_topI (oI_some h) ?_
  refine rn_istore_n (pc' := 6) rfl rfl rfl (Nat.le_of_ble_eq_true rfl) rfl ?_
  refine rn_iload_n (pc' := 7) rfl rfl rfl ?_
  refine rn_if_ge (t := 14) (pc' := 10) rfl rfl rfl (fun h2 => ?_) (fun h2 => ?_)
  · refine rn_iload_n (pc' := 15) rfl rfl rfl ?_
    rcases x_sw w (0) 10 with hw | ⟨k_, hk_, hw⟩
    · refine rn_swOut (t := 174) rfl (by omega) rfl ?_
      refine rn_sipush (pc' := 177) (v := (-1002)) rfl rfl (by decide) ?_
      refine rn_ireturn rfl rfl ?_
      refine ⟨?_, rfl⟩
      try simp only [lg_gt] at *
      first | (simp [tdV, until_, ralm, hw, *]; done) | (unfold tdV; simp only [hw]; simp [until_, ralm, *]; done) | (unfold tdV; rw [if_neg (by omega), if_neg (by omega), if_neg (by omega), if_neg (by omega), if_neg (by omega), if_neg (by omega), if_neg (by omega), if_neg (by omega), if_neg (by omega), if_neg (by omega)])
    · rcases (show k_ = 0 ∨ k_ = 1 ∨ k_ = 2 ∨ k_ = 3 ∨ k_ = 4 ∨ k_ = 5 ∨ k_ = 6 ∨ k_ = 7 ∨ k_ = 8 ∨ k_ = 9 by omega) with rfl | rfl | rfl | rfl | rfl | rfl | rfl | rfl | rfl | rfl
      · refine rn_swIn (k := 0) (t := 68) rfl hw (by decide) rfl rfl ?_
        refine rn_aload_n (pc' := 69) rfl rfl rfl ?_
        refine rn_getF (N := 1) (t' := 28) (pc' := 72) rfl rfl rfl rfl rfl (by first | assumption | decide | omega) ?_
        refine rn_iload_n (pc' := 73) rfl rfl rfl ?_
        refine rn_iald (N := 1) (K := 24) (pc' := 74) rfl rfl ⟨rfl, rfl⟩ rfl (by first | assumption | decide | omega) rfl (by decide) rfl (by first | assumption | decide | omega) ?_
        refine rn_ireturn rfl rfl ?_
        refine ⟨?_, rfl⟩
        try simp only [lg_gt] at *
        first | (simp [tdV, until_, ralm, hw, *]; done) | (unfold tdV; simp only [hw]; simp [until_, ralm, *]; done) | (unfold tdV; rw [if_neg (by omega), if_neg (by omega), if_neg (by omega), if_neg (by omega), if_neg (by omega), if_neg (by omega), if_neg (by omega), if_neg (by omega), if_neg (by omega), if_neg (by omega)])
      · refine rn_swIn (k := 1) (t := 75) rfl hw (by decide) rfl rfl ?_
        refine rn_aload_n (pc' := 76) rfl rfl rfl ?_
        refine rn_getF (N := 1) (t' := 26) (pc' := 79) rfl rfl rfl rfl rfl (by first | assumption | decide | omega) ?_
        refine rn_iload_n (pc' := 80) rfl rfl rfl ?_
        refine rn_iald (N := 1) (K := 24) (pc' := 81) rfl rfl ⟨rfl, rfl⟩ rfl (by first | assumption | decide | omega) rfl (by decide) rfl (by first | assumption | decide | omega) ?_
        refine rn_ireturn rfl rfl ?_
        refine ⟨?_, rfl⟩
        try simp only [lg_gt] at *
        first | (simp [tdV, until_, ralm, hw, *]; done) | (unfold tdV; simp only [hw]; simp [until_, ralm, *]; done) | (unfold tdV; rw [if_neg (by omega), if_neg (by omega), if_neg (by omega), if_neg (by omega), if_neg (by omega), if_neg (by omega), if_neg (by omega), if_neg (by omega), if_neg (by omega), if_neg (by omega)])
      · refine rn_swIn (k := 2) (t := 82) rfl hw (by decide) rfl rfl ?_
        refine rn_aload_n (pc' := 83) rfl rfl rfl ?_
        refine rn_getF (N := 1) (t' := 27) (pc' := 86) rfl rfl rfl rfl rfl (by first | assumption | decide | omega) ?_
        refine rn_iload_n (pc' := 87) rfl rfl rfl ?_
        refine rn_iald (N := 1) (K := 24) (pc' := 88) rfl rfl ⟨rfl, rfl⟩ rfl (by first | assumption | decide | omega) rfl (by decide) rfl (by first | assumption | decide | omega) ?_
        refine rn_ireturn rfl rfl ?_
        refine ⟨?_, rfl⟩
        try simp only [lg_gt] at *
        first | (simp [tdV, until_, ralm, hw, *]; done) | (unfold tdV; simp only [hw]; simp [until_, ralm, *]; done) | (unfold tdV; rw [if_neg (by omega), if_neg (by omega), if_neg (by omega), if_neg (by omega), if_neg (by omega), if_neg (by omega), if_neg (by omega), if_neg (by omega), if_neg (by omega), if_neg (by omega)])
      · refine rn_swIn (k := 3) (t := 89) rfl hw (by decide) rfl rfl ?_
        refine rn_aload_n (pc' := 90) rfl rfl rfl ?_
        refine rn_getF (N := 1) (t' := 29) (pc' := 93) rfl rfl rfl rfl rfl (by first | assumption | decide | omega) ?_
        refine rn_iload_n (pc' := 94) rfl rfl rfl ?_
        refine rn_iald (N := 1) (K := 24) (pc' := 95) rfl rfl ⟨rfl, rfl⟩ rfl (by first | assumption | decide | omega) rfl (by decide) rfl (by first | assumption | decide | omega) ?_
        refine rn_ireturn rfl rfl ?_
        refine ⟨?_, rfl⟩
        try simp only [lg_gt] at *
        first | (simp [tdV, until_, ralm, hw, *]; done) | (unfold tdV; simp only [hw]; simp [until_, ralm, *]; done) | (unfold tdV; rw [if_neg (by omega), if_neg (by omega), if_neg (by omega), if_neg (by omega), if_neg (by omega), if_neg (by omega), if_neg (by omega), if_neg (by omega), if_neg (by omega), if_neg (by omega)])
      · refine rn_swIn (k := 4) (t := 96) rfl hw (by decide) rfl rfl ?_
        refine rn_aload_n (pc' := 97) rfl rfl rfl ?_
        refine rn_getF (N := 1) (t' := 30) (pc' := 100) rfl rfl rfl rfl rfl (by first | assumption | decide | omega) ?_
        refine rn_iload_n (pc' := 101) rfl rfl rfl ?_
        refine rn_iald (N := 1) (K := 24) (pc' := 102) rfl rfl ⟨rfl, rfl⟩ rfl (by first | assumption | decide | omega) rfl (by decide) rfl (by first | assumption | decide | omega) ?_
        refine rn_ireturn rfl rfl ?_
        refine ⟨?_, rfl⟩
        try simp only [lg_gt] at *
        first | (simp [tdV, until_, ralm, hw, *]; done) | (unfold tdV; simp only [hw]; simp [until_, ralm, *]; done) | (unfold tdV; rw [if_neg (by omega), if_neg (by omega), if_neg (by omega), if_neg (by omega), if_neg (by omega), if_neg (by omega), if_neg (by omega), if_neg (by omega), if_neg (by omega), if_neg (by omega)])
      · refine rn_swIn (k := 5) (t := 103) rfl hw (by decide) rfl rfl ?_
        refine rn_aload_n (pc' := 104) rfl rfl rfl ?_
        refine rn_getF (N := 1) (t' := 33) (pc' := 107) rfl rfl rfl rfl rfl (by first | assumption | decide | omega) ?_
        refine rn_iload_n (pc' := 108) rfl rfl rfl ?_
        refine rn_iald (N := 1) (K := 24) (pc' := 109) rfl rfl ⟨rfl, rfl⟩ rfl (by first | assumption | decide | omega) rfl (by decide) rfl (by first | assumption | decide | omega) ?_
        refine rn_ireturn rfl rfl ?_
        refine ⟨?_, rfl⟩
        try simp only [lg_gt] at *
        first | (simp [tdV, until_, ralm, hw, *]; done) | (unfold tdV; simp only [hw]; simp [until_, ralm, *]; done) | (unfold tdV; rw [if_neg (by omega), if_neg (by omega), if_neg (by omega), if_neg (by omega), if_neg (by omega), if_neg (by omega), if_neg (by omega), if_neg (by omega), if_neg (by omega), if_neg (by omega)])
      · refine rn_swIn (k := 6) (t := 110) rfl hw (by decide) rfl rfl ?_
        refine rn_aload_n (pc' := 111) rfl rfl rfl ?_
        refine rn_getF (N := 1) (t' := 34) (pc' := 114) rfl rfl rfl rfl rfl (by first | assumption | decide | omega) ?_
        refine rn_iload_n (pc' := 115) rfl rfl rfl ?_
        refine rn_iald (N := 1) (K := 24) (pc' := 116) rfl rfl ⟨rfl, rfl⟩ rfl (by first | assumption | decide | omega) rfl (by decide) rfl (by first | assumption | decide | omega) ?_
        refine rn_ireturn rfl rfl ?_
        refine ⟨?_, rfl⟩
        try simp only [lg_gt] at *
        first | (simp [tdV, until_, ralm, hw, *]; done) | (unfold tdV; simp only [hw]; simp [until_, ralm, *]; done) | (unfold tdV; rw [if_neg (by omega), if_neg (by omega), if_neg (by omega), if_neg (by omega), if_neg (by omega), if_neg (by omega), if_neg (by omega), if_neg (by omega), if_neg (by omega), if_neg (by omega)])
      · refine rn_swIn (k := 7) (t := 117) rfl hw (by decide) rfl rfl ?_
        refine rn_aload_n (pc' := 118) rfl rfl rfl ?_
        refine rn_getF (N := 1) (t' := 35) (pc' := 121) rfl rfl rfl rfl rfl (by first | assumption | decide | omega) ?_
        refine rn_iload_n (pc' := 122) rfl rfl rfl ?_
        refine rn_iald (N := 1) (K := 24) (pc' := 123) rfl rfl ⟨rfl, rfl⟩ rfl (by first | assumption | decide | omega) rfl (by decide) rfl (by first | assumption | decide | omega) ?_
        refine rn_ireturn rfl rfl ?_
        refine ⟨?_, rfl⟩
        try simp only [lg_gt] at *
        first | (simp [tdV, until_, ralm, hw, *]; done) | (unfold tdV; simp only [hw]; simp [until_, ralm, *]; done) | (unfold tdV; rw [if_neg (by omega), if_neg (by omega), if_neg (by omega), if_neg (by omega), if_neg (by omega), if_neg (by omega), if_neg (by omega), if_neg (by omega), if_neg (by omega), if_neg (by omega)])
      · refine rn_swIn (k := 8) (t := 124) rfl hw (by decide) rfl rfl ?_
        refine rn_aload_n (pc' := 125) rfl rfl rfl ?_
        refine rn_getF (N := 1) (t' := 38) (pc' := 128) rfl rfl rfl rfl rfl (by first | assumption | decide | omega) ?_
        refine rn_iload_n (pc' := 129) rfl rfl rfl ?_
        refine rn_lald (N := 1) (K := 24) (pc' := 130) rfl rfl ⟨rfl, rfl⟩ rfl (by first | assumption | decide | omega) rfl (by decide) rfl (by first | assumption | decide | omega) ?_
        refine rn_lconst (pc' := 131) (v := 0) rfl rfl rfl ?_
        refine rn_lcmp (pc' := 132) rfl rfl ?_
        refine rn_if_le (t := 151) (pc' := 135) rfl rfl rfl (fun h4 => ?_) (fun h4 => ?_)
        · refine rn_iconst (pc' := 152) (v := 0) rfl rfl (by decide) ?_
          refine rn_ireturn rfl rfl ?_
          refine ⟨?_, rfl⟩
          try simp only [lg_gt] at *
          first | (simp [tdV, until_, ralm, hw, *]; done) | (unfold tdV; simp only [hw]; simp [until_, ralm, *]; done) | (unfold tdV; rw [if_neg (by omega), if_neg (by omega), if_neg (by omega), if_neg (by omega), if_neg (by omega), if_neg (by omega), if_neg (by omega), if_neg (by omega), if_neg (by omega), if_neg (by omega)])
        · refine rn_aload_n (pc' := 136) rfl rfl rfl ?_
          refine rn_getF (N := 1) (t' := 38) (pc' := 139) rfl rfl rfl rfl rfl (by first | assumption | decide | omega) ?_
          refine rn_iload_n (pc' := 140) rfl rfl rfl ?_
          refine rn_lald (N := 1) (K := 24) (pc' := 141) rfl rfl ⟨rfl, rfl⟩ rfl (by first | assumption | decide | omega) rfl (by decide) rfl (by first | assumption | decide | omega) ?_
          refine rn_aload_n (pc' := 142) rfl rfl rfl ?_
          refine rn_getI (N := 1) (pc' := 145) rfl rfl rfl rfl (by decide) rfl (by first | assumption | decide | omega) ?_
          refine rn_i2l (pc' := 146) rfl rfl ?_
          refine rn_lsub (pc' := 147) rfl rfl ?_
          refine rn_l2i (pc' := 148) rfl rfl ?_
          refine rn_goto (pc' := 152) rfl rfl ?_
          refine rn_ireturn rfl rfl ?_
          refine ⟨?_, rfl⟩
          try simp only [lg_gt] at *
          first | (simp [tdV, until_, ralm, hw, *]; done) | (unfold tdV; simp only [hw]; simp [until_, ralm, *]; done) | (unfold tdV; rw [if_neg (by omega), if_neg (by omega), if_neg (by omega), if_neg (by omega), if_neg (by omega), if_neg (by omega), if_neg (by omega), if_neg (by omega), if_neg (by omega), if_neg (by omega)])
      · refine rn_swIn (k := 9) (t := 153) rfl hw (by decide) rfl rfl ?_
        refine rn_aload_n (pc' := 154) rfl rfl rfl ?_
        refine rn_getF (N := 1) (t' := 28) (pc' := 157) rfl rfl rfl rfl rfl (by first | assumption | decide | omega) ?_
        refine rn_iload_n (pc' := 158) rfl rfl rfl ?_
        refine rn_iald (N := 1) (K := 24) (pc' := 159) rfl rfl ⟨rfl, rfl⟩ rfl (by first | assumption | decide | omega) rfl (by decide) rfl (by first | assumption | decide | omega) ?_
        refine rn_iconst (pc' := 160) (v := 4) rfl rfl (by decide) ?_
        refine rn_ic_ne (t := 172) (pc' := 163) rfl rfl rfl (fun h4 => ?_) (fun h4 => ?_)
        · refine rn_iconst (pc' := 173) (v := 0) rfl rfl (by decide) ?_
          refine rn_ireturn rfl rfl ?_
          refine ⟨?_, rfl⟩
          try simp only [lg_gt] at *
          first | (simp [tdV, until_, ralm, hw, *]; done) | (unfold tdV; simp only [hw]; simp [until_, ralm, *]; done) | (unfold tdV; rw [if_neg (by omega), if_neg (by omega), if_neg (by omega), if_neg (by omega), if_neg (by omega), if_neg (by omega), if_neg (by omega), if_neg (by omega), if_neg (by omega), if_neg (by omega)])
        · refine rn_aload_n (pc' := 164) rfl rfl rfl ?_
          refine rn_getF (N := 1) (t' := 39) (pc' := 167) rfl rfl rfl rfl rfl (by first | assumption | decide | omega) ?_
          refine rn_iload_n (pc' := 168) rfl rfl rfl ?_
          refine rn_iald (N := 1) (K := 24) (pc' := 169) rfl rfl ⟨rfl, rfl⟩ rfl (by first | assumption | decide | omega) rfl (by decide) rfl (by first | assumption | decide | omega) ?_
          refine rn_goto (pc' := 173) rfl rfl ?_
          refine rn_ireturn rfl rfl ?_
          refine ⟨?_, rfl⟩
          try simp only [lg_gt] at *
          first | (simp [tdV, until_, ralm, hw, *]; done) | (unfold tdV; simp only [hw]; simp [until_, ralm, *]; done) | (unfold tdV; rw [if_neg (by omega), if_neg (by omega), if_neg (by omega), if_neg (by omega), if_neg (by omega), if_neg (by omega), if_neg (by omega), if_neg (by omega), if_neg (by omega), if_neg (by omega)])
  · exact absurd h2 hp
theorem r_regU {d : Nat} (M : xM) (p w : Int32) (h : eo M p = none) : Rn (d + 1) 102 (0, xen 102 [vR 20 0, vI p, vI w], [], M) (fun r M' => r = some (vI (-1001)) ∧ M' = M) := by
  have ho := oI_neg (o := eo M p) (fun e h => eo_lt h)
  show Rn _ 102 (0, [some (vR 20 0), some (vI p), some (vI w), none], [], _) _
  refine rn_aload_n (pc' := 1) rfl rfl rfl ?_
  refine rn_iload_n (pc' := 2) rfl rfl rfl ?_
  refine rn_callV (pc' := 5) (as := [_]) rfl rfl rfl ⟨Nat.le_of_ble_eq_true rfl, rfl, rfl⟩ rfl (by first | assumption | decide | omega) (Nat.le_of_ble_eq_true rfl) (Nat.le_of_ble_eq_true rfl) rfl (r_entryOf M p) (fun r1 M1 hz => ?_)
  obtain ⟨rfl, hm_⟩ := hz
  refine rn_mem hm_ ?_
  clear hm_
  refine rn_istore_n (pc' := 6) rfl rfl rfl (Nat.le_of_ble_eq_true rfl) rfl ?_
  refine rn_iload_n (pc' := 7) rfl rfl rfl ?_
  refine rn_if_ge (t := 14) (pc' := 10) rfl rfl rfl (fun h2 => ?_) (fun h2 => ?_)
  · exact absurd (ho.mpr h) h2
  · refine rn_sipush (pc' := 13) (v := (-1001)) rfl rfl (by decide) ?_
    refine rn_ireturn rfl rfl ?_
    exact ⟨rfl, rfl⟩
theorem r_regO {d e : Nat} (M : xM) (p w : Int32) (h : eo M p = some e) (hw : ¬ (0 ≤ w.toInt64 ∧ w.toInt64 ≤ 7)) : Rn (d + 1) 102 (0, xen 102 [vR 20 0, vI p, vI w], [], M) (fun r M' => r = some (vI (-1002)) ∧ M' = M) := by
  have hp := nI_pos (n := e) (by have := eo_lt h; omega)
  show Rn _ 102 (0, [some (vR 20 0), some (vI p), some (vI w), none], [], _) _
  refine rn_aload_n (pc' := 1) rfl rfl rfl ?_
  refine rn_iload_n (pc' := 2) rfl rfl rfl ?_
  refine rn_callV (pc' := 5) (as := [_]) rfl rfl rfl ⟨Nat.le_of_ble_eq_true rfl, rfl, rfl⟩ rfl (by first | assumption | decide | omega) (Nat.le_of_ble_eq_true rfl) (Nat.le_of_ble_eq_true rfl) rfl (r_entryOf M p) (fun r1 M1 hz => ?_)
  obtain ⟨rfl, hm_⟩ := hz
  refine rn_mem hm_ ?_
  clear hm_
  refine rn_topI (oI_some h) ?_
  refine rn_istore_n (pc' := 6) rfl rfl rfl (Nat.le_of_ble_eq_true rfl) rfl ?_
  refine rn_iload_n (pc' := 7) rfl rfl rfl ?_
  refine rn_if_ge (t := 14) (pc' := 10) rfl rfl rfl (fun h2 => ?_) (fun h2 => ?_)
  · refine rn_iload_n (pc' := 15) rfl rfl rfl ?_
    refine rn_i2l (pc' := 16) rfl rfl ?_
    refine rn_lconst (pc' := 17) (v := 0) rfl rfl rfl ?_
    refine rn_ldc2_w (pc' := 20) (v := 7) rfl rfl rfl ?_
    refine rn_callS (pc' := 23) (as := [_, _, _]) rfl rfl rfl ⟨rfl, rfl, rfl⟩ (Nat.le_of_ble_eq_true rfl) (Nat.le_of_ble_eq_true rfl) rfl (r_in M _ 0 7) (fun r3 M3 hz => ?_)
    obtain ⟨rfl, hm_⟩ := hz
    refine rn_mem hm_ ?_
    clear hm_
    refine rn_if_eq (t := 40) (pc' := 26) rfl rfl rfl (fun h4 => ?_) (fun h4 => ?_)
    · refine rn_sipush (pc' := 43) (v := (-1002)) rfl rfl (by decide) ?_
      refine rn_ireturn rfl rfl ?_
      exact ⟨rfl, rfl⟩
    · exact absurd (ite01.mpr hw) h4
  · exact absurd h2 hp
theorem r_regY {d e k : Nat} (M : xM) (p : Int32) (h : eo M p = some e) (hk : k < 8) (hw : 0 ≤ (nI k).toInt64 ∧ (nI k).toInt64 ≤ 7) : Rn (d + 1) 102 (0, xen 102 [vR 20 0, vI p, vI (nI k)], [], M) (fun r M' => r = some (vI (M.1 31 0 (8 * e + k))) ∧ M' = M) := by
  have he := eo_lt h
  have hp := nI_pos (n := e) (by omega)
  show Rn _ 102 (0, [some (vR 20 0), some (vI p), some (vI (nI k)), none], [], _) _
  refine rn_aload_n (pc' := 1) rfl rfl rfl ?_
  refine rn_iload_n (pc' := 2) rfl rfl rfl ?_
  refine rn_callV (pc' := 5) (as := [_]) rfl rfl rfl ⟨Nat.le_of_ble_eq_true rfl, rfl, rfl⟩ rfl (by first | assumption | decide | omega) (Nat.le_of_ble_eq_true rfl) (Nat.le_of_ble_eq_true rfl) rfl (r_entryOf M p) (fun r1 M1 hz => ?_)
  obtain ⟨rfl, hm_⟩ := hz
  refine rn_mem hm_ ?_
  clear hm_
  refine rn_topI (oI_some h) ?_
  refine rn_istore_n (pc' := 6) rfl rfl rfl (Nat.le_of_ble_eq_true rfl) rfl ?_
  refine rn_iload_n (pc' := 7) rfl rfl rfl ?_
  refine rn_if_ge (t := 14) (pc' := 10) rfl rfl rfl (fun h2 => ?_) (fun h2 => ?_)
  · refine rn_iload_n (pc' := 15) rfl rfl rfl ?_
    refine rn_i2l (pc' := 16) rfl rfl ?_
    refine rn_lconst (pc' := 17) (v := 0) rfl rfl rfl ?_
    refine rn_ldc2_w (pc' := 20) (v := 7) rfl rfl rfl ?_
    refine rn_callS (pc' := 23) (as := [_, _, _]) rfl rfl rfl ⟨rfl, rfl, rfl⟩ (Nat.le_of_ble_eq_true rfl) (Nat.le_of_ble_eq_true rfl) rfl (r_in M _ 0 7) (fun r3 M3 hz => ?_)
    obtain ⟨rfl, hm_⟩ := hz
    refine rn_mem hm_ ?_
    clear hm_
    refine rn_if_eq (t := 40) (pc' := 26) rfl rfl rfl (fun h4 => ?_) (fun h4 => ?_)
    · exact absurd hw (ite01.mp h4)
    · refine rn_aload_n (pc' := 27) rfl rfl rfl ?_
      refine rn_getF (N := 1) (t' := 31) (pc' := 30) rfl rfl rfl rfl rfl (by first | assumption | decide | omega) ?_
      refine rn_bipush (pc' := 32) (v := 8) rfl rfl (by decide) ?_
      refine rn_iload_n (pc' := 33) rfl rfl rfl ?_
      refine rn_imul (pc' := 34) rfl rfl ?_
      refine rn_iload_n (pc' := 35) rfl rfl rfl ?_
      refine rn_iadd (pc' := 36) rfl rfl ?_
      refine rn_iald (k := 8 * e + k) (N := 1) (K := 192) (pc' := 37) rfl rfl ⟨rfl, rfl⟩ rfl (by first | assumption | decide | omega) rfl (by decide) (ix8 e k) (by first | assumption | decide | omega) ?_
      refine rn_goto (pc' := 43) rfl rfl ?_
      refine rn_ireturn rfl rfl ?_
      exact ⟨rfl, rfl⟩
  · exact absurd h2 hp
theorem r_actnU {d : Nat} (M : xM) (p w : Int32) (h : eo M p = none) : Rn (d + 1) 103 (0, xen 103 [vR 20 0, vI p, vI w], [], M) (fun r M' => r = some (vI (-1001)) ∧ M' = M) := by
  have ho := oI_neg (o := eo M p) (fun e h => eo_lt h)
  show Rn _ 103 (0, [some (vR 20 0), some (vI p), some (vI w), none], [], _) _
  refine rn_aload_n (pc' := 1) rfl rfl rfl ?_
  refine rn_iload_n (pc' := 2) rfl rfl rfl ?_
  refine rn_callV (pc' := 5) (as := [_]) rfl rfl rfl ⟨Nat.le_of_ble_eq_true rfl, rfl, rfl⟩ rfl (by first | assumption | decide | omega) (Nat.le_of_ble_eq_true rfl) (Nat.le_of_ble_eq_true rfl) rfl (r_entryOf M p) (fun r1 M1 hz => ?_)
  obtain ⟨rfl, hm_⟩ := hz
  refine rn_mem hm_ ?_
  clear hm_
  refine rn_istore_n (pc' := 6) rfl rfl rfl (Nat.le_of_ble_eq_true rfl) rfl ?_
  refine rn_iload_n (pc' := 7) rfl rfl rfl ?_
  refine rn_if_ge (t := 14) (pc' := 10) rfl rfl rfl (fun h2 => ?_) (fun h2 => ?_)
  · exact absurd (ho.mpr h) h2
  · refine rn_sipush (pc' := 13) (v := (-1001)) rfl rfl (by decide) ?_
    refine rn_ireturn rfl rfl ?_
    exact ⟨rfl, rfl⟩
theorem r_actnO {d e : Nat} (M : xM) (p w : Int32) (h : eo M p = some e) (hw : ¬ isS1 w) : Rn (d + 1) 103 (0, xen 103 [vR 20 0, vI p, vI w], [], M) (fun r M' => r = some (vI (-1002)) ∧ M' = M) := by
  have hp := nI_pos (n := e) (by have := eo_lt h; omega)
  show Rn _ 103 (0, [some (vR 20 0), some (vI p), some (vI w), none], [], _) _
  refine rn_aload_n (pc' := 1) rfl rfl rfl ?_
  refine rn_iload_n (pc' := 2) rfl rfl rfl ?_
  refine rn_callV (pc' := 5) (as := [_]) rfl rfl rfl ⟨Nat.le_of_ble_eq_true rfl, rfl, rfl⟩ rfl (by first | assumption | decide | omega) (Nat.le_of_ble_eq_true rfl) (Nat.le_of_ble_eq_true rfl) rfl (r_entryOf M p) (fun r1 M1 hz => ?_)
  obtain ⟨rfl, hm_⟩ := hz
  refine rn_mem hm_ ?_
  clear hm_
  refine rn_topI (oI_some h) ?_
  refine rn_istore_n (pc' := 6) rfl rfl rfl (Nat.le_of_ble_eq_true rfl) rfl ?_
  refine rn_iload_n (pc' := 7) rfl rfl rfl ?_
  refine rn_if_ge (t := 14) (pc' := 10) rfl rfl rfl (fun h2 => ?_) (fun h2 => ?_)
  · refine rn_iload_n (pc' := 15) rfl rfl rfl ?_
    refine rn_i2l (pc' := 16) rfl rfl ?_
    refine rn_lconst (pc' := 17) (v := 1) rfl rfl rfl ?_
    refine rn_ldc2_w (pc' := 20) (v := 20) rfl rfl rfl ?_
    refine rn_callS (pc' := 23) (as := [_, _, _]) rfl rfl rfl ⟨rfl, rfl, rfl⟩ (Nat.le_of_ble_eq_true rfl) (Nat.le_of_ble_eq_true rfl) rfl (r_in M _ 1 20) (fun r3 M3 hz => ?_)
    obtain ⟨rfl, hm_⟩ := hz
    refine rn_mem hm_ ?_
    clear hm_
    refine rn_if_eq (t := 40) (pc' := 26) rfl rfl rfl (fun h4 => ?_) (fun h4 => ?_)
    · refine rn_sipush (pc' := 43) (v := (-1002)) rfl rfl (by decide) ?_
      refine rn_ireturn rfl rfl ?_
      exact ⟨rfl, rfl⟩
    · exact absurd (ite01.mpr hw) h4
  · exact absurd h2 hp
theorem r_actnY {d e k : Nat} (M : xM) (p : Int32) (h : eo M p = some e) (hk : k < 21) (hw : isS1 (nI k)) : Rn (d + 1) 103 (0, xen 103 [vR 20 0, vI p, vI (nI k)], [], M) (fun r M' => r = some (vI (rdoe M e k)) ∧ M' = M) := by
  have he := eo_lt h
  have hp := nI_pos (n := e) (by omega)
  show Rn _ 103 (0, [some (vR 20 0), some (vI p), some (vI (nI k)), none], [], _) _
  refine rn_aload_n (pc' := 1) rfl rfl rfl ?_
  refine rn_iload_n (pc' := 2) rfl rfl rfl ?_
  refine rn_callV (pc' := 5) (as := [_]) rfl rfl rfl ⟨Nat.le_of_ble_eq_true rfl, rfl, rfl⟩ rfl (by first | assumption | decide | omega) (Nat.le_of_ble_eq_true rfl) (Nat.le_of_ble_eq_true rfl) rfl (r_entryOf M p) (fun r1 M1 hz => ?_)
  obtain ⟨rfl, hm_⟩ := hz
  refine rn_mem hm_ ?_
  clear hm_
  refine rn_topI (oI_some h) ?_
  refine rn_istore_n (pc' := 6) rfl rfl rfl (Nat.le_of_ble_eq_true rfl) rfl ?_
  refine rn_iload_n (pc' := 7) rfl rfl rfl ?_
  refine rn_if_ge (t := 14) (pc' := 10) rfl rfl rfl (fun h2 => ?_) (fun h2 => ?_)
  · refine rn_iload_n (pc' := 15) rfl rfl rfl ?_
    refine rn_i2l (pc' := 16) rfl rfl ?_
    refine rn_lconst (pc' := 17) (v := 1) rfl rfl rfl ?_
    refine rn_ldc2_w (pc' := 20) (v := 20) rfl rfl rfl ?_
    refine rn_callS (pc' := 23) (as := [_, _, _]) rfl rfl rfl ⟨rfl, rfl, rfl⟩ (Nat.le_of_ble_eq_true rfl) (Nat.le_of_ble_eq_true rfl) rfl (r_in M _ 1 20) (fun r3 M3 hz => ?_)
    obtain ⟨rfl, hm_⟩ := hz
    refine rn_mem hm_ ?_
    clear hm_
    refine rn_if_eq (t := 40) (pc' := 26) rfl rfl rfl (fun h4 => ?_) (fun h4 => ?_)
    · exact absurd hw (ite01.mp h4)
    · refine rn_aload_n (pc' := 27) rfl rfl rfl ?_
      refine rn_getF (N := 1) (t' := 32) (pc' := 30) rfl rfl rfl rfl rfl (by first | assumption | decide | omega) ?_
      refine rn_bipush (pc' := 32) (v := 21) rfl rfl (by decide) ?_
      refine rn_iload_n (pc' := 33) rfl rfl rfl ?_
      refine rn_imul (pc' := 34) rfl rfl ?_
      refine rn_iload_n (pc' := 35) rfl rfl rfl ?_
      refine rn_iadd (pc' := 36) rfl rfl ?_
      refine rn_iald (k := 21 * e + k) (N := 1) (K := 504) (pc' := 37) rfl rfl ⟨rfl, rfl⟩ rfl (by first | assumption | decide | omega) rfl (by decide) (ix21 e k) (by first | assumption | decide | omega) ?_
      refine rn_goto (pc' := 43) rfl rfl ?_
      refine rn_ireturn rfl rfl ?_
      exact ⟨rfl, rfl⟩
  · exact absurd h2 hp
theorem r_childU {d : Nat} (M : xM) (p w : Int32) (h : eo M p = none) : Rn (d + 1) 104 (0, xen 104 [vR 20 0, vI p, vI w], [], M) (fun r M' => r = some (vI (-1001)) ∧ M' = M) := by
  have ho := oI_neg (o := eo M p) (fun e h => eo_lt h)
  show Rn _ 104 (0, [some (vR 20 0), some (vI p), some (vI w), none, none, none], [], _) _
  refine rn_aload_n (pc' := 1) rfl rfl rfl ?_
  refine rn_iload_n (pc' := 2) rfl rfl rfl ?_
  refine rn_callV (pc' := 5) (as := [_]) rfl rfl rfl ⟨Nat.le_of_ble_eq_true rfl, rfl, rfl⟩ rfl (by first | assumption | decide | omega) (Nat.le_of_ble_eq_true rfl) (Nat.le_of_ble_eq_true rfl) rfl (r_entryOf M p) (fun r1 M1 hz => ?_)
  obtain ⟨rfl, hm_⟩ := hz
  refine rn_mem hm_ ?_
  clear hm_
  refine rn_istore_n (pc' := 6) rfl rfl rfl (Nat.le_of_ble_eq_true rfl) rfl ?_
  refine rn_iload_n (pc' := 7) rfl rfl rfl ?_
  refine rn_if_ge (t := 14) (pc' := 10) rfl rfl rfl (fun h2 => ?_) (fun h2 => ?_)
  · exact absurd (ho.mpr h) h2
  · refine rn_sipush (pc' := 13) (v := (-1001)) rfl rfl (by decide) ?_
    refine rn_ireturn rfl rfl ?_
    exact ⟨rfl, rfl⟩
def cdF (M : xM) (p : Int32) : Nat → Nat → Int32 → Int32
  | 0, _, _ => 0
  | m + 1, i, w => if 0 < rpid M i ∧ rpar M i = p then (if w = 0 then rpid M i else cdF M p m (i + 1) (w - 1)) else cdF M p m (i + 1) w
theorem dec_1 (x : Int32) : x + Int32.ofInt (-1) = x - 1 := by
  show x + (-1) = x - 1
  rw [Int32.sub_eq_add_neg]
theorem r_child {d e : Nat} (M : xM) (p w : Int32) (h : eo M p = some e) : Rn (d + 1) 104 (0, xen 104 [vR 20 0, vI p, vI w], [], M) (fun r M' => r = some (vI (cdF M p 24 0 w)) ∧ M' = M) := by
  have he := eo_lt h
  have hp := nI_pos (n := e) (by omega)
  obtain ⟨T, hT⟩ : ∃ T, T = cdF M p 24 0 w := ⟨_, rfl⟩
  rw [← hT]
  have loop : ∀ (m i : Nat) (w0 : Int32), i + m = 24 → cdF M p m i w0 = T → Rn (d + 1) 104 (20, [some (vR 20 0), some (vI p), some (vI w), some (vI (nI e)), some (vI w0), some (vI (nI i))], [], M) (fun r M' => r = some (vI T) ∧ M' = M) := by
    intro m
    induction m with
    | zero =>
      intro i w0 hi hq
      obtain rfl : i = 24 := by omega
      refine rn_iload (pc' := 22) rfl rfl rfl ?_
      refine rn_bipush (pc' := 24) (v := 24) rfl rfl (by decide) ?_
      refine rn_ic_ge (t := 70) (pc' := 27) rfl rfl rfl (fun h1 => ?_) (fun h1 => ?_)
      · refine rn_iconst (pc' := 71) (v := 0) rfl rfl (by decide) ?_
        refine rn_ireturn rfl rfl ?_
        exact ⟨by rw [← hq]; rfl, rfl⟩
      · exact absurd ((lt24 (by omega)).mp h1) (by omega)
    | succ m ih =>
      intro i w0 hi hq
      have hi24 : i < 24 := by omega
      unfold cdF at hq
      refine rn_iload (pc' := 22) rfl rfl rfl ?_
      refine rn_bipush (pc' := 24) (v := 24) rfl rfl (by decide) ?_
      refine rn_ic_ge (t := 70) (pc' := 27) rfl rfl rfl (fun h1 => ?_) (fun h1 => ?_)
      · exact absurd ((lt24 (by omega)).mpr hi24) h1
      · refine rn_aload_n (pc' := 28) rfl rfl rfl ?_
        refine rn_getF (N := 1) (t' := 25) (pc' := 31) rfl rfl rfl rfl rfl (by first | assumption | decide | omega) ?_
        refine rn_iload (pc' := 33) rfl rfl rfl ?_
        refine rn_iald (N := 1) (K := 24) (pc' := 34) rfl rfl ⟨rfl, rfl⟩ rfl (by first | assumption | decide | omega) rfl (by decide) rfl (by first | assumption | decide | omega) ?_
        refine rn_if_le (t := 64) (pc' := 37) rfl rfl rfl (fun h2 => ?_) (fun h2 => ?_)
        · refine rn_iinc (pc' := 67) rfl rfl rfl (nI_inc _) rfl (Nat.le_of_ble_eq_true rfl) rfl ?_
          refine rn_goto (pc' := 20) rfl rfl ?_
          first | (rw [if_pos ⟨h2, h3⟩, if_neg h4] at hq; exact ih (i + 1) _ (by omega) hq) | (rw [if_neg (fun q => absurd q.2 h3)] at hq; exact ih (i + 1) _ (by omega) hq) | (rw [if_neg (fun q => absurd q.1 h2)] at hq; exact ih (i + 1) _ (by omega) hq)
        · refine rn_aload_n (pc' := 38) rfl rfl rfl ?_
          refine rn_getF (N := 1) (t' := 26) (pc' := 41) rfl rfl rfl rfl rfl (by first | assumption | decide | omega) ?_
          refine rn_iload (pc' := 43) rfl rfl rfl ?_
          refine rn_iald (N := 1) (K := 24) (pc' := 44) rfl rfl ⟨rfl, rfl⟩ rfl (by first | assumption | decide | omega) rfl (by decide) rfl (by first | assumption | decide | omega) ?_
          refine rn_iload_n (pc' := 45) rfl rfl rfl ?_
          refine rn_ic_ne (t := 64) (pc' := 48) rfl rfl rfl (fun h3 => ?_) (fun h3 => ?_)
          · refine rn_iinc (pc' := 67) rfl rfl rfl (nI_inc _) rfl (Nat.le_of_ble_eq_true rfl) rfl ?_
            refine rn_goto (pc' := 20) rfl rfl ?_
            first | (rw [if_pos ⟨h2, h3⟩, if_neg h4] at hq; exact ih (i + 1) _ (by omega) hq) | (rw [if_neg (fun q => absurd q.2 h3)] at hq; exact ih (i + 1) _ (by omega) hq) | (rw [if_neg (fun q => absurd q.1 h2)] at hq; exact ih (i + 1) _ (by omega) hq)
          · refine rn_iload (pc' := 50) rfl rfl rfl ?_
            refine rn_if_ne (t := 61) (pc' := 53) rfl rfl rfl (fun h4 => ?_) (fun h4 => ?_)
            · refine rn_iinc (pc' := 64) rfl rfl rfl (dec_1 _) rfl (Nat.le_of_ble_eq_true rfl) rfl ?_
              refine rn_iinc (pc' := 67) rfl rfl rfl (nI_inc _) rfl (Nat.le_of_ble_eq_true rfl) rfl ?_
              refine rn_goto (pc' := 20) rfl rfl ?_
              first | (rw [if_pos ⟨h2, h3⟩, if_neg h4] at hq; exact ih (i + 1) _ (by omega) hq) | (rw [if_neg (fun q => absurd q.2 h3)] at hq; exact ih (i + 1) _ (by omega) hq) | (rw [if_neg (fun q => absurd q.1 h2)] at hq; exact ih (i + 1) _ (by omega) hq)
            · refine rn_aload_n (pc' := 54) rfl rfl rfl ?_
              refine rn_getF (N := 1) (t' := 25) (pc' := 57) rfl rfl rfl rfl rfl (by first | assumption | decide | omega) ?_
              refine rn_iload (pc' := 59) rfl rfl rfl ?_
              refine rn_iald (N := 1) (K := 24) (pc' := 60) rfl rfl ⟨rfl, rfl⟩ rfl (by first | assumption | decide | omega) rfl (by decide) rfl (by first | assumption | decide | omega) ?_
              refine rn_ireturn rfl rfl ?_
              (rw [if_pos ⟨h2, h3⟩, if_pos h4] at hq; exact ⟨by rw [← hq], rfl⟩)
  show Rn _ 104 (0, [some (vR 20 0), some (vI p), some (vI w), none, none, none], [], _) _
  refine rn_aload_n (pc' := 1) rfl rfl rfl ?_
  refine rn_iload_n (pc' := 2) rfl rfl rfl ?_
  refine rn_callV (pc' := 5) (as := [_]) rfl rfl rfl ⟨Nat.le_of_ble_eq_true rfl, rfl, rfl⟩ rfl (by first | assumption | decide | omega) (Nat.le_of_ble_eq_true rfl) (Nat.le_of_ble_eq_true rfl) rfl (r_entryOf M p) (fun r1 M1 hz => ?_)
  obtain ⟨rfl, hm_⟩ := hz
  refine rn_mem hm_ ?_
  clear hm_
  refine rn_topI (oI_some h) ?_
  refine rn_istore_n (pc' := 6) rfl rfl rfl (Nat.le_of_ble_eq_true rfl) rfl ?_
  refine rn_iload_n (pc' := 7) rfl rfl rfl ?_
  refine rn_if_ge (t := 14) (pc' := 10) rfl rfl rfl (fun h2 => ?_) (fun h2 => ?_)
  · refine rn_iload_n (pc' := 15) rfl rfl rfl ?_
    refine rn_istore (pc' := 17) rfl rfl rfl (Nat.le_of_ble_eq_true rfl) rfl ?_
    refine rn_iconst (pc' := 18) (v := 0) rfl rfl (by decide) ?_
    refine rn_istore (pc' := 20) rfl rfl rfl (Nat.le_of_ble_eq_true rfl) rfl ?_
    exact loop 24 0 w rfl hT.symm
  · exact absurd h2 hp
def mbF (M : xM) (q : Nat → Bool) : Nat → Int32
  | 0 => 0
  | k + 1 => mbF M q k + bI (q k)
theorem r_members {d : Nat} (M : xM) (g : Int32) : Rn d 105 (0, xen 105 [vR 20 0, vI g], [], M) (fun r M' => r = some (vI (mbF M (fun k => decide (0 < rpid M k) && decide (rgrp M k = g)) 24)) ∧ M' = M) := by
  have loop : ∀ m i : Nat, i + m = 24 → Rn d 105 (4, [some (vR 20 0), some (vI g), some (vI (mbF M (fun k => decide (0 < rpid M k) && decide (rgrp M k = g)) i)), some (vI (nI i))], [], M) (fun r M' => r = some (vI (mbF M (fun k => decide (0 < rpid M k) && decide (rgrp M k = g)) 24)) ∧ M' = M) := by
    intro m
    induction m with
    | zero =>
      intro i hi
      obtain rfl : i = 24 := by omega
      refine rn_iload_n (pc' := 5) rfl rfl rfl ?_
      refine rn_bipush (pc' := 7) (v := 24) rfl rfl (by decide) ?_
      refine rn_ic_ge (t := 43) (pc' := 10) rfl rfl rfl (fun h1 => ?_) (fun h1 => ?_)
      · refine rn_iload_n (pc' := 44) rfl rfl rfl ?_
        refine rn_ireturn rfl rfl ?_
        exact ⟨rfl, rfl⟩
      · exact absurd ((lt24 (by omega)).mp h1) (by omega)
    | succ m ih =>
      intro i hi
      have he : i < 24 := by omega
      have ih := ih (i + 1) (by omega)
      have key : ∀ x, x = bI (decide (0 < rpid M i) && decide (rgrp M i = g)) → Rn d 105 (35, [some (vR 20 0), some (vI g), some (vI (mbF M (fun k => decide (0 < rpid M k) && decide (rgrp M k = g)) i)), some (vI (nI i))], [vI x, vI (mbF M (fun k => decide (0 < rpid M k) && decide (rgrp M k = g)) i)], M) (fun r M' => r = some (vI (mbF M (fun k => decide (0 < rpid M k) && decide (rgrp M k = g)) 24)) ∧ M' = M) := by
        intro x hx
        subst hx
        refine rn_iadd (pc' := 36) rfl rfl ?_
        refine rn_istore_n (pc' := 37) rfl rfl rfl (Nat.le_of_ble_eq_true rfl) rfl ?_
        refine rn_iinc (pc' := 40) rfl rfl rfl (nI_inc _) rfl (Nat.le_of_ble_eq_true rfl) rfl ?_
        refine rn_goto (pc' := 4) rfl rfl ?_
        exact ih
      refine rn_iload_n (pc' := 5) rfl rfl rfl ?_
      refine rn_bipush (pc' := 7) (v := 24) rfl rfl (by decide) ?_
      refine rn_ic_ge (t := 43) (pc' := 10) rfl rfl rfl (fun h1 => ?_) (fun h1 => ?_)
      · exact absurd ((lt24 (by omega)).mpr he) h1
      · refine rn_iload_n (pc' := 11) rfl rfl rfl ?_
        refine rn_aload_n (pc' := 12) rfl rfl rfl ?_
        refine rn_getF (N := 1) (t' := 25) (pc' := 15) rfl rfl rfl rfl rfl (by first | assumption | decide | omega) ?_
        refine rn_iload_n (pc' := 16) rfl rfl rfl ?_
        refine rn_iald (N := 1) (K := 24) (pc' := 17) rfl rfl ⟨rfl, rfl⟩ rfl (by first | assumption | decide | omega) rfl (by decide) rfl (by first | assumption | decide | omega) ?_
        refine rn_if_le (t := 34) (pc' := 20) rfl rfl rfl (fun h2 => ?_) (fun h2 => ?_)
        · refine rn_iconst (pc' := 35) (v := 0) rfl rfl (by decide) ?_
          refine key _ ?_
          simp [bI, rpid, rgrp, *]
        · refine rn_aload_n (pc' := 21) rfl rfl rfl ?_
          refine rn_getF (N := 1) (t' := 27) (pc' := 24) rfl rfl rfl rfl rfl (by first | assumption | decide | omega) ?_
          refine rn_iload_n (pc' := 25) rfl rfl rfl ?_
          refine rn_iald (N := 1) (K := 24) (pc' := 26) rfl rfl ⟨rfl, rfl⟩ rfl (by first | assumption | decide | omega) rfl (by decide) rfl (by first | assumption | decide | omega) ?_
          refine rn_iload_n (pc' := 27) rfl rfl rfl ?_
          refine rn_ic_ne (t := 34) (pc' := 30) rfl rfl rfl (fun h3 => ?_) (fun h3 => ?_)
          · refine rn_iconst (pc' := 35) (v := 0) rfl rfl (by decide) ?_
            refine key _ ?_
            simp [bI, rpid, rgrp, *]
          · refine rn_iconst (pc' := 31) (v := 1) rfl rfl (by decide) ?_
            refine rn_goto (pc' := 35) rfl rfl ?_
            refine key _ ?_
            simp [bI, rpid, rgrp, *]
  show Rn _ 105 (0, [some (vR 20 0), some (vI g), none, none], [], _) _
  refine rn_iconst (pc' := 1) (v := 0) rfl rfl (by decide) ?_
  refine rn_istore_n (pc' := 2) rfl rfl rfl (Nat.le_of_ble_eq_true rfl) rfl ?_
  refine rn_iconst (pc' := 3) (v := 0) rfl rfl (by decide) ?_
  refine rn_istore_n (pc' := 4) rfl rfl rfl (Nat.le_of_ble_eq_true rfl) rfl ?_
  exact loop 24 0 rfl
theorem r_howMany {d : Nat} (M : xM) (g : Int32) : Rn d 107 (0, xen 107 [vR 20 0, vI g], [], M) (fun r M' => r = some (vI (mbF M (fun k => decide (0 < rpid M k) && (decide (g < 0) || decide (rste M k = g))) 24)) ∧ M' = M) := by
  have loop : ∀ m i : Nat, i + m = 24 → Rn d 107 (4, [some (vR 20 0), some (vI g), some (vI (mbF M (fun k => decide (0 < rpid M k) && (decide (g < 0) || decide (rste M k = g))) i)), some (vI (nI i))], [], M) (fun r M' => r = some (vI (mbF M (fun k => decide (0 < rpid M k) && (decide (g < 0) || decide (rste M k = g))) 24)) ∧ M' = M) := by
    intro m
    induction m with
    | zero =>
      intro i hi
      obtain rfl : i = 24 := by omega
      refine rn_iload_n (pc' := 5) rfl rfl rfl ?_
      refine rn_bipush (pc' := 7) (v := 24) rfl rfl (by decide) ?_
      refine rn_ic_ge (t := 47) (pc' := 10) rfl rfl rfl (fun h1 => ?_) (fun h1 => ?_)
      · refine rn_iload_n (pc' := 48) rfl rfl rfl ?_
        refine rn_ireturn rfl rfl ?_
        exact ⟨rfl, rfl⟩
      · exact absurd ((lt24 (by omega)).mp h1) (by omega)
    | succ m ih =>
      intro i hi
      have he : i < 24 := by omega
      have ih := ih (i + 1) (by omega)
      have key : ∀ x, x = bI (decide (0 < rpid M i) && (decide (g < 0) || decide (rste M i = g))) → Rn d 107 (39, [some (vR 20 0), some (vI g), some (vI (mbF M (fun k => decide (0 < rpid M k) && (decide (g < 0) || decide (rste M k = g))) i)), some (vI (nI i))], [vI x, vI (mbF M (fun k => decide (0 < rpid M k) && (decide (g < 0) || decide (rste M k = g))) i)], M) (fun r M' => r = some (vI (mbF M (fun k => decide (0 < rpid M k) && (decide (g < 0) || decide (rste M k = g))) 24)) ∧ M' = M) := by
        intro x hx
        subst hx
        refine rn_iadd (pc' := 40) rfl rfl ?_
        refine rn_istore_n (pc' := 41) rfl rfl rfl (Nat.le_of_ble_eq_true rfl) rfl ?_
        refine rn_iinc (pc' := 44) rfl rfl rfl (nI_inc _) rfl (Nat.le_of_ble_eq_true rfl) rfl ?_
        refine rn_goto (pc' := 4) rfl rfl ?_
        exact ih
      refine rn_iload_n (pc' := 5) rfl rfl rfl ?_
      refine rn_bipush (pc' := 7) (v := 24) rfl rfl (by decide) ?_
      refine rn_ic_ge (t := 47) (pc' := 10) rfl rfl rfl (fun h1 => ?_) (fun h1 => ?_)
      · exact absurd ((lt24 (by omega)).mpr he) h1
      · refine rn_iload_n (pc' := 11) rfl rfl rfl ?_
        refine rn_aload_n (pc' := 12) rfl rfl rfl ?_
        refine rn_getF (N := 1) (t' := 25) (pc' := 15) rfl rfl rfl rfl rfl (by first | assumption | decide | omega) ?_
        refine rn_iload_n (pc' := 16) rfl rfl rfl ?_
        refine rn_iald (N := 1) (K := 24) (pc' := 17) rfl rfl ⟨rfl, rfl⟩ rfl (by first | assumption | decide | omega) rfl (by decide) rfl (by first | assumption | decide | omega) ?_
        refine rn_if_le (t := 38) (pc' := 20) rfl rfl rfl (fun h2 => ?_) (fun h2 => ?_)
        · refine rn_iconst (pc' := 39) (v := 0) rfl rfl (by decide) ?_
          refine key _ ?_
          first | (simp [bI, rpid, rste, *]; done) | simp_all [bI, rpid, rste]
        · refine rn_iload_n (pc' := 21) rfl rfl rfl ?_
          refine rn_if_lt (t := 34) (pc' := 24) rfl rfl rfl (fun h3 => ?_) (fun h3 => ?_)
          · refine rn_iconst (pc' := 35) (v := 1) rfl rfl (by decide) ?_
            refine rn_goto (pc' := 39) rfl rfl ?_
            refine key _ ?_
            first | (simp [bI, rpid, rste, *]; done) | simp_all [bI, rpid, rste]
          · refine rn_aload_n (pc' := 25) rfl rfl rfl ?_
            refine rn_getF (N := 1) (t' := 28) (pc' := 28) rfl rfl rfl rfl rfl (by first | assumption | decide | omega) ?_
            refine rn_iload_n (pc' := 29) rfl rfl rfl ?_
            refine rn_iald (N := 1) (K := 24) (pc' := 30) rfl rfl ⟨rfl, rfl⟩ rfl (by first | assumption | decide | omega) rfl (by decide) rfl (by first | assumption | decide | omega) ?_
            refine rn_iload_n (pc' := 31) rfl rfl rfl ?_
            refine rn_ic_ne (t := 38) (pc' := 34) rfl rfl rfl (fun h4 => ?_) (fun h4 => ?_)
            · refine rn_iconst (pc' := 39) (v := 0) rfl rfl (by decide) ?_
              refine key _ ?_
              first | (simp [bI, rpid, rste, *]; done) | simp_all [bI, rpid, rste]
            · refine rn_iconst (pc' := 35) (v := 1) rfl rfl (by decide) ?_
              refine rn_goto (pc' := 39) rfl rfl ?_
              refine key _ ?_
              first | (simp [bI, rpid, rste, *]; done) | simp_all [bI, rpid, rste]
  show Rn _ 107 (0, [some (vR 20 0), some (vI g), none, none], [], _) _
  refine rn_iconst (pc' := 1) (v := 0) rfl rfl (by decide) ?_
  refine rn_istore_n (pc' := 2) rfl rfl rfl (Nat.le_of_ble_eq_true rfl) rfl ?_
  refine rn_iconst (pc' := 3) (v := 0) rfl rfl (by decide) ?_
  refine rn_istore_n (pc' := 4) rfl rfl rfl (Nat.le_of_ble_eq_true rfl) rfl ?_
  exact loop 24 0 rfl
def ctV (M : xM) (w : Int32) : Int32 := if w.toInt = 0 then mbF M (fun k => decide (0 < rpid M k) && (decide ((-1 : Int32) < 0) || decide (rste M k = -1))) 24 else if w.toInt = 1 then mbF M (fun k => decide (0 < rpid M k) && (decide ((4 : Int32) < 0) || decide (rste M k = 4))) 24 else if w.toInt = 2 then mbF M (fun k => decide (0 < rpid M k) && (decide ((0 : Int32) < 0) || decide (rste M k = 0))) 24 else if w.toInt = 3 then M.1 20 0 26 else if w.toInt = 4 then M.1 20 0 34 else if w.toInt = 5 then M.1 20 0 35 else if w.toInt = 6 then M.1 20 0 36 else if w.toInt = 7 then M.1 20 0 37 else if w.toInt = 8 then M.1 20 0 38 else if w.toInt = 9 then M.1 20 0 39 else -1002
theorem r_count {d : Nat} (M : xM) (w : Int32) : Rn (d + 1) 108 (0, xen 108 [vR 20 0, vI w], [], M) (fun r M' => r = some (vI (ctV M w)) ∧ M' = M) := by
  show Rn _ 108 (0, [some (vR 20 0), some (vI w)], [], _) _
  refine rn_iload_n (pc' := 1) rfl rfl rfl ?_
  rcases x_sw w (0) 10 with hw | ⟨k_, hk_, hw⟩
  · refine rn_swOut (t := 109) rfl (by omega) rfl ?_
    refine rn_sipush (pc' := 112) (v := (-1002)) rfl rfl (by decide) ?_
    refine rn_ireturn rfl rfl ?_
    refine ⟨?_, rfl⟩
    unfold ctV
    first | (simp only [hw]; done) | (simp only [hw]; rfl) | (rw [if_neg (by omega), if_neg (by omega), if_neg (by omega), if_neg (by omega), if_neg (by omega), if_neg (by omega), if_neg (by omega), if_neg (by omega), if_neg (by omega), if_neg (by omega)])
  · rcases (show k_ = 0 ∨ k_ = 1 ∨ k_ = 2 ∨ k_ = 3 ∨ k_ = 4 ∨ k_ = 5 ∨ k_ = 6 ∨ k_ = 7 ∨ k_ = 8 ∨ k_ = 9 by omega) with rfl | rfl | rfl | rfl | rfl | rfl | rfl | rfl | rfl | rfl
    · refine rn_swIn (k := 0) (t := 56) rfl hw (by decide) rfl rfl ?_
      refine rn_aload_n (pc' := 57) rfl rfl rfl ?_
      refine rn_iconst (pc' := 58) (v := (-1)) rfl rfl (by decide) ?_
      refine rn_callV (pc' := 61) (as := [_]) rfl rfl rfl ⟨Nat.le_of_ble_eq_true rfl, rfl, rfl⟩ rfl (by first | assumption | decide | omega) (Nat.le_of_ble_eq_true rfl) (Nat.le_of_ble_eq_true rfl) rfl (r_howMany M _) (fun r2 M2 hz => ?_)
      obtain ⟨rfl, hm_⟩ := hz
      refine rn_mem hm_ ?_
      clear hm_
      refine rn_ireturn rfl rfl ?_
      refine ⟨?_, rfl⟩
      unfold ctV
      first | (simp only [hw]; done) | (simp only [hw]; rfl) | (rw [if_neg (by omega), if_neg (by omega), if_neg (by omega), if_neg (by omega), if_neg (by omega), if_neg (by omega), if_neg (by omega), if_neg (by omega), if_neg (by omega), if_neg (by omega)])
    · refine rn_swIn (k := 1) (t := 62) rfl hw (by decide) rfl rfl ?_
      refine rn_aload_n (pc' := 63) rfl rfl rfl ?_
      refine rn_iconst (pc' := 64) (v := 4) rfl rfl (by decide) ?_
      refine rn_callV (pc' := 67) (as := [_]) rfl rfl rfl ⟨Nat.le_of_ble_eq_true rfl, rfl, rfl⟩ rfl (by first | assumption | decide | omega) (Nat.le_of_ble_eq_true rfl) (Nat.le_of_ble_eq_true rfl) rfl (r_howMany M _) (fun r2 M2 hz => ?_)
      obtain ⟨rfl, hm_⟩ := hz
      refine rn_mem hm_ ?_
      clear hm_
      refine rn_ireturn rfl rfl ?_
      refine ⟨?_, rfl⟩
      unfold ctV
      first | (simp only [hw]; done) | (simp only [hw]; rfl) | (rw [if_neg (by omega), if_neg (by omega), if_neg (by omega), if_neg (by omega), if_neg (by omega), if_neg (by omega), if_neg (by omega), if_neg (by omega), if_neg (by omega), if_neg (by omega)])
    · refine rn_swIn (k := 2) (t := 68) rfl hw (by decide) rfl rfl ?_
      refine rn_aload_n (pc' := 69) rfl rfl rfl ?_
      refine rn_iconst (pc' := 70) (v := 0) rfl rfl (by decide) ?_
      refine rn_callV (pc' := 73) (as := [_]) rfl rfl rfl ⟨Nat.le_of_ble_eq_true rfl, rfl, rfl⟩ rfl (by first | assumption | decide | omega) (Nat.le_of_ble_eq_true rfl) (Nat.le_of_ble_eq_true rfl) rfl (r_howMany M _) (fun r2 M2 hz => ?_)
      obtain ⟨rfl, hm_⟩ := hz
      refine rn_mem hm_ ?_
      clear hm_
      refine rn_ireturn rfl rfl ?_
      refine ⟨?_, rfl⟩
      unfold ctV
      first | (simp only [hw]; done) | (simp only [hw]; rfl) | (rw [if_neg (by omega), if_neg (by omega), if_neg (by omega), if_neg (by omega), if_neg (by omega), if_neg (by omega), if_neg (by omega), if_neg (by omega), if_neg (by omega), if_neg (by omega)])
    · refine rn_swIn (k := 3) (t := 74) rfl hw (by decide) rfl rfl ?_
      refine rn_aload_n (pc' := 75) rfl rfl rfl ?_
      refine rn_getI (N := 1) (pc' := 78) rfl rfl rfl rfl (by decide) rfl (by first | assumption | decide | omega) ?_
      refine rn_ireturn rfl rfl ?_
      refine ⟨?_, rfl⟩
      unfold ctV
      first | (simp only [hw]; done) | (simp only [hw]; rfl) | (rw [if_neg (by omega), if_neg (by omega), if_neg (by omega), if_neg (by omega), if_neg (by omega), if_neg (by omega), if_neg (by omega), if_neg (by omega), if_neg (by omega), if_neg (by omega)])
    · refine rn_swIn (k := 4) (t := 79) rfl hw (by decide) rfl rfl ?_
      refine rn_aload_n (pc' := 80) rfl rfl rfl ?_
      refine rn_getI (N := 1) (pc' := 83) rfl rfl rfl rfl (by decide) rfl (by first | assumption | decide | omega) ?_
      refine rn_ireturn rfl rfl ?_
      refine ⟨?_, rfl⟩
      unfold ctV
      first | (simp only [hw]; done) | (simp only [hw]; rfl) | (rw [if_neg (by omega), if_neg (by omega), if_neg (by omega), if_neg (by omega), if_neg (by omega), if_neg (by omega), if_neg (by omega), if_neg (by omega), if_neg (by omega), if_neg (by omega)])
    · refine rn_swIn (k := 5) (t := 84) rfl hw (by decide) rfl rfl ?_
      refine rn_aload_n (pc' := 85) rfl rfl rfl ?_
      refine rn_getI (N := 1) (pc' := 88) rfl rfl rfl rfl (by decide) rfl (by first | assumption | decide | omega) ?_
      refine rn_ireturn rfl rfl ?_
      refine ⟨?_, rfl⟩
      unfold ctV
      first | (simp only [hw]; done) | (simp only [hw]; rfl) | (rw [if_neg (by omega), if_neg (by omega), if_neg (by omega), if_neg (by omega), if_neg (by omega), if_neg (by omega), if_neg (by omega), if_neg (by omega), if_neg (by omega), if_neg (by omega)])
    · refine rn_swIn (k := 6) (t := 89) rfl hw (by decide) rfl rfl ?_
      refine rn_aload_n (pc' := 90) rfl rfl rfl ?_
      refine rn_getI (N := 1) (pc' := 93) rfl rfl rfl rfl (by decide) rfl (by first | assumption | decide | omega) ?_
      refine rn_ireturn rfl rfl ?_
      refine ⟨?_, rfl⟩
      unfold ctV
      first | (simp only [hw]; done) | (simp only [hw]; rfl) | (rw [if_neg (by omega), if_neg (by omega), if_neg (by omega), if_neg (by omega), if_neg (by omega), if_neg (by omega), if_neg (by omega), if_neg (by omega), if_neg (by omega), if_neg (by omega)])
    · refine rn_swIn (k := 7) (t := 94) rfl hw (by decide) rfl rfl ?_
      refine rn_aload_n (pc' := 95) rfl rfl rfl ?_
      refine rn_getI (N := 1) (pc' := 98) rfl rfl rfl rfl (by decide) rfl (by first | assumption | decide | omega) ?_
      refine rn_ireturn rfl rfl ?_
      refine ⟨?_, rfl⟩
      unfold ctV
      first | (simp only [hw]; done) | (simp only [hw]; rfl) | (rw [if_neg (by omega), if_neg (by omega), if_neg (by omega), if_neg (by omega), if_neg (by omega), if_neg (by omega), if_neg (by omega), if_neg (by omega), if_neg (by omega), if_neg (by omega)])
    · refine rn_swIn (k := 8) (t := 99) rfl hw (by decide) rfl rfl ?_
      refine rn_aload_n (pc' := 100) rfl rfl rfl ?_
      refine rn_getI (N := 1) (pc' := 103) rfl rfl rfl rfl (by decide) rfl (by first | assumption | decide | omega) ?_
      refine rn_ireturn rfl rfl ?_
      refine ⟨?_, rfl⟩
      unfold ctV
      first | (simp only [hw]; done) | (simp only [hw]; rfl) | (rw [if_neg (by omega), if_neg (by omega), if_neg (by omega), if_neg (by omega), if_neg (by omega), if_neg (by omega), if_neg (by omega), if_neg (by omega), if_neg (by omega), if_neg (by omega)])
    · refine rn_swIn (k := 9) (t := 104) rfl hw (by decide) rfl rfl ?_
      refine rn_aload_n (pc' := 105) rfl rfl rfl ?_
      refine rn_getI (N := 1) (pc' := 108) rfl rfl rfl rfl (by decide) rfl (by first | assumption | decide | omega) ?_
      refine rn_ireturn rfl rfl ?_
      refine ⟨?_, rfl⟩
      unfold ctV
      first | (simp only [hw]; done) | (simp only [hw]; rfl) | (rw [if_neg (by omega), if_neg (by omega), if_neg (by omega), if_neg (by omega), if_neg (by omega), if_neg (by omega), if_neg (by omega), if_neg (by omega), if_neg (by omega), if_neg (by omega)])
theorem r_logO {d : Nat} (M : xM) (i w : Int32) (hw : ¬ (0 ≤ w.toInt64 ∧ w.toInt64 ≤ 1)) : Rn (d + 1) 106 (0, xen 106 [vR 20 0, vI i, vI w], [], M) (fun r M' => r = some (vI (-1002)) ∧ M' = M) := by
  show Rn _ 106 (0, [some (vR 20 0), some (vI i), some (vI w), none], [], _) _
  refine rn_iload_n (pc' := 1) rfl rfl rfl ?_
  refine rn_i2l (pc' := 2) rfl rfl ?_
  refine rn_lconst (pc' := 3) (v := 0) rfl rfl rfl ?_
  refine rn_lconst (pc' := 4) (v := 1) rfl rfl rfl ?_
  refine rn_callS (pc' := 7) (as := [_, _, _]) rfl rfl rfl ⟨rfl, rfl, rfl⟩ (Nat.le_of_ble_eq_true rfl) (Nat.le_of_ble_eq_true rfl) rfl (r_in M _ 0 1) (fun r1 M1 hz => ?_)
  obtain ⟨rfl, hm_⟩ := hz
  refine rn_mem hm_ ?_
  clear hm_
  refine rn_if_ne (t := 14) (pc' := 10) rfl rfl rfl (fun h2 => ?_) (fun h2 => ?_)
  · exact absurd (ite01.mpr hw) h2
  · refine rn_sipush (pc' := 13) (v := (-1002)) rfl rfl (by decide) ?_
    refine rn_ireturn rfl rfl ?_
    exact ⟨rfl, rfl⟩
theorem lt40 {i : Nat} (h : i < 2 ^ 31) : (nI i < 40) ↔ i < 40 := nI_ltI h (by decide)
def lgN (g : Nat) : Nat := if g < 40 then g else 40
theorem r_logN {d g : Nat} (M : xM) (i w : Int32) (hw : 0 ≤ w.toInt64 ∧ w.toInt64 ≤ 1) (hg : M.1 20 0 31 = nI g) (hg31 : g < 2 ^ 31) (hi : ¬ (0 ≤ i.toInt64 ∧ i.toInt64 ≤ (nI (lgN g) - 1).toInt64)) : Rn (d + 1) 106 (0, xen 106 [vR 20 0, vI i, vI w], [], M) (fun r M' => r = some (vI (-1)) ∧ M' = M) := by
  have k1 : Rn (d + 1) 106 (35, [some (vR 20 0), some (vI i), some (vI w), none], [vI (nI (lgN g)), vL 0, vL i.toInt64], M) (fun r M' => r = some (vI (-1)) ∧ M' = M) := by
    refine rn_iconst (pc' := 36) (v := 1) rfl rfl (by decide) ?_
    refine rn_isub (pc' := 37) rfl rfl ?_
    refine rn_i2l (pc' := 38) rfl rfl ?_
    refine rn_callS (pc' := 41) (as := [_, _, _]) rfl rfl rfl ⟨rfl, rfl, rfl⟩ (Nat.le_of_ble_eq_true rfl) (Nat.le_of_ble_eq_true rfl) rfl (r_in M _ 0 _) (fun r1 M1 hz => ?_)
    obtain ⟨rfl, hm_⟩ := hz
    refine rn_mem hm_ ?_
    clear hm_
    refine rn_if_ne (t := 46) (pc' := 44) rfl rfl rfl (fun h2 => ?_) (fun h2 => ?_)
    · exact absurd (ite01.mpr hi) h2
    · refine rn_iconst (pc' := 45) (v := (-1)) rfl rfl (by decide) ?_
      refine rn_ireturn rfl rfl ?_
      exact ⟨rfl, rfl⟩
  show Rn _ 106 (0, [some (vR 20 0), some (vI i), some (vI w), none], [], _) _
  refine rn_iload_n (pc' := 1) rfl rfl rfl ?_
  refine rn_i2l (pc' := 2) rfl rfl ?_
  refine rn_lconst (pc' := 3) (v := 0) rfl rfl rfl ?_
  refine rn_lconst (pc' := 4) (v := 1) rfl rfl rfl ?_
  refine rn_callS (pc' := 7) (as := [_, _, _]) rfl rfl rfl ⟨rfl, rfl, rfl⟩ (Nat.le_of_ble_eq_true rfl) (Nat.le_of_ble_eq_true rfl) rfl (r_in M _ 0 1) (fun r1 M1 hz => ?_)
  obtain ⟨rfl, hm_⟩ := hz
  refine rn_mem hm_ ?_
  clear hm_
  refine rn_if_ne (t := 14) (pc' := 10) rfl rfl rfl (fun h2 => ?_) (fun h2 => ?_)
  · refine rn_iload_n (pc' := 15) rfl rfl rfl ?_
    refine rn_i2l (pc' := 16) rfl rfl ?_
    refine rn_lconst (pc' := 17) (v := 0) rfl rfl rfl ?_
    refine rn_aload_n (pc' := 18) rfl rfl rfl ?_
    refine rn_getI (N := 1) (pc' := 21) rfl rfl rfl rfl (by decide) rfl (by first | assumption | decide | omega) ?_
    refine rn_bipush (pc' := 23) (v := 40) rfl rfl (by decide) ?_
    refine rn_ic_ge (t := 33) (pc' := 26) rfl rfl rfl (fun h3 => ?_) (fun h3 => ?_)
    · refine rn_bipush (pc' := 35) (v := 40) rfl rfl (by decide) ?_
      first | (refine rn_topI (show M.1 20 0 31 = nI (lgN g) by rw [hg] at h3 ⊢; unfold lgN; rw [if_pos ((lt40 hg31).mp h3)]) ?_; exact k1) | (refine rn_topI (show (40 : Int32) = nI (lgN g) by rw [hg] at h3; unfold lgN; rw [if_neg (fun q => h3 ((lt40 hg31).mpr q))]; exact rfl) ?_; exact k1)
    · refine rn_aload_n (pc' := 27) rfl rfl rfl ?_
      refine rn_getI (N := 1) (pc' := 30) rfl rfl rfl rfl (by decide) rfl (by first | assumption | decide | omega) ?_
      refine rn_goto (pc' := 35) rfl rfl ?_
      first | (refine rn_topI (show M.1 20 0 31 = nI (lgN g) by rw [hg] at h3 ⊢; unfold lgN; rw [if_pos ((lt40 hg31).mp h3)]) ?_; exact k1) | (refine rn_topI (show (40 : Int32) = nI (lgN g) by rw [hg] at h3; unfold lgN; rw [if_neg (fun q => h3 ((lt40 hg31).mpr q))]; exact rfl) ?_; exact k1)
  · exact absurd hw (ite01.mp h2)
theorem r_logY {d g k : Nat} (M : xM) (w : Int32) (hw : 0 ≤ w.toInt64 ∧ w.toInt64 ≤ 1) (hg : M.1 20 0 31 = nI g) (hg31 : g < 2 ^ 31) (hk : k < lgN g) (hi : 0 ≤ (nI k).toInt64 ∧ (nI k).toInt64 ≤ (nI (lgN g) - 1).toInt64) : Rn (d + 1) 106 (0, xen 106 [vR 20 0, vI (nI k), vI w], [], M) (fun r M' => r = some (vI (if w = 0 then M.1 47 0 ((g - 1 - k) % 40) else M.1 48 0 ((g - 1 - k) % 40))) ∧ M' = M) := by
  have hkg : k < g := by unfold lgN at hk; split at hk <;> omega
  have e1 : (M.1 20 0 31 - 1 - nI k) = nI (g - 1 - k) := by
    rw [hg, show nI g - 1 = nI (g - 1) from pk_sub (a := g) (b := 1) (by omega), pk_sub (by omega)]
  have e2 : (M.1 20 0 31 - 1 - nI k) - (M.1 20 0 31 - 1 - nI k) / 40 * 40 = nI ((g - 1 - k) % 40) := rem40 e1 (by omega)
  have k1 : Rn (d + 1) 106 (35, [some (vR 20 0), some (vI (nI k)), some (vI w), none], [vI (nI (lgN g)), vL 0, vL (nI k).toInt64], M) (fun r M' => r = some (vI (if w = 0 then M.1 47 0 ((g - 1 - k) % 40) else M.1 48 0 ((g - 1 - k) % 40))) ∧ M' = M) := by
    refine rn_iconst (pc' := 36) (v := 1) rfl rfl (by decide) ?_
    refine rn_isub (pc' := 37) rfl rfl ?_
    refine rn_i2l (pc' := 38) rfl rfl ?_
    refine rn_callS (pc' := 41) (as := [_, _, _]) rfl rfl rfl ⟨rfl, rfl, rfl⟩ (Nat.le_of_ble_eq_true rfl) (Nat.le_of_ble_eq_true rfl) rfl (r_in M _ 0 _) (fun r1 M1 hz => ?_)
    obtain ⟨rfl, hm_⟩ := hz
    refine rn_mem hm_ ?_
    clear hm_
    refine rn_if_ne (t := 46) (pc' := 44) rfl rfl rfl (fun h2 => ?_) (fun h2 => ?_)
    · refine rn_aload_n (pc' := 47) rfl rfl rfl ?_
      refine rn_getI (N := 1) (pc' := 50) rfl rfl rfl rfl (by decide) rfl (by first | assumption | decide | omega) ?_
      refine rn_iconst (pc' := 51) (v := 1) rfl rfl (by decide) ?_
      refine rn_isub (pc' := 52) rfl rfl ?_
      refine rn_iload_n (pc' := 53) rfl rfl rfl ?_
      refine rn_isub (pc' := 54) rfl rfl ?_
      refine rn_bipush (pc' := 56) (v := 40) rfl rfl (by decide) ?_
      refine rn_irem (pc' := 57) rfl rfl (by decide) ?_
      refine rn_topI e2 ?_
      refine rn_istore_n (pc' := 58) rfl rfl rfl (Nat.le_of_ble_eq_true rfl) rfl ?_
      refine rn_iload_n (pc' := 59) rfl rfl rfl ?_
      refine rn_if_ne (t := 71) (pc' := 62) rfl rfl rfl (fun h3 => ?_) (fun h3 => ?_)
      · refine rn_aload_n (pc' := 72) rfl rfl rfl ?_
        refine rn_getF (N := 1) (t' := 48) (pc' := 75) rfl rfl rfl rfl rfl (by first | assumption | decide | omega) ?_
        refine rn_iload_n (pc' := 76) rfl rfl rfl ?_
        refine rn_iald (N := 1) (K := 40) (pc' := 77) rfl rfl ⟨rfl, rfl⟩ rfl (by first | assumption | decide | omega) rfl (by decide) rfl (Nat.mod_lt _ (by decide)) ?_
        refine rn_ireturn rfl rfl ?_
        first | exact ⟨by rw [if_pos h3], rfl⟩ | exact ⟨by rw [if_neg h3], rfl⟩
      · refine rn_aload_n (pc' := 63) rfl rfl rfl ?_
        refine rn_getF (N := 1) (t' := 47) (pc' := 66) rfl rfl rfl rfl rfl (by first | assumption | decide | omega) ?_
        refine rn_iload_n (pc' := 67) rfl rfl rfl ?_
        refine rn_iald (N := 1) (K := 40) (pc' := 68) rfl rfl ⟨rfl, rfl⟩ rfl (by first | assumption | decide | omega) rfl (by decide) rfl (Nat.mod_lt _ (by decide)) ?_
        refine rn_goto (pc' := 77) rfl rfl ?_
        refine rn_ireturn rfl rfl ?_
        first | exact ⟨by rw [if_pos h3], rfl⟩ | exact ⟨by rw [if_neg h3], rfl⟩
    · exact absurd hi (ite01.mp h2)
  show Rn _ 106 (0, [some (vR 20 0), some (vI (nI k)), some (vI w), none], [], _) _
  refine rn_iload_n (pc' := 1) rfl rfl rfl ?_
  refine rn_i2l (pc' := 2) rfl rfl ?_
  refine rn_lconst (pc' := 3) (v := 0) rfl rfl rfl ?_
  refine rn_lconst (pc' := 4) (v := 1) rfl rfl rfl ?_
  refine rn_callS (pc' := 7) (as := [_, _, _]) rfl rfl rfl ⟨rfl, rfl, rfl⟩ (Nat.le_of_ble_eq_true rfl) (Nat.le_of_ble_eq_true rfl) rfl (r_in M _ 0 1) (fun r1 M1 hz => ?_)
  obtain ⟨rfl, hm_⟩ := hz
  refine rn_mem hm_ ?_
  clear hm_
  refine rn_if_ne (t := 14) (pc' := 10) rfl rfl rfl (fun h2 => ?_) (fun h2 => ?_)
  · refine rn_iload_n (pc' := 15) rfl rfl rfl ?_
    refine rn_i2l (pc' := 16) rfl rfl ?_
    refine rn_lconst (pc' := 17) (v := 0) rfl rfl rfl ?_
    refine rn_aload_n (pc' := 18) rfl rfl rfl ?_
    refine rn_getI (N := 1) (pc' := 21) rfl rfl rfl rfl (by decide) rfl (by first | assumption | decide | omega) ?_
    refine rn_bipush (pc' := 23) (v := 40) rfl rfl (by decide) ?_
    refine rn_ic_ge (t := 33) (pc' := 26) rfl rfl rfl (fun h3 => ?_) (fun h3 => ?_)
    · refine rn_bipush (pc' := 35) (v := 40) rfl rfl (by decide) ?_
      first | (refine rn_topI (show M.1 20 0 31 = nI (lgN g) by rw [hg] at h3 ⊢; unfold lgN; rw [if_pos ((lt40 hg31).mp h3)]) ?_; exact k1) | (refine rn_topI (show (40 : Int32) = nI (lgN g) by rw [hg] at h3; unfold lgN; rw [if_neg (fun q => h3 ((lt40 hg31).mpr q))]; exact rfl) ?_; exact k1)
    · refine rn_aload_n (pc' := 27) rfl rfl rfl ?_
      refine rn_getI (N := 1) (pc' := 30) rfl rfl rfl rfl (by decide) rfl (by first | assumption | decide | omega) ?_
      refine rn_goto (pc' := 35) rfl rfl ?_
      first | (refine rn_topI (show M.1 20 0 31 = nI (lgN g) by rw [hg] at h3 ⊢; unfold lgN; rw [if_pos ((lt40 hg31).mp h3)]) ?_; exact k1) | (refine rn_topI (show (40 : Int32) = nI (lgN g) by rw [hg] at h3; unfold lgN; rw [if_neg (fun q => h3 ((lt40 hg31).mpr q))]; exact rfl) ?_; exact k1)
  · exact absurd hw (ite01.mp h2)
theorem r_bootU {d : Nat} (M : xM) (p : Int32) (hp : ¬ isPr p) : Rn (d + 1) 76 (0, xen 76 [vR 20 0, vI p], [], M) (fun r M' => r = some (vI (-1001)) ∧ M' = M) := by
  show Rn _ 76 (0, [some (vR 20 0), some (vI p), none], [], _) _
  refine rn_iload_n (pc' := 1) rfl rfl rfl ?_
  refine rn_i2l (pc' := 2) rfl rfl ?_
  refine rn_lconst (pc' := 3) (v := 0) rfl rfl rfl ?_
  refine rn_ldc2_w (pc' := 6) (v := 15) rfl rfl rfl ?_
  refine rn_callS (pc' := 9) (as := [_, _, _]) rfl rfl rfl ⟨rfl, rfl, rfl⟩ (Nat.le_of_ble_eq_true rfl) (Nat.le_of_ble_eq_true rfl) rfl (r_in M _ 0 15) (fun r1 M1 hz => ?_)
  obtain ⟨rfl, hm_⟩ := hz
  refine rn_mem hm_ ?_
  clear hm_
  refine rn_if_ne (t := 16) (pc' := 12) rfl rfl rfl (fun h2 => ?_) (fun h2 => ?_)
  · exact absurd (ite01.mpr hp) h2
  · refine rn_sipush (pc' := 15) (v := (-1001)) rfl rfl (by decide) ?_
    refine rn_ireturn rfl rfl ?_
    exact ⟨rfl, rfl⟩
theorem r_bootS {d e : Nat} (M : xM) (p : Int32) (hp : isPr p) (h : eo M 1 = some e) : Rn (d + 1) 76 (0, xen 76 [vR 20 0, vI p], [], M) (fun r M' => r = some (vI (-1003)) ∧ M' = M) := by
  have hpe := nI_pos (n := e) (by have := eo_lt h; omega)
  show Rn _ 76 (0, [some (vR 20 0), some (vI p), none], [], _) _
  refine rn_iload_n (pc' := 1) rfl rfl rfl ?_
  refine rn_i2l (pc' := 2) rfl rfl ?_
  refine rn_lconst (pc' := 3) (v := 0) rfl rfl rfl ?_
  refine rn_ldc2_w (pc' := 6) (v := 15) rfl rfl rfl ?_
  refine rn_callS (pc' := 9) (as := [_, _, _]) rfl rfl rfl ⟨rfl, rfl, rfl⟩ (Nat.le_of_ble_eq_true rfl) (Nat.le_of_ble_eq_true rfl) rfl (r_in M _ 0 15) (fun r1 M1 hz => ?_)
  obtain ⟨rfl, hm_⟩ := hz
  refine rn_mem hm_ ?_
  clear hm_
  refine rn_if_ne (t := 16) (pc' := 12) rfl rfl rfl (fun h2 => ?_) (fun h2 => ?_)
  · refine rn_aload_n (pc' := 17) rfl rfl rfl ?_
    refine rn_iconst (pc' := 18) (v := 1) rfl rfl (by decide) ?_
    refine rn_callV (pc' := 21) (as := [_]) rfl rfl rfl ⟨Nat.le_of_ble_eq_true rfl, rfl, rfl⟩ rfl (by first | assumption | decide | omega) (Nat.le_of_ble_eq_true rfl) (Nat.le_of_ble_eq_true rfl) rfl (r_entryOf M 1) (fun r3 M3 hz => ?_)
    obtain ⟨rfl, hm_⟩ := hz
    refine rn_mem hm_ ?_
    clear hm_
    refine rn_topI (oI_some h) ?_
    refine rn_if_lt (t := 28) (pc' := 24) rfl rfl rfl (fun h4 => ?_) (fun h4 => ?_)
    · exact absurd h4 hpe
    · refine rn_sipush (pc' := 27) (v := (-1003)) rfl rfl (by decide) ?_
      refine rn_ireturn rfl rfl ?_
      exact ⟨rfl, rfl⟩
  · exact absurd hp (ite01.mp h2)
def f_boot1 (M : xM) (p : Int32) : xM := mI (mI (mJ (mI (mI (mI (mI (mI (mI (mI (mI (mI M 25 0 0 1) 26 0 0 0) 27 0 0 1) 28 0 0 0) 29 0 0 p) 30 0 0 0) 33 0 0 0) 34 0 0 0) 35 0 0 0) 38 0 0 0) 39 0 0 0) 42 0 0 0
def f_boot2 (M : xM) (p : Int32) : xM := mI (f_boot1 M p) 41 0 0 0
def z0F (r : Nat → Int32) (i : Nat) : Nat → Int32 := fun k => if k < i then 0 else r k
theorem z0_0 (r : Nat → Int32) : z0F r 0 = r := by funext k; unfold z0F; rw [if_neg (Nat.not_lt_zero k)]
theorem z0_S (r : Nat → Int32) (i : Nat) : upd (z0F r i) i 0 = z0F r (i + 1) := by
  funext k
  unfold upd z0F
  by_cases hk : k = i
  · subst hk; simp
  · by_cases hk2 : k < i
    · rw [if_neg hk, if_pos hk2, if_pos (by omega)]
    · rw [if_neg hk, if_neg hk2, if_neg (by omega)]
def f_bootA (M : xM) : xM := mRow M 25 0 (z0F (M.1 25 0) 24)
def f_bootB (N : xM) : xM := mRow (mRow N 31 0 (z0F (N.1 31 0) 8)) 32 0 (z0F ((mRow N 31 0 (z0F (N.1 31 0) 8)).1 32 0) 21)
def f_boot (M : xM) (p : Int32) : xM := mI (mI (f_bootB (f_boot2 (f_bootA M) p)) 20 0 24 1) 20 0 25 23
theorem r_bootY {d : Nat} (M : xM) (p : Int32) (hp : isPr p) (h : eo M 1 = none) : Rn (d + 1) 76 (0, xen 76 [vR 20 0, vI p], [], M) (fun r M' => r = some (vI 1) ∧ M' = f_boot M p) := by
  have ho := oI_neg (o := eo M 1) (fun e h => eo_lt h)
  unfold f_boot
  generalize hN : f_boot2 (f_bootA M) p = N
  have s3 : ∀ m i : Nat, i + m = 21 → ∀ A : xM, A = mRow N 31 0 (z0F (N.1 31 0) 8) → Rn (d + 1) 76 (163, [some (vR 20 0), some (vI p), some (vI (nI i))], [], mRow A 32 0 (z0F (A.1 32 0) i)) (fun r M' => r = some (vI 1) ∧ M' = mI (mI (f_bootB N) 20 0 24 1) 20 0 25 23) := by
    intro m
    induction m with
    | zero =>
      intro i hi A hA
      obtain rfl : i = 21 := by omega
      subst hA
      refine rn_iload_n (pc' := 164) rfl rfl rfl ?_
      refine rn_bipush (pc' := 166) (v := 21) rfl rfl (by decide) ?_
      refine rn_ic_ge (t := 182) (pc' := 169) rfl rfl rfl (fun h1 => ?_) (fun h1 => ?_)
      · refine rn_aload_n (pc' := 183) rfl rfl rfl ?_
        refine rn_iconst (pc' := 184) (v := 1) rfl rfl (by decide) ?_
        refine rn_putI (N := 1) (pc' := 187) rfl rfl rfl rfl rfl (by first | assumption | decide | omega) ?_
        refine rn_aload_n (pc' := 188) rfl rfl rfl ?_
        refine rn_bipush (pc' := 190) (v := 23) rfl rfl (by decide) ?_
        refine rn_putI (N := 1) (pc' := 193) rfl rfl rfl rfl rfl (by first | assumption | decide | omega) ?_
        refine rn_iconst (pc' := 194) (v := 1) rfl rfl (by decide) ?_
        refine rn_ireturn rfl rfl ?_
        exact ⟨rfl, rfl⟩
      · exact absurd ((lt21 (by omega)).mp h1) (by omega)
    | succ m ih =>
      intro i hi A hA
      have hi21 : i < 21 := by omega
      refine rn_iload_n (pc' := 164) rfl rfl rfl ?_
      refine rn_bipush (pc' := 166) (v := 21) rfl rfl (by decide) ?_
      refine rn_ic_ge (t := 182) (pc' := 169) rfl rfl rfl (fun h1 => ?_) (fun h1 => ?_)
      · exact absurd ((lt21 (by omega)).mpr hi21) h1
      · refine rn_aload_n (pc' := 170) rfl rfl rfl ?_
        refine rn_getF (N := 1) (t' := 32) (pc' := 173) rfl rfl rfl rfl rfl (by first | assumption | decide | omega) ?_
        refine rn_iload_n (pc' := 174) rfl rfl rfl ?_
        refine rn_iconst (pc' := 175) (v := 0) rfl rfl (by decide) ?_
        refine rn_iast (N := 1) (K := 504) (pc' := 176) rfl rfl ⟨rfl, rfl⟩ rfl (by first | assumption | decide | omega) rfl (by decide) rfl (by first | assumption | decide | omega) ?_
        rw [mRow_put, z0_S]
        refine rn_iinc (pc' := 179) rfl rfl rfl (nI_inc _) rfl (Nat.le_of_ble_eq_true rfl) rfl ?_
        refine rn_goto (pc' := 163) rfl rfl ?_
        exact ih (i + 1) (by omega) A hA
  have s2 : ∀ m i : Nat, i + m = 8 → Rn (d + 1) 76 (142, [some (vR 20 0), some (vI p), some (vI (nI i))], [], mRow N 31 0 (z0F (N.1 31 0) i)) (fun r M' => r = some (vI 1) ∧ M' = mI (mI (f_bootB N) 20 0 24 1) 20 0 25 23) := by
    intro m
    induction m with
    | zero =>
      intro i hi
      obtain rfl : i = 8 := by omega
      have s3 := s3 21 0 rfl _ rfl
      rw [z0_0, mRow_id] at s3
      refine rn_iload_n (pc' := 143) rfl rfl rfl ?_
      refine rn_bipush (pc' := 145) (v := 8) rfl rfl (by decide) ?_
      refine rn_ic_ge (t := 161) (pc' := 148) rfl rfl rfl (fun h1 => ?_) (fun h1 => ?_)
      · refine rn_iconst (pc' := 162) (v := 0) rfl rfl (by decide) ?_
        refine rn_istore_n (pc' := 163) rfl rfl rfl (Nat.le_of_ble_eq_true rfl) rfl ?_
        exact s3
      · exact absurd ((lt8 (by omega)).mp h1) (by omega)
    | succ m ih =>
      intro i hi
      have hi21 : i < 8 := by omega
      refine rn_iload_n (pc' := 143) rfl rfl rfl ?_
      refine rn_bipush (pc' := 145) (v := 8) rfl rfl (by decide) ?_
      refine rn_ic_ge (t := 161) (pc' := 148) rfl rfl rfl (fun h1 => ?_) (fun h1 => ?_)
      · exact absurd ((lt8 (by omega)).mpr hi21) h1
      · refine rn_aload_n (pc' := 149) rfl rfl rfl ?_
        refine rn_getF (N := 1) (t' := 31) (pc' := 152) rfl rfl rfl rfl rfl (by first | assumption | decide | omega) ?_
        refine rn_iload_n (pc' := 153) rfl rfl rfl ?_
        refine rn_iconst (pc' := 154) (v := 0) rfl rfl (by decide) ?_
        refine rn_iast (N := 1) (K := 192) (pc' := 155) rfl rfl ⟨rfl, rfl⟩ rfl (by first | assumption | decide | omega) rfl (by decide) rfl (by first | assumption | decide | omega) ?_
        rw [mRow_put, z0_S]
        refine rn_iinc (pc' := 158) rfl rfl rfl (nI_inc _) rfl (Nat.le_of_ble_eq_true rfl) rfl ?_
        refine rn_goto (pc' := 142) rfl rfl ?_
        exact ih (i + 1) (by omega)
  have s2 := s2 8 0 rfl
  rw [z0_0, mRow_id, ← hN] at s2
  rw [← hN]
  have s1 : ∀ m i : Nat, i + m = 24 → Rn (d + 1) 76 (30, [some (vR 20 0), some (vI p), some (vI (nI i))], [], mRow M 25 0 (z0F (M.1 25 0) i)) (fun r M' => r = some (vI 1) ∧ M' = mI (mI (f_bootB (f_boot2 (f_bootA M) p)) 20 0 24 1) 20 0 25 23) := by
    intro m
    induction m with
    | zero =>
      intro i hi
      obtain rfl : i = 24 := by omega
      refine rn_iload_n (pc' := 31) rfl rfl rfl ?_
      refine rn_bipush (pc' := 33) (v := 24) rfl rfl (by decide) ?_
      refine rn_ic_ge (t := 49) (pc' := 36) rfl rfl rfl (fun h1 => ?_) (fun h1 => ?_)
      · refine rn_aload_n (pc' := 50) rfl rfl rfl ?_
        refine rn_getF (N := 1) (t' := 25) (pc' := 53) rfl rfl rfl rfl rfl (by first | assumption | decide | omega) ?_
        refine rn_iconst (pc' := 54) (v := 0) rfl rfl (by decide) ?_
        refine rn_iconst (pc' := 55) (v := 1) rfl rfl (by decide) ?_
        refine rn_iast (k := 0) (N := 1) (K := 24) (pc' := 56) rfl rfl ⟨rfl, rfl⟩ rfl (by first | assumption | decide | omega) rfl (by decide) (by decide) (by first | assumption | decide | omega) ?_
        refine rn_aload_n (pc' := 57) rfl rfl rfl ?_
        refine rn_getF (N := 1) (t' := 26) (pc' := 60) rfl rfl rfl rfl rfl (by first | assumption | decide | omega) ?_
        refine rn_iconst (pc' := 61) (v := 0) rfl rfl (by decide) ?_
        refine rn_iconst (pc' := 62) (v := 0) rfl rfl (by decide) ?_
        refine rn_iast (k := 0) (N := 1) (K := 24) (pc' := 63) rfl rfl ⟨rfl, rfl⟩ rfl (by first | assumption | decide | omega) rfl (by decide) (by decide) (by first | assumption | decide | omega) ?_
        refine rn_aload_n (pc' := 64) rfl rfl rfl ?_
        refine rn_getF (N := 1) (t' := 27) (pc' := 67) rfl rfl rfl rfl rfl (by first | assumption | decide | omega) ?_
        refine rn_iconst (pc' := 68) (v := 0) rfl rfl (by decide) ?_
        refine rn_iconst (pc' := 69) (v := 1) rfl rfl (by decide) ?_
        refine rn_iast (k := 0) (N := 1) (K := 24) (pc' := 70) rfl rfl ⟨rfl, rfl⟩ rfl (by first | assumption | decide | omega) rfl (by decide) (by decide) (by first | assumption | decide | omega) ?_
        refine rn_aload_n (pc' := 71) rfl rfl rfl ?_
        refine rn_getF (N := 1) (t' := 28) (pc' := 74) rfl rfl rfl rfl rfl (by first | assumption | decide | omega) ?_
        refine rn_iconst (pc' := 75) (v := 0) rfl rfl (by decide) ?_
        refine rn_iconst (pc' := 76) (v := 0) rfl rfl (by decide) ?_
        refine rn_iast (k := 0) (N := 1) (K := 24) (pc' := 77) rfl rfl ⟨rfl, rfl⟩ rfl (by first | assumption | decide | omega) rfl (by decide) (by decide) (by first | assumption | decide | omega) ?_
        refine rn_aload_n (pc' := 78) rfl rfl rfl ?_
        refine rn_getF (N := 1) (t' := 29) (pc' := 81) rfl rfl rfl rfl rfl (by first | assumption | decide | omega) ?_
        refine rn_iconst (pc' := 82) (v := 0) rfl rfl (by decide) ?_
        refine rn_iload_n (pc' := 83) rfl rfl rfl ?_
        refine rn_iast (k := 0) (N := 1) (K := 24) (pc' := 84) rfl rfl ⟨rfl, rfl⟩ rfl (by first | assumption | decide | omega) rfl (by decide) (by decide) (by first | assumption | decide | omega) ?_
        refine rn_aload_n (pc' := 85) rfl rfl rfl ?_
        refine rn_getF (N := 1) (t' := 30) (pc' := 88) rfl rfl rfl rfl rfl (by first | assumption | decide | omega) ?_
        refine rn_iconst (pc' := 89) (v := 0) rfl rfl (by decide) ?_
        refine rn_iconst (pc' := 90) (v := 0) rfl rfl (by decide) ?_
        refine rn_iast (k := 0) (N := 1) (K := 24) (pc' := 91) rfl rfl ⟨rfl, rfl⟩ rfl (by first | assumption | decide | omega) rfl (by decide) (by decide) (by first | assumption | decide | omega) ?_
        refine rn_aload_n (pc' := 92) rfl rfl rfl ?_
        refine rn_getF (N := 1) (t' := 33) (pc' := 95) rfl rfl rfl rfl rfl (by first | assumption | decide | omega) ?_
        refine rn_iconst (pc' := 96) (v := 0) rfl rfl (by decide) ?_
        refine rn_iconst (pc' := 97) (v := 0) rfl rfl (by decide) ?_
        refine rn_iast (k := 0) (N := 1) (K := 24) (pc' := 98) rfl rfl ⟨rfl, rfl⟩ rfl (by first | assumption | decide | omega) rfl (by decide) (by decide) (by first | assumption | decide | omega) ?_
        refine rn_aload_n (pc' := 99) rfl rfl rfl ?_
        refine rn_getF (N := 1) (t' := 34) (pc' := 102) rfl rfl rfl rfl rfl (by first | assumption | decide | omega) ?_
        refine rn_iconst (pc' := 103) (v := 0) rfl rfl (by decide) ?_
        refine rn_iconst (pc' := 104) (v := 0) rfl rfl (by decide) ?_
        refine rn_iast (k := 0) (N := 1) (K := 24) (pc' := 105) rfl rfl ⟨rfl, rfl⟩ rfl (by first | assumption | decide | omega) rfl (by decide) (by decide) (by first | assumption | decide | omega) ?_
        refine rn_aload_n (pc' := 106) rfl rfl rfl ?_
        refine rn_getF (N := 1) (t' := 35) (pc' := 109) rfl rfl rfl rfl rfl (by first | assumption | decide | omega) ?_
        refine rn_iconst (pc' := 110) (v := 0) rfl rfl (by decide) ?_
        refine rn_iconst (pc' := 111) (v := 0) rfl rfl (by decide) ?_
        refine rn_iast (k := 0) (N := 1) (K := 24) (pc' := 112) rfl rfl ⟨rfl, rfl⟩ rfl (by first | assumption | decide | omega) rfl (by decide) (by decide) (by first | assumption | decide | omega) ?_
        refine rn_aload_n (pc' := 113) rfl rfl rfl ?_
        refine rn_getF (N := 1) (t' := 38) (pc' := 116) rfl rfl rfl rfl rfl (by first | assumption | decide | omega) ?_
        refine rn_iconst (pc' := 117) (v := 0) rfl rfl (by decide) ?_
        refine rn_lconst (pc' := 118) (v := 0) rfl rfl rfl ?_
        refine rn_last (k := 0) (N := 1) (K := 24) (pc' := 119) rfl rfl ⟨rfl, rfl⟩ rfl (by first | assumption | decide | omega) rfl (by decide) (by decide) (by first | assumption | decide | omega) ?_
        refine rn_aload_n (pc' := 120) rfl rfl rfl ?_
        refine rn_getF (N := 1) (t' := 39) (pc' := 123) rfl rfl rfl rfl rfl (by first | assumption | decide | omega) ?_
        refine rn_iconst (pc' := 124) (v := 0) rfl rfl (by decide) ?_
        refine rn_iconst (pc' := 125) (v := 0) rfl rfl (by decide) ?_
        refine rn_iast (k := 0) (N := 1) (K := 24) (pc' := 126) rfl rfl ⟨rfl, rfl⟩ rfl (by first | assumption | decide | omega) rfl (by decide) (by decide) (by first | assumption | decide | omega) ?_
        refine rn_aload_n (pc' := 127) rfl rfl rfl ?_
        refine rn_getF (N := 1) (t' := 42) (pc' := 130) rfl rfl rfl rfl rfl (by first | assumption | decide | omega) ?_
        refine rn_iconst (pc' := 131) (v := 0) rfl rfl (by decide) ?_
        refine rn_iconst (pc' := 132) (v := 0) rfl rfl (by decide) ?_
        refine rn_bast (k := 0) (N := 1) (K := 24) (pc' := 133) rfl rfl ⟨rfl, rfl⟩ rfl (by first | assumption | decide | omega) rfl (by decide) (by decide) (by first | assumption | decide | omega) (by decide) ?_
        refine rn_aload_n (pc' := 134) rfl rfl rfl ?_
        refine rn_getF (N := 1) (t' := 41) (pc' := 137) rfl rfl rfl rfl rfl (by first | assumption | decide | omega) ?_
        refine rn_iconst (pc' := 138) (v := 0) rfl rfl (by decide) ?_
        refine rn_iconst (pc' := 139) (v := 0) rfl rfl (by decide) ?_
        refine rn_bast (k := 0) (N := 1) (K := 24) (pc' := 140) rfl rfl ⟨rfl, rfl⟩ rfl (by first | assumption | decide | omega) rfl (by decide) (by decide) (by first | assumption | decide | omega) (by decide) ?_
        refine rn_iconst (pc' := 141) (v := 0) rfl rfl (by decide) ?_
        refine rn_istore_n (pc' := 142) rfl rfl rfl (Nat.le_of_ble_eq_true rfl) rfl ?_
        exact s2
      · exact absurd ((lt24 (by omega)).mp h1) (by omega)
    | succ m ih =>
      intro i hi
      have hi21 : i < 24 := by omega
      refine rn_iload_n (pc' := 31) rfl rfl rfl ?_
      refine rn_bipush (pc' := 33) (v := 24) rfl rfl (by decide) ?_
      refine rn_ic_ge (t := 49) (pc' := 36) rfl rfl rfl (fun h1 => ?_) (fun h1 => ?_)
      · exact absurd ((lt24 (by omega)).mpr hi21) h1
      · refine rn_aload_n (pc' := 37) rfl rfl rfl ?_
        refine rn_getF (N := 1) (t' := 25) (pc' := 40) rfl rfl rfl rfl rfl (by first | assumption | decide | omega) ?_
        refine rn_iload_n (pc' := 41) rfl rfl rfl ?_
        refine rn_iconst (pc' := 42) (v := 0) rfl rfl (by decide) ?_
        refine rn_iast (N := 1) (K := 24) (pc' := 43) rfl rfl ⟨rfl, rfl⟩ rfl (by first | assumption | decide | omega) rfl (by decide) rfl (by first | assumption | decide | omega) ?_
        rw [mRow_put, z0_S]
        refine rn_iinc (pc' := 46) rfl rfl rfl (nI_inc _) rfl (Nat.le_of_ble_eq_true rfl) rfl ?_
        refine rn_goto (pc' := 30) rfl rfl ?_
        exact ih (i + 1) (by omega)
  have s1 := s1 24 0 rfl
  rw [z0_0, mRow_id] at s1
  show Rn _ 76 (0, [some (vR 20 0), some (vI p), none], [], _) _
  refine rn_iload_n (pc' := 1) rfl rfl rfl ?_
  refine rn_i2l (pc' := 2) rfl rfl ?_
  refine rn_lconst (pc' := 3) (v := 0) rfl rfl rfl ?_
  refine rn_ldc2_w (pc' := 6) (v := 15) rfl rfl rfl ?_
  refine rn_callS (pc' := 9) (as := [_, _, _]) rfl rfl rfl ⟨rfl, rfl, rfl⟩ (Nat.le_of_ble_eq_true rfl) (Nat.le_of_ble_eq_true rfl) rfl (r_in M _ 0 15) (fun r1 M1 hz => ?_)
  obtain ⟨rfl, hm_⟩ := hz
  refine rn_mem hm_ ?_
  clear hm_
  refine rn_if_ne (t := 16) (pc' := 12) rfl rfl rfl (fun h2 => ?_) (fun h2 => ?_)
  · refine rn_aload_n (pc' := 17) rfl rfl rfl ?_
    refine rn_iconst (pc' := 18) (v := 1) rfl rfl (by decide) ?_
    refine rn_callV (pc' := 21) (as := [_]) rfl rfl rfl ⟨Nat.le_of_ble_eq_true rfl, rfl, rfl⟩ rfl (by first | assumption | decide | omega) (Nat.le_of_ble_eq_true rfl) (Nat.le_of_ble_eq_true rfl) rfl (r_entryOf M 1) (fun r3 M3 hz => ?_)
    obtain ⟨rfl, hm_⟩ := hz
    refine rn_mem hm_ ?_
    clear hm_
    refine rn_if_lt (t := 28) (pc' := 24) rfl rfl rfl (fun h4 => ?_) (fun h4 => ?_)
    · refine rn_iconst (pc' := 29) (v := 0) rfl rfl (by decide) ?_
      refine rn_istore_n (pc' := 30) rfl rfl rfl (Nat.le_of_ble_eq_true rfl) rfl ?_
      exact s1
    · exact absurd (ho.mpr h) h4
  · exact absurd hp (ite01.mp h2)
