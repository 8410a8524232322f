def beg (C : xM) (f : Nat) (o : Option Nat) (p g pr : Int32) : xM := mI (mI (mI (mI (mI (mJ (mI (mI (mI (mI (mI (mI (mI (mR (mI C 0 f 0 p) 0 f 1 o) 0 f 2 g) 0 f 3 0) 0 f 4 pr) 0 f 5 0) 0 f 8 0) 0 f 9 0) 0 f 12 0) 0 f 13 0) 0 f 14 0) 0 f 15 0) 0 f 16 0) 0 f 17 0) 0 f 18 0
theorem c_begin_ {d f : Nat} (C : xM) (o : Option Nat) (p g pr : Int32) (hf : f < 24) : Rn d 0 (0, xen 0 [vR 0 f, vI p, vO 0 o, vI g, vI pr], [], C) (fun r C' => r = none ∧ C' = beg C f o p g pr) := by
  show Rn _ 0 (0, [some (vR 0 f), some (vI p), some (vO 0 o), some (vI g), some (vI pr)], [], _) _
  refine rn_aload_n (pc' := 1) rfl rfl rfl ?_
  refine rn_iload_n (pc' := 2) rfl rfl rfl ?_
  refine rn_putI (N := 24) (pc' := 5) rfl rfl rfl rfl rfl (by first | assumption | decide | omega) ?_
  refine rn_aload_n (pc' := 6) rfl rfl rfl ?_
  refine rn_aload_n (pc' := 7) rfl rfl rfl ?_
  refine rn_putV (N := 24) (t' := 0) (o := o) (pc' := 10) rfl rfl rfl rfl (by decide) rfl (by first | assumption | decide | omega) ?_
  refine rn_aload_n (pc' := 11) rfl rfl rfl ?_
  refine rn_iload_n (pc' := 12) rfl rfl rfl ?_
  refine rn_putI (N := 24) (pc' := 15) rfl rfl rfl rfl rfl (by first | assumption | decide | omega) ?_
  refine rn_aload_n (pc' := 16) rfl rfl rfl ?_
  refine rn_iconst (pc' := 17) (v := 0) rfl rfl (by decide) ?_
  refine rn_putI (N := 24) (pc' := 20) rfl rfl rfl rfl rfl (by first | assumption | decide | omega) ?_
  refine rn_aload_n (pc' := 21) rfl rfl rfl ?_
  refine rn_iload (pc' := 23) rfl rfl rfl ?_
  refine rn_putI (N := 24) (pc' := 26) rfl rfl rfl rfl rfl (by first | assumption | decide | omega) ?_
  refine rn_aload_n (pc' := 27) rfl rfl rfl ?_
  refine rn_iconst (pc' := 28) (v := 0) rfl rfl (by decide) ?_
  refine rn_putI (N := 24) (pc' := 31) rfl rfl rfl rfl rfl (by first | assumption | decide | omega) ?_
  refine rn_aload_n (pc' := 32) rfl rfl rfl ?_
  refine rn_iconst (pc' := 33) (v := 0) rfl rfl (by decide) ?_
  refine rn_putI (N := 24) (pc' := 36) rfl rfl rfl rfl rfl (by first | assumption | decide | omega) ?_
  refine rn_aload_n (pc' := 37) rfl rfl rfl ?_
  refine rn_iconst (pc' := 38) (v := 0) rfl rfl (by decide) ?_
  refine rn_putI (N := 24) (pc' := 41) rfl rfl rfl rfl rfl (by first | assumption | decide | omega) ?_
  refine rn_aload_n (pc' := 42) rfl rfl rfl ?_
  refine rn_iconst (pc' := 43) (v := 0) rfl rfl (by decide) ?_
  refine rn_putI (N := 24) (pc' := 46) rfl rfl rfl rfl rfl (by first | assumption | decide | omega) ?_
  refine rn_aload_n (pc' := 47) rfl rfl rfl ?_
  refine rn_lconst (pc' := 48) (v := 0) rfl rfl rfl ?_
  refine rn_putJ (N := 24) (pc' := 51) rfl rfl rfl rfl rfl (by first | assumption | decide | omega) ?_
  refine rn_aload_n (pc' := 52) rfl rfl rfl ?_
  refine rn_iconst (pc' := 53) (v := 0) rfl rfl (by decide) ?_
  refine rn_putI (N := 24) (pc' := 56) rfl rfl rfl rfl rfl (by first | assumption | decide | omega) ?_
  refine rn_aload_n (pc' := 57) rfl rfl rfl ?_
  refine rn_iconst (pc' := 58) (v := 0) rfl rfl (by decide) ?_
  refine rn_putI (N := 24) (pc' := 61) rfl rfl rfl rfl rfl (by first | assumption | decide | omega) ?_
  refine rn_aload_n (pc' := 62) rfl rfl rfl ?_
  refine rn_iconst (pc' := 63) (v := 0) rfl rfl (by decide) ?_
  refine rn_putZ (N := 24) (pc' := 66) rfl rfl rfl rfl rfl (by first | assumption | decide | omega) (by decide) ?_
  refine rn_aload_n (pc' := 67) rfl rfl rfl ?_
  refine rn_iconst (pc' := 68) (v := 0) rfl rfl (by decide) ?_
  refine rn_putZ (N := 24) (pc' := 71) rfl rfl rfl rfl rfl (by first | assumption | decide | omega) (by decide) ?_
  refine rn_aload_n (pc' := 72) rfl rfl rfl ?_
  refine rn_iconst (pc' := 73) (v := 0) rfl rfl (by decide) ?_
  refine rn_putI (N := 24) (pc' := 76) rfl rfl rfl rfl rfl (by first | assumption | decide | omega) ?_
  refine rn_return rfl rfl ?_
  exact ⟨rfl, rfl⟩
def cpf (C : xM) (f e : Nat) : xM := mC (mC (mC (mC (mI (mI (mI C 0 f 5 (C.1 0 e 5)) 0 f 9 (C.1 0 e 9)) 0 f 12 (C.1 0 e 12)) 1 e 1 f 0 0 8) 2 e 2 f 0 0 21) 3 e 3 f 0 0 4) 4 e 4 f 0 0 4
theorem c_copyFrom {d f e : Nat} (C : xM) (hf : f < 24) (he : e < 24) : Rn (d + 1) 2 (0, xen 2 [vR 0 f, vR 0 e], [], C) (fun r C' => r = none ∧ C' = cpf C f e) := by
  show Rn _ 2 (0, [some (vR 0 f), some (vR 0 e)], [], _) _
  refine rn_aload_n (pc' := 1) rfl rfl rfl ?_
  refine rn_aload_n (pc' := 2) rfl rfl rfl ?_
  refine rn_getI (N := 24) (pc' := 5) rfl rfl rfl rfl (by decide) rfl (by first | assumption | decide | omega) ?_
  refine rn_putI (N := 24) (pc' := 8) rfl rfl rfl rfl rfl (by first | assumption | decide | omega) ?_
  refine rn_aload_n (pc' := 9) rfl rfl rfl ?_
  refine rn_aload_n (pc' := 10) rfl rfl rfl ?_
  refine rn_getI (N := 24) (pc' := 13) rfl rfl rfl rfl (by decide) rfl (by first | assumption | decide | omega) ?_
  refine rn_topI (y := C.1 0 e 9) (mI_ne3 (by decide)) ?_
  refine rn_putI (N := 24) (pc' := 16) rfl rfl rfl rfl rfl (by first | assumption | decide | omega) ?_
  refine rn_aload_n (pc' := 17) rfl rfl rfl ?_
  refine rn_aload_n (pc' := 18) rfl rfl rfl ?_
  refine rn_getI (N := 24) (pc' := 21) rfl rfl rfl rfl (by decide) rfl (by first | assumption | decide | omega) ?_
  refine rn_topI (y := C.1 0 e 12) ((mI_ne3 (by decide)).trans (mI_ne3 (by decide))) ?_
  refine rn_putI (N := 24) (pc' := 24) rfl rfl rfl rfl rfl (by first | assumption | decide | omega) ?_
  refine rn_aload_n (pc' := 25) rfl rfl rfl ?_
  refine rn_getF (N := 24) (t' := 1) (pc' := 28) rfl rfl rfl rfl rfl (by first | assumption | decide | omega) ?_
  refine rn_iconst (pc' := 29) (v := 0) rfl rfl (by decide) ?_
  refine rn_aload_n (pc' := 30) rfl rfl rfl ?_
  refine rn_getF (N := 24) (t' := 1) (pc' := 33) rfl rfl rfl rfl rfl (by first | assumption | decide | omega) ?_
  refine rn_iconst (pc' := 34) (v := 0) rfl rfl (by decide) ?_
  refine rn_bipush (pc' := 36) (v := 8) rfl rfl (by decide) ?_
  refine rn_copy (K := 8) (pc' := 39) rfl rfl rfl (by decide) ⟨⟨rfl, rfl⟩, rfl, rfl⟩ rfl (by first | assumption | decide | omega) rfl (by first | assumption | decide | omega) rfl rfl (by decide) (by decide) (by simp) ?_
  refine rn_aload_n (pc' := 40) rfl rfl rfl ?_
  refine rn_getF (N := 24) (t' := 2) (pc' := 43) rfl rfl rfl rfl rfl (by first | assumption | decide | omega) ?_
  refine rn_iconst (pc' := 44) (v := 0) rfl rfl (by decide) ?_
  refine rn_aload_n (pc' := 45) rfl rfl rfl ?_
  refine rn_getF (N := 24) (t' := 2) (pc' := 48) rfl rfl rfl rfl rfl (by first | assumption | decide | omega) ?_
  refine rn_iconst (pc' := 49) (v := 0) rfl rfl (by decide) ?_
  refine rn_bipush (pc' := 51) (v := 21) rfl rfl (by decide) ?_
  refine rn_copy (K := 21) (pc' := 54) rfl rfl rfl (by decide) ⟨⟨rfl, rfl⟩, rfl, rfl⟩ rfl (by first | assumption | decide | omega) rfl (by first | assumption | decide | omega) rfl rfl (by decide) (by decide) (by simp) ?_
  refine rn_aload_n (pc' := 55) rfl rfl rfl ?_
  refine rn_getF (N := 24) (t' := 3) (pc' := 58) rfl rfl rfl rfl rfl (by first | assumption | decide | omega) ?_
  refine rn_iconst (pc' := 59) (v := 0) rfl rfl (by decide) ?_
  refine rn_aload_n (pc' := 60) rfl rfl rfl ?_
  refine rn_getF (N := 24) (t' := 3) (pc' := 63) rfl rfl rfl rfl rfl (by first | assumption | decide | omega) ?_
  refine rn_iconst (pc' := 64) (v := 0) rfl rfl (by decide) ?_
  refine rn_iconst (pc' := 65) (v := 4) rfl rfl (by decide) ?_
  refine rn_copy (K := 4) (pc' := 68) rfl rfl rfl (by decide) ⟨⟨rfl, rfl⟩, rfl, rfl⟩ rfl (by first | assumption | decide | omega) rfl (by first | assumption | decide | omega) rfl rfl (by decide) (by decide) (by simp) ?_
  refine rn_aload_n (pc' := 69) rfl rfl rfl ?_
  refine rn_getF (N := 24) (t' := 4) (pc' := 72) rfl rfl rfl rfl rfl (by first | assumption | decide | omega) ?_
  refine rn_iconst (pc' := 73) (v := 0) rfl rfl (by decide) ?_
  refine rn_aload_n (pc' := 74) rfl rfl rfl ?_
  refine rn_getF (N := 24) (t' := 4) (pc' := 77) rfl rfl rfl rfl rfl (by first | assumption | decide | omega) ?_
  refine rn_iconst (pc' := 78) (v := 0) rfl rfl (by decide) ?_
  refine rn_iconst (pc' := 79) (v := 4) rfl rfl (by decide) ?_
  refine rn_copy (K := 4) (pc' := 82) rfl rfl rfl (by decide) ⟨⟨rfl, rfl⟩, rfl, rfl⟩ rfl (by first | assumption | decide | omega) rfl (by first | assumption | decide | omega) rfl rfl (by decide) (by decide) (by simp) ?_
  refine rn_return rfl rfl ?_
  exact ⟨rfl, rfl⟩
def fcF (C : xM) (e f a : Nat) (p : Int32) : xM := mI (mI (mI (cpf (beg (mI C 9 0 12 p) f (some e) p (C.1 0 e 2) (C.1 0 e 4)) f e) 1 f a 0) 1 e a p) 9 0 13 (C.1 9 0 13 + 1)
section
variable {C N : xM} {e f a : Nat} {p : Int32}
theorem fc_0 (hne : ¬ e = f) (k : Nat) (h1 : ¬ k = 15) (h2 : ¬ k = 18) (e' : Nat) : (fcF C e f a p).1 0 e' k = if e' = f then (if k = 0 then p else if k = 2 then C.1 0 e 2 else if k = 3 then 0 else if k = 4 then C.1 0 e 4 else if k = 5 then C.1 0 e 5 else if k = 8 then 0 else if k = 9 then C.1 0 e 9 else if k = 12 then C.1 0 e 12 else if k = 14 then 0 else if k = 16 then 0 else if k = 17 then 0 else C.1 0 e' k) else C.1 0 e' k := by
  by_cases hf : e' = f
  · subst hf
    rw [if_pos rfl]
    simp only [fcF, cpf, beg, mI, mC, mJ, mR, xu]
    simp (config := { decide := true }) only [hne, true_and, false_and, and_true, if_true, if_false, and_false]
    by_cases k0 : k = 0
    · subst k0; simp
    by_cases k2 : k = 2
    · subst k2; simp
    by_cases k3 : k = 3
    · subst k3; simp
    by_cases k4 : k = 4
    · subst k4; simp
    by_cases k5 : k = 5
    · subst k5; simp
    by_cases k8 : k = 8
    · subst k8; simp
    by_cases k9 : k = 9
    · subst k9; simp
    by_cases k12 : k = 12
    · subst k12; simp
    by_cases k14 : k = 14
    · subst k14; simp
    by_cases k16 : k = 16
    · subst k16; simp
    by_cases k17 : k = 17
    · subst k17; simp
    simp [*]
  · rw [if_neg hf]
    simp only [fcF, cpf, beg, mI, mC, mJ, mR, xu]
    simp (config := { decide := true }) only [hf, true_and, false_and, and_true, if_true, if_false, and_false]
theorem fc_R (k : Nat) (e' : Nat) : (fcF C e f a p).2.2 0 e' k = if e' = f ∧ k = 1 then some e else C.2.2 0 e' k := by
  show (if (0 : Nat) = 0 ∧ e' = f ∧ k = 1 then some e else C.2.2 0 e' k) = _
  by_cases h : e' = f ∧ k = 1
  · rw [if_pos ⟨rfl, h⟩, if_pos h]
  · rw [if_neg (fun z => h z.2), if_neg h]
theorem fc_J (e' : Nat) : (fcF C e f a p).2.1 0 e' 13 = if e' = f then 0 else C.2.1 0 e' 13 := by
  show (if (0 : Nat) = 0 ∧ e' = f ∧ (13 : Nat) = 13 then (0 : Int64) else C.2.1 0 e' 13) = _
  by_cases h : e' = f
  · rw [if_pos ⟨rfl, h, rfl⟩, if_pos h]
  · rw [if_neg (fun z => h z.2.1), if_neg h]
theorem fc_1 (e' r : Nat) (hr : r < 8) : (fcF C e f a p).1 1 e' r = if e' = e ∧ r = a then p else if e' = f ∧ r = a then 0 else if e' = f then C.1 1 e r else C.1 1 e' r := by
  have hr0 : 0 ≤ r ∧ r < 0 + 8 := by omega
  simp only [fcF, cpf, beg, mI, mC, mJ, mR, xu, va_cpy]
  simp (config := { decide := true }) only [true_and, false_and, if_false, if_pos hr0, Nat.zero_add, Nat.sub_zero]
theorem fc_2 (e' r : Nat) (hr : r < 21) : (fcF C e f a p).1 2 e' r = if e' = f then C.1 2 e r else C.1 2 e' r := by
  have hr0 : 0 ≤ r ∧ r < 0 + 21 := by omega
  simp only [fcF, cpf, beg, mI, mC, mJ, mR, xu, va_cpy]
  simp (config := { decide := true }) only [true_and, false_and, if_false, if_pos hr0, Nat.zero_add, Nat.sub_zero]
theorem fc_3 (e' r : Nat) (hr : r < 4) : (fcF C e f a p).1 3 e' r = if e' = f then C.1 3 e r else C.1 3 e' r := by
  have hr0 : 0 ≤ r ∧ r < 0 + 4 := by omega
  simp only [fcF, cpf, beg, mI, mC, mJ, mR, xu, va_cpy]
  simp (config := { decide := true }) only [true_and, false_and, if_false, if_pos hr0, Nat.zero_add, Nat.sub_zero]
theorem fc_4 (e' r : Nat) (hr : r < 4) : (fcF C e f a p).1 4 e' r = if e' = f then C.1 4 e r else C.1 4 e' r := by
  have hr0 : 0 ≤ r ∧ r < 0 + 4 := by omega
  simp only [fcF, cpf, beg, mI, mC, mJ, mR, xu, va_cpy]
  simp (config := { decide := true }) only [true_and, false_and, if_false, if_pos hr0, Nat.zero_add, Nat.sub_zero]
theorem fk_t (hne : ¬ e = f) (t : Nat) (ht : t ∈ [25, 26, 27, 28, 29, 30, 33, 34, 35, 39, 41, 42]) (k : Nat) : (f_forkY N e f a p).1 t 0 k = if k = f then (if t = 25 then p else if t = 26 then N.1 25 0 e else if t = 27 then N.1 27 0 e else if t = 28 then 0 else if t = 29 then N.1 29 0 e else if t = 30 then N.1 30 0 e else if t = 33 then 0 else if t = 34 then N.1 34 0 e else if t = 35 then N.1 35 0 e else 0) else N.1 t 0 k := by
  simp only [List.mem_cons, List.not_mem_nil, or_false] at ht
  rcases ht with rfl | rfl | rfl | rfl | rfl | rfl | rfl | rfl | rfl | rfl | rfl | rfl <;> simp [f_forkY, fk1, fk2, fk3, fk4, fk5, fk6, fk7, mI, mRow, mJ, xu, hne]
theorem fk_38 (k : Nat) : (f_forkY N e f a p).2.1 38 0 k = if k = f then 0 else N.2.1 38 0 k := by
  simp [f_forkY, fk1, fk2, fk3, fk4, fk5, fk6, fk7, mI, mRow, mJ, xu]
theorem fk_31 (hne : ¬ e = f) (ha : a < 8) (e' r : Nat) (hr : r < 8) : (f_forkY N e f a p).1 31 0 (8 * e' + r) = if e' = e ∧ r = a then p else if e' = f ∧ r = a then 0 else if e' = f then N.1 31 0 (8 * e + r) else N.1 31 0 (8 * e' + r) := by
  have e1 : (f_forkY N e f a p).1 31 0 (8 * e' + r) = if (31 : Nat) = 31 ∧ (0 : Nat) = 0 ∧ 8 * e' + r = 8 * e + a then p else if (31 : Nat) = 31 ∧ (0 : Nat) = 0 ∧ 8 * e' + r = 8 * f + a then 0 else va_cpy (N.1 31 0) (N.1 31 0) (8 * e) (8 * f) 8 (8 * e' + r) := rfl
  rw [e1]
  by_cases h1 : e' = e ∧ r = a
  · rw [if_pos (by omega), if_pos h1]
  · rw [if_neg (by omega), if_neg h1]
    by_cases h2 : e' = f ∧ r = a
    · rw [if_pos (by omega), if_pos h2]
    · rw [if_neg (by omega), if_neg h2]
      unfold va_cpy
      by_cases h3 : e' = f
      · rw [if_pos (by omega), if_pos h3, show 8 * e + (8 * e' + r - 8 * f) = 8 * e + r by omega]
      · rw [if_neg (by omega), if_neg h3]
theorem fk_32 (e' r : Nat) (hr : r < 21) : (f_forkY N e f a p).1 32 0 (21 * e' + r) = if e' = f then N.1 32 0 (21 * e + r) else N.1 32 0 (21 * e' + r) := by
  have e1 : (f_forkY N e f a p).1 32 0 (21 * e' + r) = va_cpy (N.1 32 0) (N.1 32 0) (21 * e) (21 * f) 21 (21 * e' + r) := rfl
  rw [e1]
  unfold va_cpy
  by_cases h3 : e' = f
  · rw [if_pos (by omega), if_pos h3, show 21 * e + (21 * e' + r - 21 * f) = 21 * e + r by omega]
  · rw [if_neg (by omega), if_neg h3]
theorem fk_36 (e' r : Nat) (hr : r < 4) : (f_forkY N e f a p).1 36 0 (4 * e' + r) = if e' = f then N.1 36 0 (4 * e + r) else N.1 36 0 (4 * e' + r) := by
  have e1 : (f_forkY N e f a p).1 36 0 (4 * e' + r) = va_cpy (N.1 36 0) (N.1 36 0) (4 * e) (4 * f) 4 (4 * e' + r) := rfl
  rw [e1]
  unfold va_cpy
  by_cases h3 : e' = f
  · rw [if_pos (by omega), if_pos h3, show 4 * e + (4 * e' + r - 4 * f) = 4 * e + r by omega]
  · rw [if_neg (by omega), if_neg h3]
theorem fk_37 (e' r : Nat) (hr : r < 4) : (f_forkY N e f a p).1 37 0 (4 * e' + r) = if e' = f then N.1 37 0 (4 * e + r) else N.1 37 0 (4 * e' + r) := by
  have e1 : (f_forkY N e f a p).1 37 0 (4 * e' + r) = va_cpy (N.1 37 0) (N.1 37 0) (4 * e) (4 * f) 4 (4 * e' + r) := rfl
  rw [e1]
  unfold va_cpy
  by_cases h3 : e' = f
  · rw [if_pos (by omega), if_pos h3, show 4 * e + (4 * e' + r - 4 * f) = 4 * e + r by omega]
  · rw [if_neg (by omega), if_neg h3]
theorem fk_o (t : Nat) (ht : t ∈ [21, 22, 23, 24, 40, 43, 44, 45, 46, 47, 48]) : (f_forkY N e f a p).1 t = N.1 t := by
  simp only [List.mem_cons, List.not_mem_nil, or_false] at ht
  rcases ht with rfl | rfl | rfl | rfl | rfl | rfl | rfl | rfl | rfl | rfl | rfl <;> (funext x y; simp [f_forkY, fk1, fk2, fk3, fk4, fk5, fk6, fk7, mI, mRow, mJ, xu])
theorem fk_20 (k : Nat) : (f_forkY N e f a p).1 20 0 k = if k = 34 then N.1 20 0 34 + 1 else if k = 24 then p else N.1 20 0 k := by
  simp [f_forkY, fk1, fk2, fk3, fk4, fk5, fk6, fk7, mI, mRow, mJ, xu]
theorem fc_9 (k : Nat) : (fcF C e f a p).1 9 0 k = if k = 13 then C.1 9 0 13 + 1 else if k = 12 then p else C.1 9 0 k := by
  simp only [fcF, cpf, beg, mI, mC, mJ, mR, xu]
  simp (config := { decide := true }) only [true_and, false_and, if_false]
theorem fc_o (t : Nat) (ht : t ∈ [5, 6, 7, 8, 13, 15, 16]) : (fcF C e f a p).1 t = C.1 t := by
  simp only [List.mem_cons, List.not_mem_nil, or_false] at ht
  rcases ht with rfl | rfl | rfl | rfl | rfl | rfl | rfl <;> (funext x y; simp [fcF, cpf, beg, mI, mC, mJ, mR, xu])
end
theorem Inv_fork {C N : xM} {e f a x : Nat} (h : Inv C N 0) (he : e < 24) (hf : f < 24) (hne : ¬ e = f) (ha : a < 8) (hl : 0 < N.1 25 0 e) (h4 : ¬ N.1 28 0 e = 4) (hff : N.1 25 0 f = 0) (hx1 : 1 ≤ x) (hx : x ≤ 999) (hfr : ∀ k, k < 24 → 0 < N.1 25 0 k → ¬ N.1 25 0 k = nI x) : Inv (fcF C e f a (nI x)) (f_forkY N e f a (nI x)) 0 := by
  obtain ⟨⟨a1, a2, a3, a4, a5, a6, a7, a8, a9, a10, a11, a12⟩, ⟨c1, c2, c3, c4⟩, b1, b2, b3, b4, b5, b7, b9, b10, b11, b14⟩ := h
  have p0 := B3_0 b1 b3 he hl
  have hf0 : ¬ f = 0 := fun q => by rw [q, p0] at hff; exact absurd hff (by decide)
  have hpos : (0 : Int32) < nI x := nI_lt (a := 0) (by omega) (by omega)
  have k25 := fun k => fk_t (N := N) (a := a) (p := nI x) hne 25 (by decide) k
  have k26 := fun k => fk_t (N := N) (a := a) (p := nI x) hne 26 (by decide) k
  have k27 := fun k => fk_t (N := N) (a := a) (p := nI x) hne 27 (by decide) k
  have k28 := fun k => fk_t (N := N) (a := a) (p := nI x) hne 28 (by decide) k
  have k29 := fun k => fk_t (N := N) (a := a) (p := nI x) hne 29 (by decide) k
  have k30 := fun k => fk_t (N := N) (a := a) (p := nI x) hne 30 (by decide) k
  have k33 := fun k => fk_t (N := N) (a := a) (p := nI x) hne 33 (by decide) k
  have k34 := fun k => fk_t (N := N) (a := a) (p := nI x) hne 34 (by decide) k
  have k35 := fun k => fk_t (N := N) (a := a) (p := nI x) hne 35 (by decide) k
  have k39 := fun k => fk_t (N := N) (a := a) (p := nI x) hne 39 (by decide) k
  have k41 := fun k => fk_t (N := N) (a := a) (p := nI x) hne 41 (by decide) k
  have k42 := fun k => fk_t (N := N) (a := a) (p := nI x) hne 42 (by decide) k
  simp (config := { decide := true }) only [if_true, if_false] at k25 k26 k27 k28 k29 k30 k33 k34 k35 k39 k41 k42
  have hlv : ∀ k, ¬ k = f → 0 < (f_forkY N e f a (nI x)).1 25 0 k → 0 < N.1 25 0 k := fun k hk q => by rw [k25, if_neg hk] at q; exact q
  refine ⟨⟨?_, ?_, ?_, ?_, ?_, ?_, ?_, ?_, ?_, ?_, ?_, ?_⟩, ⟨?_, ?_, by omega, fun i hi => absurd hi (Nat.not_lt_zero i)⟩, ?_, ?_, ?_, ?_, ?_, ?_, ?_, ?_, ?_, ?_⟩
  · intro e' he'
    rw [k25, k27, k28, k29, k30, k34, k35, k39, k41, k42]
    rw [fc_0 hne 0 (by decide) (by decide), fc_0 hne 2 (by decide) (by decide), fc_0 hne 3 (by decide) (by decide), fc_0 hne 4 (by decide) (by decide), fc_0 hne 5 (by decide) (by decide), fc_0 hne 9 (by decide) (by decide), fc_0 hne 12 (by decide) (by decide), fc_0 hne 14 (by decide) (by decide), fc_0 hne 16 (by decide) (by decide), fc_0 hne 17 (by decide) (by decide)]
    by_cases hc : e' = f
    · obtain ⟨x1, x2, x3, x4, x5, x6, x7, x8, x9, x10⟩ := a1 e he
      simp only [if_pos hc]
      exact ⟨rfl, x2, rfl, x4, x5, x6, x7, rfl, rfl, rfl⟩
    · simp only [if_neg hc]
      exact a1 e' he'
  · intro e' he' r hr
    rw [fc_1 e' r hr, fk_31 hne ha e' r hr, a2 e he r hr, a2 e' he' r hr]
  · intro e' he' r hr
    rw [fc_2 e' r hr, fk_32 e' r hr, a3 e he r hr, a3 e' he' r hr]
  · intro e' he' r hr
    rw [fc_3 e' r hr, fk_36 e' r hr, fc_4 e' r hr, fk_37 e' r hr, (a4 e he r hr).1, (a4 e' he' r hr).1, (a4 e he r hr).2, (a4 e' he' r hr).2]
    exact ⟨rfl, rfl⟩
  · intro e' he'
    rw [fc_J, fk_38, a5 e' he']
  · intro e' he'
    rw [k25, k33, fc_0 hne 8 (by decide) (by decide)]
    by_cases hc : e' = f
    · simp only [if_pos hc]
      simp (config := { decide := true }) only [if_true, if_false]
      exact ⟨fun _ => trivial, fun _ => trivial⟩
    · simp only [if_neg hc]
      exact a6 e' he'
  · intro e' he' q1 q2
    by_cases hc : e' = f
    · rw [k28, if_pos hc] at q2; exact absurd q2 (by decide)
    · rw [k28, if_neg hc] at q2
      rw [fk_o 40 (by decide)]
      have := a7 e' he' (hlv e' hc q1) q2
      rw [← this]
      simp only [fcF, cpf, beg, mI, mC, mJ, mR, xu]
      simp (config := { decide := true }) only [hc, true_and, false_and, and_true, if_true, if_false, and_false]
  · intro e' he' q1 q2
    by_cases hc : e' = f
    · rw [k28, if_pos hc] at q2; exact absurd q2 (by decide)
    · rw [k28, if_neg hc] at q2
      rw [fk_o 43 (by decide), fk_o 44 (by decide), k30, if_neg hc]
      have := a8 e' he' (hlv e' hc q1) q2
      refine ⟨?_, this.2⟩
      rw [← this.1]
      simp only [fcF, cpf, beg, mI, mC, mJ, mR, xu]
      simp (config := { decide := true }) only [hc, true_and, false_and, and_true, if_true, if_false, and_false]
  · intro e' he' q1
    unfold PR
    rw [fc_R, k26]
    by_cases hc : e' = f
    · refine Or.inr ⟨fun z => hf0 (hc ▸ z), e, he, fun z => hne (z.trans hc), ?_, ?_, ?_, ?_⟩
      · rw [if_pos ⟨hc, rfl⟩]
      · rw [k25, if_neg hne]; exact hl
      · rw [k28, if_neg hne]; exact h4
      · rw [if_pos hc, k25, if_neg hne]
    · rw [if_neg (fun z => hc z.1), if_neg hc]
      rcases a9 e' he' (hlv e' hc q1) with h | ⟨h1, q, h2, h3, h5, h6, h7, h8⟩
      · exact Or.inl h
      · have hqf : ¬ q = f := fun z => by rw [z, hff] at h6; exact absurd h6 (by decide)
        refine Or.inr ⟨h1, q, h2, h3, h5, ?_, ?_, ?_⟩
        · rw [k25, if_neg hqf]; exact h6
        · rw [k28, if_neg hqf]; exact h7
        · rw [k25, if_neg hqf]; exact h8
  · obtain ⟨h1, h2, h3, h4, h5, h6, h7, h8, h9⟩ := a10
    unfold A10
    simp only [fc_9, fk_20]
    simp (config := { decide := true }) only [if_true, if_false]
    refine ⟨h1, h2, trivial, ?_, h5, h6, h7, h8, h9⟩
    rw [h4]
  · obtain ⟨g, g0, g1, g2, g3, g4⟩ := a11
    unfold A11
    rw [fc_o 15 (by decide), fc_o 16 (by decide), fk_o 47 (by decide), fk_o 48 (by decide), fc_9, fc_9, fk_20]
    exact ⟨g, g0, g1, g2, g3, g4⟩
  · unfold A12
    rw [fc_o 5 (by decide), fc_o 6 (by decide), fc_o 7 (by decide), fc_o 8 (by decide), fk_o 21 (by decide), fk_o 22 (by decide), fk_o 23 (by decide), fk_o 24 (by decide)]
    exact a12
  · rw [fc_9]; exact c1
  · unfold rok; rw [fk_20]; exact c2
  · intro e' he'
    rw [k25]
    by_cases hc : e' = f
    · rw [if_pos hc]; exact Or.inr ⟨x, hx1, hx, rfl⟩
    · rw [if_neg hc]; exact b1 e' he'
  · intro y z hy hz q1 q2
    rw [k25, k25] at q2
    by_cases hcy : y = f
    · rw [if_pos hcy] at q2
      by_cases hcz : z = f
      · rw [hcy, hcz]
      · rw [if_neg hcz] at q2
        exact absurd q2 (hfr z hz (by rw [q2]; exact hpos))
    · rw [if_neg hcy] at q2
      have q1 := hlv y hcy q1
      by_cases hcz : z = f
      · rw [if_pos hcz] at q2
        exact absurd q2.symm (hfr y hy q1)
      · rw [if_neg hcz] at q2
        exact b2 y z hy hz q1 q2
  · left
    rw [k25, if_neg (fun z => hf0 z.symm)]
    exact p0
  · intro e' he' q
    rw [k27]
    by_cases hc : e' = f
    · rw [if_pos hc]; exact b4 e he hl
    · rw [if_neg hc]; exact b4 e' he' (hlv e' hc q)
  · intro e' he'
    rw [k29, k35]
    by_cases hc : e' = f
    · rw [if_pos hc, if_pos hc]; exact b5 e he
    · rw [if_neg hc, if_neg hc]; exact b5 e' he'
  · intro e' he' q
    rw [k33]
    by_cases hc : e' = f
    · rw [if_pos hc]; decide
    · rw [if_neg hc]; exact b7 e' he' (hlv e' hc q)
  · intro e' he' q
    rw [fk_o 43 (by decide)]
    rw [k28] at q
    by_cases hc : e' = f
    · rw [if_pos hc] at q; exact absurd q (by decide)
    · rw [if_neg hc] at q; exact b9 e' he' q
  · refine ⟨?_, ?_⟩
    · intro e' he' q1 q2
      rw [k39]
      by_cases hc : e' = f
      · rw [if_pos hc]
      · rw [if_neg hc]
        rw [k28, if_neg hc] at q2
        exact b10.1 e' he' (hlv e' hc q1) q2
    · rw [k28, if_neg (fun z => hf0 z.symm)]
      exact b10.2
  · unfold B11
    rw [fk_20, fk_20, fk_20]
    exact ⟨⟨x, hx, rfl⟩, b11.2.1, b11.2.2⟩
  · unfold B14
    rw [fk_o 21 (by decide)]
    refine ⟨b14.1, fun e' he' => ?_⟩
    have := fk_32 (N := N) (e := e) (f := f) (a := a) (p := nI x) e' 0 (by omega)
    rw [Nat.add_zero, Nat.add_zero] at this
    rw [this]
    split
    · exact b14.2 e he
    · exact b14.2 e' he'
