def fk1 (M : xM) (e f : Nat) (p : Int32) : xM :=
  let A := mI M 25 0 f p
  let B := mI A 26 0 f (A.1 25 0 e)
  let C := mI B 27 0 f (B.1 27 0 e)
  let D := mI C 28 0 f 0
  let E := mI D 29 0 f (D.1 29 0 e)
  mI E 30 0 f (E.1 30 0 e)
def fk2 (N : xM) (e f i : Nat) : xM := mRow N 31 0 (va_cpy (N.1 31 0) (N.1 31 0) (8 * e) (8 * f) i)
def fk3 (N : xM) (e f i : Nat) : xM := mRow N 32 0 (va_cpy (N.1 32 0) (N.1 32 0) (21 * e) (21 * f) i)
def fk4 (N : xM) (e f : Nat) : xM :=
  let A := mI N 33 0 f 0
  let B := mI A 34 0 f (A.1 34 0 e)
  mI B 35 0 f (B.1 35 0 e)
def fk5 (N : xM) (e f i : Nat) : xM := mRow (mRow N 36 0 (va_cpy (N.1 36 0) (N.1 36 0) (4 * e) (4 * f) i)) 37 0 (va_cpy (N.1 37 0) (N.1 37 0) (4 * e) (4 * f) i)
def fk6 (N : xM) (f : Nat) : xM := mI (mI (mI (mJ N 38 0 f 0) 39 0 f 0) 41 0 f 0) 42 0 f 0
def fk7 (N : xM) (e f a : Nat) (p : Int32) : xM :=
  let A := mI N 31 0 (8 * f + a) 0
  let B := mI A 31 0 (8 * e + a) p
  mI B 20 0 34 (B.1 20 0 34 + 1)
def f_forkY (M : xM) (e f a : Nat) (p : Int32) : xM := fk7 (fk6 (fk5 (fk4 (fk3 (fk2 (fk1 (mI M 20 0 24 p) e f p) e f 8) e f 21) e f) e f 4) f) e f a p
def f_forkN (M : xM) (e a : Nat) : xM :=
  let A := mI M 31 0 (8 * e + a) (-11)
  mI A 20 0 35 (A.1 20 0 35 + 1)
theorem cpy0 (r : Nat → Int32) (sp dp : Nat) : va_cpy r r sp dp 0 = r := by
  funext k; unfold va_cpy; rw [if_neg (by omega)]
theorem cpyS (r : Nat → Int32) (sp dp i : Nat) : upd (va_cpy r r sp dp i) (dp + i) (r (sp + i)) = va_cpy r r sp dp (i + 1) := by
  funext k
  unfold upd va_cpy
  by_cases h : k = dp + i
  · subst h
    rw [if_pos rfl, if_pos ⟨by omega, by omega⟩, show dp + i - dp = i by omega]
  · by_cases h2 : dp ≤ k ∧ k < dp + i
    · rw [if_neg h, if_pos h2, if_pos (by omega)]
    · rw [if_neg h, if_neg h2, if_neg (by omega)]
theorem cpyR (r : Nat → Int32) (sp dp i : Nat) (h : sp + i < dp ∨ dp + i ≤ sp + i) : va_cpy r r sp dp i (sp + i) = r (sp + i) := by
  unfold va_cpy
  rw [if_neg (by omega)]
theorem lt8 {i : Nat} (h : i < 2 ^ 31) : (nI i < 8) ↔ i < 8 := nI_ltI h (by decide)
theorem lt4 {i : Nat} (h : i < 2 ^ 31) : (nI i < 4) ↔ i < 4 := nI_ltI h (by decide)
theorem r_forkN {d e a : Nat} (M : xM) (he : e < 24) (ha : a < 8) (hfe : fe M = 24) : Rn (d + 2) 93 (0, xen 93 [vR 20 0, vI (nI e), vI (nI (8 * e + a))], [], M) (fun r M' => r = none ∧ M' = f_forkN M e a) := by
  show Rn _ 93 (0, [some (vR 20 0), some (vI (nI e)), some (vI (nI (8 * e + a))), none, none, none], [], _) _
  refine rn_aload_n (pc' := 1) rfl rfl rfl ?_
  refine rn_callV (pc' := 4) (as := []) rfl rfl rfl ⟨Nat.le_of_ble_eq_true rfl, rfl, rfl⟩ rfl (by first | assumption | decide | omega) (Nat.le_of_ble_eq_true rfl) (Nat.le_of_ble_eq_true rfl) rfl (r_freeEntry M) (fun r1 M1 hz => ?_)
  obtain ⟨rfl, hm_⟩ := hz
  refine rn_mem hm_ ?_
  clear hm_
  refine rn_istore_n (pc' := 5) rfl rfl rfl (Nat.le_of_ble_eq_true rfl) rfl ?_
  refine rn_iload_n (pc' := 6) rfl rfl rfl ?_
  refine rn_bipush (pc' := 8) (v := 24) rfl rfl (by decide) ?_
  refine rn_ic_ne (t := 30) (pc' := 11) rfl rfl rfl (fun h2 => ?_) (fun h2 => ?_)
  · exact absurd (show nI (fe M) = 24 by rw [hfe]; rfl) h2
  · refine rn_aload_n (pc' := 12) rfl rfl rfl ?_
    refine rn_getF (N := 1) (t' := 31) (pc' := 15) rfl rfl rfl rfl rfl (by first | assumption | decide | omega) ?_
    refine rn_iload_n (pc' := 16) rfl rfl rfl ?_
    refine rn_bipush (pc' := 18) (v := (-11)) rfl rfl (by decide) ?_
    refine rn_iast (N := 1) (K := 192) (pc' := 19) rfl rfl ⟨rfl, rfl⟩ rfl (by first | assumption | decide | omega) rfl (by decide) rfl (by first | assumption | decide | omega) ?_
    refine rn_aload_n (pc' := 20) rfl rfl rfl ?_
    refine rn_dupA (pc' := 21) rfl rfl ?_
    refine rn_getI (N := 1) (pc' := 24) rfl rfl rfl rfl (by decide) rfl (by first | assumption | decide | omega) ?_
    refine rn_iconst (pc' := 25) (v := 1) rfl rfl (by decide) ?_
    refine rn_iadd (pc' := 26) rfl rfl ?_
    refine rn_putI (N := 1) (pc' := 29) rfl rfl rfl rfl rfl (by first | assumption | decide | omega) ?_
    refine rn_return rfl rfl ?_
    exact ⟨rfl, rfl⟩
theorem r_forkY {d e f a l m : Nat} (M : xM) (he : e < 24) (ha : a < 8) (hfe : fe M = f) (hf : f < 24) (hne : ¬ e = f) (hl : M.1 20 0 24 = nI l) (hl2 : l ≤ 999) (hb : ∀ i, i < m → tk M (nI (nxi (i + 1) l)) = true) (hfr : tk M (nI (nxi (m + 1) l)) = false) : Rn (d + 2) 93 (0, xen 93 [vR 20 0, vI (nI e), vI (nI (8 * e + a))], [], M) (fun r M' => r = none ∧ M' = f_forkY M e f a (nI (nxi (m + 1) l))) := by
  generalize hp : nI (nxi (m + 1) l) = p
  unfold f_forkY
  have hew : ∀ w i : Nat, i < w → w * e + i < w * f ∨ w * f + i ≤ w * e + i := fun w i hi => by
    rcases Nat.lt_or_gt_of_ne hne with h | h
    · left
      have : w * (e + 1) ≤ w * f := Nat.mul_le_mul_left w h
      rw [Nat.mul_add] at this
      omega
    · right
      have : w * f ≤ w * e := Nat.mul_le_mul_left w (by omega)
      omega
  generalize h6 : fk6 (fk5 (fk4 (fk3 (fk2 (fk1 (mI M 20 0 24 p) e f p) e f 8) e f 21) e f) e f 4) f = N6
  have s6 : ∀ x5 : Option xV, Rn (d + 2) 93 (297, [some (vR 20 0), some (vI (nI e)), some (vI (nI (8 * e + a))), some (vI (nI f)), some (vI p), x5], [], N6) (fun r M' => r = none ∧ M' = fk7 N6 e f a p) := by
    intro x5
    have ei : (8 : Int32) * nI f + nI (8 * e + a) - 8 * nI e = nI (8 * f + a) := by
      rw [ix8, show (8 : Int32) * nI e = nI (8 * e) from pk_mul 8 e, pk_sub (by omega)]
      congr 1
      omega
    refine rn_aload_n (pc' := 298) rfl rfl rfl ?_
    refine rn_getF (N := 1) (t' := 31) (pc' := 301) rfl rfl rfl rfl rfl (by first | assumption | decide | omega) ?_
    refine rn_bipush (pc' := 303) (v := 8) rfl rfl (by decide) ?_
    refine rn_iload_n (pc' := 304) rfl rfl rfl ?_
    refine rn_imul (pc' := 305) rfl rfl ?_
    refine rn_iload_n (pc' := 306) rfl rfl rfl ?_
    refine rn_iadd (pc' := 307) rfl rfl ?_
    refine rn_bipush (pc' := 309) (v := 8) rfl rfl (by decide) ?_
    refine rn_iload_n (pc' := 310) rfl rfl rfl ?_
    refine rn_imul (pc' := 311) rfl rfl ?_
    refine rn_isub (pc' := 312) rfl rfl ?_
    refine rn_iconst (pc' := 313) (v := 0) rfl rfl (by decide) ?_
    refine rn_iast (k := 8 * f + a) (N := 1) (K := 192) (pc' := 314) rfl rfl ⟨rfl, rfl⟩ rfl (by first | assumption | decide | omega) rfl (by decide) (ei) (by first | assumption | decide | omega) ?_
    refine rn_aload_n (pc' := 315) rfl rfl rfl ?_
    refine rn_getF (N := 1) (t' := 31) (pc' := 318) rfl rfl rfl rfl rfl (by first | assumption | decide | omega) ?_
    refine rn_iload_n (pc' := 319) rfl rfl rfl ?_
    refine rn_iload (pc' := 321) rfl rfl rfl ?_
    refine rn_iast (N := 1) (K := 192) (pc' := 322) rfl rfl ⟨rfl, rfl⟩ rfl (by first | assumption | decide | omega) rfl (by decide) rfl (by first | assumption | decide | omega) ?_
    refine rn_aload_n (pc' := 323) rfl rfl rfl ?_
    refine rn_dupA (pc' := 324) rfl rfl ?_
    refine rn_getI (N := 1) (pc' := 327) rfl rfl rfl rfl (by decide) rfl (by first | assumption | decide | omega) ?_
    refine rn_iconst (pc' := 328) (v := 1) rfl rfl (by decide) ?_
    refine rn_iadd (pc' := 329) rfl rfl ?_
    refine rn_putI (N := 1) (pc' := 332) rfl rfl rfl rfl rfl (by first | assumption | decide | omega) ?_
    refine rn_return rfl rfl ?_
    exact ⟨rfl, rfl⟩
  generalize h4 : fk4 (fk3 (fk2 (fk1 (mI M 20 0 24 p) e f p) e f 8) e f 21) e f = N4 at h6
  have s5 : ∀ m i : Nat, i + m = 4 → Rn (d + 2) 93 (213, [some (vR 20 0), some (vI (nI e)), some (vI (nI (8 * e + a))), some (vI (nI f)), some (vI p), some (vI (nI i))], [], fk5 N4 e f i) (fun r M' => r = none ∧ M' = fk7 N6 e f a p) := by
    intro m
    induction m with
    | zero =>
      intro i hi
      obtain rfl : i = 4 := by omega
      have s6 := s6 (some (vI (nI 4)))
      rw [← h6] at s6
      rw [← h6]
      refine rn_iload (pc' := 215) rfl rfl rfl ?_
      refine rn_iconst (pc' := 216) (v := 4) rfl rfl (by decide) ?_
      refine rn_ic_ge (t := 269) (pc' := 219) rfl rfl rfl (fun h1 => ?_) (fun h1 => ?_)
      · refine rn_aload_n (pc' := 270) rfl rfl rfl ?_
        refine rn_getF (N := 1) (t' := 38) (pc' := 273) rfl rfl rfl rfl rfl (by first | assumption | decide | omega) ?_
        refine rn_iload_n (pc' := 274) rfl rfl rfl ?_
        refine rn_lconst (pc' := 275) (v := 0) rfl rfl rfl ?_
        refine rn_last (N := 1) (K := 24) (pc' := 276) rfl rfl ⟨rfl, rfl⟩ rfl (by first | assumption | decide | omega) rfl (by decide) rfl (by first | assumption | decide | omega) ?_
        refine rn_aload_n (pc' := 277) rfl rfl rfl ?_
        refine rn_getF (N := 1) (t' := 39) (pc' := 280) rfl rfl rfl rfl rfl (by first | assumption | decide | omega) ?_
        refine rn_iload_n (pc' := 281) rfl rfl rfl ?_
        refine rn_iconst (pc' := 282) (v := 0) rfl rfl (by decide) ?_
        refine rn_iast (N := 1) (K := 24) (pc' := 283) rfl rfl ⟨rfl, rfl⟩ rfl (by first | assumption | decide | omega) rfl (by decide) rfl (by first | assumption | decide | omega) ?_
        refine rn_aload_n (pc' := 284) rfl rfl rfl ?_
        refine rn_getF (N := 1) (t' := 41) (pc' := 287) rfl rfl rfl rfl rfl (by first | assumption | decide | omega) ?_
        refine rn_iload_n (pc' := 288) rfl rfl rfl ?_
        refine rn_iconst (pc' := 289) (v := 0) rfl rfl (by decide) ?_
        refine rn_bast (N := 1) (K := 24) (pc' := 290) rfl rfl ⟨rfl, rfl⟩ rfl (by first | assumption | decide | omega) rfl (by decide) rfl (by first | assumption | decide | omega) (by decide) ?_
        refine rn_aload_n (pc' := 291) rfl rfl rfl ?_
        refine rn_getF (N := 1) (t' := 42) (pc' := 294) rfl rfl rfl rfl rfl (by first | assumption | decide | omega) ?_
        refine rn_iload_n (pc' := 295) rfl rfl rfl ?_
        refine rn_iconst (pc' := 296) (v := 0) rfl rfl (by decide) ?_
        refine rn_bast (N := 1) (K := 24) (pc' := 297) rfl rfl ⟨rfl, rfl⟩ rfl (by first | assumption | decide | omega) rfl (by decide) rfl (by first | assumption | decide | omega) (by decide) ?_
        exact s6
      · exact absurd ((lt4 (by omega)).mp h1) (by omega)
    | succ m ih =>
      intro i hi
      have hi4 : i < 4 := by omega
      have ih := ih (i + 1) (by omega)
      have v1 : (fk5 N4 e f i).1 36 0 (4 * e + i) = N4.1 36 0 (4 * e + i) := cpyR _ _ _ _ (hew 4 i hi4)
      have u1 : mI (fk5 N4 e f i) 36 0 (4 * f + i) (N4.1 36 0 (4 * e + i)) = mRow (mRow N4 36 0 (va_cpy (N4.1 36 0) (N4.1 36 0) (4 * e) (4 * f) (i + 1))) 37 0 (va_cpy (N4.1 37 0) (N4.1 37 0) (4 * e) (4 * f) i) := by
        unfold fk5
        rw [mRow_put_ne _ _ _ _ _ _ (by decide), mRow_put, cpyS]
      have u2 : mI (mRow (mRow N4 36 0 (va_cpy (N4.1 36 0) (N4.1 36 0) (4 * e) (4 * f) (i + 1))) 37 0 (va_cpy (N4.1 37 0) (N4.1 37 0) (4 * e) (4 * f) i)) 37 0 (4 * f + i) (N4.1 37 0 (4 * e + i)) = fk5 N4 e f (i + 1) := by
        rw [mRow_put, cpyS]
        rfl
      have v2 : (mRow (mRow N4 36 0 (va_cpy (N4.1 36 0) (N4.1 36 0) (4 * e) (4 * f) (i + 1))) 37 0 (va_cpy (N4.1 37 0) (N4.1 37 0) (4 * e) (4 * f) i)).1 37 0 (4 * e + i) = N4.1 37 0 (4 * e + i) := cpyR _ _ _ _ (hew 4 i hi4)
      refine rn_iload (pc' := 215) rfl rfl rfl ?_
      refine rn_iconst (pc' := 216) (v := 4) rfl rfl (by decide) ?_
      refine rn_ic_ge (t := 269) (pc' := 219) rfl rfl rfl (fun h1 => ?_) (fun h1 => ?_)
      · exact absurd ((lt4 (by omega)).mpr hi4) h1
      · refine rn_aload_n (pc' := 220) rfl rfl rfl ?_
        refine rn_getF (N := 1) (t' := 36) (pc' := 223) rfl rfl rfl rfl rfl (by first | assumption | decide | omega) ?_
        refine rn_iconst (pc' := 224) (v := 4) rfl rfl (by decide) ?_
        refine rn_iload_n (pc' := 225) rfl rfl rfl ?_
        refine rn_imul (pc' := 226) rfl rfl ?_
        refine rn_iload (pc' := 228) rfl rfl rfl ?_
        refine rn_iadd (pc' := 229) rfl rfl ?_
        refine rn_aload_n (pc' := 230) rfl rfl rfl ?_
        refine rn_getF (N := 1) (t' := 36) (pc' := 233) rfl rfl rfl rfl rfl (by first | assumption | decide | omega) ?_
        refine rn_iconst (pc' := 234) (v := 4) rfl rfl (by decide) ?_
        refine rn_iload_n (pc' := 235) rfl rfl rfl ?_
        refine rn_imul (pc' := 236) rfl rfl ?_
        refine rn_iload (pc' := 238) rfl rfl rfl ?_
        refine rn_iadd (pc' := 239) rfl rfl ?_
        refine rn_iald (k := 4 * e + i) (N := 1) (K := 96) (pc' := 240) rfl rfl ⟨rfl, rfl⟩ rfl (by first | assumption | decide | omega) rfl (by decide) (ix4 e i) (by first | assumption | decide | omega) ?_
        refine rn_topI v1 ?_
        refine rn_iast (k := 4 * f + i) (N := 1) (K := 96) (pc' := 241) rfl rfl ⟨rfl, rfl⟩ rfl (by first | assumption | decide | omega) rfl (by decide) (ix4 f i) (by first | assumption | decide | omega) ?_
        rw [u1]
        refine rn_aload_n (pc' := 242) rfl rfl rfl ?_
        refine rn_getF (N := 1) (t' := 37) (pc' := 245) rfl rfl rfl rfl rfl (by first | assumption | decide | omega) ?_
        refine rn_iconst (pc' := 246) (v := 4) rfl rfl (by decide) ?_
        refine rn_iload_n (pc' := 247) rfl rfl rfl ?_
        refine rn_imul (pc' := 248) rfl rfl ?_
        refine rn_iload (pc' := 250) rfl rfl rfl ?_
        refine rn_iadd (pc' := 251) rfl rfl ?_
        refine rn_aload_n (pc' := 252) rfl rfl rfl ?_
        refine rn_getF (N := 1) (t' := 37) (pc' := 255) rfl rfl rfl rfl rfl (by first | assumption | decide | omega) ?_
        refine rn_iconst (pc' := 256) (v := 4) rfl rfl (by decide) ?_
        refine rn_iload_n (pc' := 257) rfl rfl rfl ?_
        refine rn_imul (pc' := 258) rfl rfl ?_
        refine rn_iload (pc' := 260) rfl rfl rfl ?_
        refine rn_iadd (pc' := 261) rfl rfl ?_
        refine rn_iald (k := 4 * e + i) (N := 1) (K := 96) (pc' := 262) rfl rfl ⟨rfl, rfl⟩ rfl (by first | assumption | decide | omega) rfl (by decide) (ix4 e i) (by first | assumption | decide | omega) ?_
        refine rn_topI v2 ?_
        refine rn_iast (k := 4 * f + i) (N := 1) (K := 96) (pc' := 263) rfl rfl ⟨rfl, rfl⟩ rfl (by first | assumption | decide | omega) rfl (by decide) (ix4 f i) (by first | assumption | decide | omega) ?_
        rw [u2]
        refine rn_iinc (pc' := 266) rfl rfl rfl (nI_inc _) rfl (Nat.le_of_ble_eq_true rfl) rfl ?_
        refine rn_goto (pc' := 213) rfl rfl ?_
        exact ih
  generalize h2 : fk2 (fk1 (mI M 20 0 24 p) e f p) e f 8 = N2 at h4
  have s3 : ∀ m i : Nat, i + m = 21 → Rn (d + 2) 93 (142, [some (vR 20 0), some (vI (nI e)), some (vI (nI (8 * e + a))), some (vI (nI f)), some (vI p), some (vI (nI i))], [], fk3 N2 e f i) (fun r M' => r = none ∧ M' = fk7 N6 e f a p) := by
    intro m
    induction m with
    | zero =>
      intro i hi
      obtain rfl : i = 21 := by omega
      have s5 := s5 4 0 rfl
      have e0 : fk5 N4 e f 0 = N4 := by unfold fk5; rw [cpy0, cpy0, mRow_id]; exact mRow_id N4 37 0
      rw [e0, ← h4] at s5
      refine rn_iload (pc' := 144) rfl rfl rfl ?_
      refine rn_bipush (pc' := 146) (v := 21) rfl rfl (by decide) ?_
      refine rn_ic_ge (t := 179) (pc' := 149) rfl rfl rfl (fun h1 => ?_) (fun h1 => ?_)
      · refine rn_aload_n (pc' := 180) rfl rfl rfl ?_
        refine rn_getF (N := 1) (t' := 33) (pc' := 183) rfl rfl rfl rfl rfl (by first | assumption | decide | omega) ?_
        refine rn_iload_n (pc' := 184) rfl rfl rfl ?_
        refine rn_iconst (pc' := 185) (v := 0) rfl rfl (by decide) ?_
        refine rn_iast (N := 1) (K := 24) (pc' := 186) rfl rfl ⟨rfl, rfl⟩ rfl (by first | assumption | decide | omega) rfl (by decide) rfl (by first | assumption | decide | omega) ?_
        refine rn_aload_n (pc' := 187) rfl rfl rfl ?_
        refine rn_getF (N := 1) (t' := 34) (pc' := 190) rfl rfl rfl rfl rfl (by first | assumption | decide | omega) ?_
        refine rn_iload_n (pc' := 191) rfl rfl rfl ?_
        refine rn_aload_n (pc' := 192) rfl rfl rfl ?_
        refine rn_getF (N := 1) (t' := 34) (pc' := 195) rfl rfl rfl rfl rfl (by first | assumption | decide | omega) ?_
        refine rn_iload_n (pc' := 196) rfl rfl rfl ?_
        refine rn_iald (N := 1) (K := 24) (pc' := 197) rfl rfl ⟨rfl, rfl⟩ rfl (by first | assumption | decide | omega) rfl (by decide) rfl (by first | assumption | decide | omega) ?_
        refine rn_iast (N := 1) (K := 24) (pc' := 198) rfl rfl ⟨rfl, rfl⟩ rfl (by first | assumption | decide | omega) rfl (by decide) rfl (by first | assumption | decide | omega) ?_
        refine rn_aload_n (pc' := 199) rfl rfl rfl ?_
        refine rn_getF (N := 1) (t' := 35) (pc' := 202) rfl rfl rfl rfl rfl (by first | assumption | decide | omega) ?_
        refine rn_iload_n (pc' := 203) rfl rfl rfl ?_
        refine rn_aload_n (pc' := 204) rfl rfl rfl ?_
        refine rn_getF (N := 1) (t' := 35) (pc' := 207) rfl rfl rfl rfl rfl (by first | assumption | decide | omega) ?_
        refine rn_iload_n (pc' := 208) rfl rfl rfl ?_
        refine rn_iald (N := 1) (K := 24) (pc' := 209) rfl rfl ⟨rfl, rfl⟩ rfl (by first | assumption | decide | omega) rfl (by decide) rfl (by first | assumption | decide | omega) ?_
        refine rn_iast (N := 1) (K := 24) (pc' := 210) rfl rfl ⟨rfl, rfl⟩ rfl (by first | assumption | decide | omega) rfl (by decide) rfl (by first | assumption | decide | omega) ?_
        refine rn_iconst (pc' := 211) (v := 0) rfl rfl (by decide) ?_
        refine rn_istore (pc' := 213) rfl rfl rfl (Nat.le_of_ble_eq_true rfl) rfl ?_
        exact s5
      · exact absurd ((lt21 (by omega)).mp h1) (by omega)
    | succ m ih =>
      intro i hi
      have hi4 : i < 21 := by omega
      have ih := ih (i + 1) (by omega)
      have v1 : (fk3 N2 e f i).1 32 0 (21 * e + i) = N2.1 32 0 (21 * e + i) := cpyR _ _ _ _ (hew 21 i hi4)
      have u1 : mI (fk3 N2 e f i) 32 0 (21 * f + i) (N2.1 32 0 (21 * e + i)) = fk3 N2 e f (i + 1) := by
        unfold fk3
        rw [mRow_put, cpyS]
      refine rn_iload (pc' := 144) rfl rfl rfl ?_
      refine rn_bipush (pc' := 146) (v := 21) rfl rfl (by decide) ?_
      refine rn_ic_ge (t := 179) (pc' := 149) rfl rfl rfl (fun h1 => ?_) (fun h1 => ?_)
      · exact absurd ((lt21 (by omega)).mpr hi4) h1
      · refine rn_aload_n (pc' := 150) rfl rfl rfl ?_
        refine rn_getF (N := 1) (t' := 32) (pc' := 153) rfl rfl rfl rfl rfl (by first | assumption | decide | omega) ?_
        refine rn_bipush (pc' := 155) (v := 21) rfl rfl (by decide) ?_
        refine rn_iload_n (pc' := 156) rfl rfl rfl ?_
        refine rn_imul (pc' := 157) rfl rfl ?_
        refine rn_iload (pc' := 159) rfl rfl rfl ?_
        refine rn_iadd (pc' := 160) rfl rfl ?_
        refine rn_aload_n (pc' := 161) rfl rfl rfl ?_
        refine rn_getF (N := 1) (t' := 32) (pc' := 164) rfl rfl rfl rfl rfl (by first | assumption | decide | omega) ?_
        refine rn_bipush (pc' := 166) (v := 21) rfl rfl (by decide) ?_
        refine rn_iload_n (pc' := 167) rfl rfl rfl ?_
        refine rn_imul (pc' := 168) rfl rfl ?_
        refine rn_iload (pc' := 170) rfl rfl rfl ?_
        refine rn_iadd (pc' := 171) rfl rfl ?_
        refine rn_iald (k := 21 * e + i) (N := 1) (K := 504) (pc' := 172) rfl rfl ⟨rfl, rfl⟩ rfl (by first | assumption | decide | omega) rfl (by decide) (ix21 e i) (by first | assumption | decide | omega) ?_
        refine rn_topI v1 ?_
        refine rn_iast (k := 21 * f + i) (N := 1) (K := 504) (pc' := 173) rfl rfl ⟨rfl, rfl⟩ rfl (by first | assumption | decide | omega) rfl (by decide) (ix21 f i) (by first | assumption | decide | omega) ?_
        rw [u1]
        refine rn_iinc (pc' := 176) rfl rfl rfl (nI_inc _) rfl (Nat.le_of_ble_eq_true rfl) rfl ?_
        refine rn_goto (pc' := 142) rfl rfl ?_
        exact ih
  generalize h1_ : fk1 (mI M 20 0 24 p) e f p = N1 at h2
  have s2 : ∀ m i : Nat, i + m = 8 → Rn (d + 2) 93 (102, [some (vR 20 0), some (vI (nI e)), some (vI (nI (8 * e + a))), some (vI (nI f)), some (vI p), some (vI (nI i))], [], fk2 N1 e f i) (fun r M' => r = none ∧ M' = fk7 N6 e f a p) := by
    intro m
    induction m with
    | zero =>
      intro i hi
      obtain rfl : i = 8 := by omega
      have s3 := s3 21 0 rfl
      have e0 : fk3 N2 e f 0 = N2 := by unfold fk3; rw [cpy0]; exact mRow_id N2 32 0
      rw [e0, ← h2] at s3
      refine rn_iload (pc' := 104) rfl rfl rfl ?_
      refine rn_bipush (pc' := 106) (v := 8) rfl rfl (by decide) ?_
      refine rn_ic_ge (t := 139) (pc' := 109) rfl rfl rfl (fun h1 => ?_) (fun h1 => ?_)
      · refine rn_iconst (pc' := 140) (v := 0) rfl rfl (by decide) ?_
        refine rn_istore (pc' := 142) rfl rfl rfl (Nat.le_of_ble_eq_true rfl) rfl ?_
        exact s3
      · exact absurd ((lt8 (by omega)).mp h1) (by omega)
    | succ m ih =>
      intro i hi
      have hi4 : i < 8 := by omega
      have ih := ih (i + 1) (by omega)
      have v1 : (fk2 N1 e f i).1 31 0 (8 * e + i) = N1.1 31 0 (8 * e + i) := cpyR _ _ _ _ (hew 8 i hi4)
      have u1 : mI (fk2 N1 e f i) 31 0 (8 * f + i) (N1.1 31 0 (8 * e + i)) = fk2 N1 e f (i + 1) := by
        unfold fk2
        rw [mRow_put, cpyS]
      refine rn_iload (pc' := 104) rfl rfl rfl ?_
      refine rn_bipush (pc' := 106) (v := 8) rfl rfl (by decide) ?_
      refine rn_ic_ge (t := 139) (pc' := 109) rfl rfl rfl (fun h1 => ?_) (fun h1 => ?_)
      · exact absurd ((lt8 (by omega)).mpr hi4) h1
      · refine rn_aload_n (pc' := 110) rfl rfl rfl ?_
        refine rn_getF (N := 1) (t' := 31) (pc' := 113) rfl rfl rfl rfl rfl (by first | assumption | decide | omega) ?_
        refine rn_bipush (pc' := 115) (v := 8) rfl rfl (by decide) ?_
        refine rn_iload_n (pc' := 116) rfl rfl rfl ?_
        refine rn_imul (pc' := 117) rfl rfl ?_
        refine rn_iload (pc' := 119) rfl rfl rfl ?_
        refine rn_iadd (pc' := 120) rfl rfl ?_
        refine rn_aload_n (pc' := 121) rfl rfl rfl ?_
        refine rn_getF (N := 1) (t' := 31) (pc' := 124) rfl rfl rfl rfl rfl (by first | assumption | decide | omega) ?_
        refine rn_bipush (pc' := 126) (v := 8) rfl rfl (by decide) ?_
        refine rn_iload_n (pc' := 127) rfl rfl rfl ?_
        refine rn_imul (pc' := 128) rfl rfl ?_
        refine rn_iload (pc' := 130) rfl rfl rfl ?_
        refine rn_iadd (pc' := 131) rfl rfl ?_
        refine rn_iald (k := 8 * e + i) (N := 1) (K := 192) (pc' := 132) rfl rfl ⟨rfl, rfl⟩ rfl (by first | assumption | decide | omega) rfl (by decide) (ix8 e i) (by first | assumption | decide | omega) ?_
        refine rn_topI v1 ?_
        refine rn_iast (k := 8 * f + i) (N := 1) (K := 192) (pc' := 133) rfl rfl ⟨rfl, rfl⟩ rfl (by first | assumption | decide | omega) rfl (by decide) (ix8 f i) (by first | assumption | decide | omega) ?_
        rw [u1]
        refine rn_iinc (pc' := 136) rfl rfl rfl (nI_inc _) rfl (Nat.le_of_ble_eq_true rfl) rfl ?_
        refine rn_goto (pc' := 102) rfl rfl ?_
        exact ih
  have s2 := s2 8 0 rfl
  have e0 : fk2 N1 e f 0 = N1 := by unfold fk2; rw [cpy0]; exact mRow_id N1 31 0
  rw [e0, ← h1_] at s2
  show Rn _ 93 (0, [some (vR 20 0), some (vI (nI e)), some (vI (nI (8 * e + a))), none, none, none], [], _) _
  refine rn_aload_n (pc' := 1) rfl rfl rfl ?_
  refine rn_callV (pc' := 4) (as := []) rfl rfl rfl ⟨Nat.le_of_ble_eq_true rfl, rfl, rfl⟩ rfl (by first | assumption | decide | omega) (Nat.le_of_ble_eq_true rfl) (Nat.le_of_ble_eq_true rfl) rfl (r_freeEntry M) (fun r1 M1 hz => ?_)
  obtain ⟨rfl, hm_⟩ := hz
  refine rn_mem hm_ ?_
  clear hm_
  rw [hfe]
  refine rn_istore_n (pc' := 5) rfl rfl rfl (Nat.le_of_ble_eq_true rfl) rfl ?_
  refine rn_iload_n (pc' := 6) rfl rfl rfl ?_
  refine rn_bipush (pc' := 8) (v := 24) rfl rfl (by decide) ?_
  refine rn_ic_ne (t := 30) (pc' := 11) rfl rfl rfl (fun h2 => ?_) (fun h2 => ?_)
  · refine rn_aload_n (pc' := 31) rfl rfl rfl ?_
    refine rn_callV (pc' := 34) (as := []) rfl rfl rfl ⟨Nat.le_of_ble_eq_true rfl, rfl, rfl⟩ rfl (by first | assumption | decide | omega) (Nat.le_of_ble_eq_true rfl) (Nat.le_of_ble_eq_true rfl) rfl (r_newPid M hl hl2 hb hfr) (fun r3 M3 hz => ?_)
    obtain ⟨rfl, hm_⟩ := hz
    refine rn_mem hm_ ?_
    clear hm_
    rw [hp]
    refine rn_istore (pc' := 36) rfl rfl rfl (Nat.le_of_ble_eq_true rfl) rfl ?_
    refine rn_aload_n (pc' := 37) rfl rfl rfl ?_
    refine rn_getF (N := 1) (t' := 25) (pc' := 40) rfl rfl rfl rfl rfl (by first | assumption | decide | omega) ?_
    refine rn_iload_n (pc' := 41) rfl rfl rfl ?_
    refine rn_iload (pc' := 43) rfl rfl rfl ?_
    refine rn_iast (N := 1) (K := 24) (pc' := 44) rfl rfl ⟨rfl, rfl⟩ rfl (by first | assumption | decide | omega) rfl (by decide) rfl (by first | assumption | decide | omega) ?_
    refine rn_aload_n (pc' := 45) rfl rfl rfl ?_
    refine rn_getF (N := 1) (t' := 26) (pc' := 48) rfl rfl rfl rfl rfl (by first | assumption | decide | omega) ?_
    refine rn_iload_n (pc' := 49) rfl rfl rfl ?_
    refine rn_aload_n (pc' := 50) rfl rfl rfl ?_
    refine rn_getF (N := 1) (t' := 25) (pc' := 53) rfl rfl rfl rfl rfl (by first | assumption | decide | omega) ?_
    refine rn_iload_n (pc' := 54) rfl rfl rfl ?_
    refine rn_iald (N := 1) (K := 24) (pc' := 55) rfl rfl ⟨rfl, rfl⟩ rfl (by first | assumption | decide | omega) rfl (by decide) rfl (by first | assumption | decide | omega) ?_
    refine rn_iast (N := 1) (K := 24) (pc' := 56) rfl rfl ⟨rfl, rfl⟩ rfl (by first | assumption | decide | omega) rfl (by decide) rfl (by first | assumption | decide | omega) ?_
    refine rn_aload_n (pc' := 57) rfl rfl rfl ?_
    refine rn_getF (N := 1) (t' := 27) (pc' := 60) rfl rfl rfl rfl rfl (by first | assumption | decide | omega) ?_
    refine rn_iload_n (pc' := 61) rfl rfl rfl ?_
    refine rn_aload_n (pc' := 62) rfl rfl rfl ?_
    refine rn_getF (N := 1) (t' := 27) (pc' := 65) rfl rfl rfl rfl rfl (by first | assumption | decide | omega) ?_
    refine rn_iload_n (pc' := 66) rfl rfl rfl ?_
    refine rn_iald (N := 1) (K := 24) (pc' := 67) rfl rfl ⟨rfl, rfl⟩ rfl (by first | assumption | decide | omega) rfl (by decide) rfl (by first | assumption | decide | omega) ?_
    refine rn_iast (N := 1) (K := 24) (pc' := 68) rfl rfl ⟨rfl, rfl⟩ rfl (by first | assumption | decide | omega) rfl (by decide) rfl (by first | assumption | decide | omega) ?_
    refine rn_aload_n (pc' := 69) rfl rfl rfl ?_
    refine rn_getF (N := 1) (t' := 28) (pc' := 72) rfl rfl rfl rfl rfl (by first | assumption | decide | omega) ?_
    refine rn_iload_n (pc' := 73) rfl rfl rfl ?_
    refine rn_iconst (pc' := 74) (v := 0) rfl rfl (by decide) ?_
    refine rn_iast (N := 1) (K := 24) (pc' := 75) rfl rfl ⟨rfl, rfl⟩ rfl (by first | assumption | decide | omega) rfl (by decide) rfl (by first | assumption | decide | omega) ?_
    refine rn_aload_n (pc' := 76) rfl rfl rfl ?_
    refine rn_getF (N := 1) (t' := 29) (pc' := 79) rfl rfl rfl rfl rfl (by first | assumption | decide | omega) ?_
    refine rn_iload_n (pc' := 80) rfl rfl rfl ?_
    refine rn_aload_n (pc' := 81) rfl rfl rfl ?_
    refine rn_getF (N := 1) (t' := 29) (pc' := 84) rfl rfl rfl rfl rfl (by first | assumption | decide | omega) ?_
    refine rn_iload_n (pc' := 85) rfl rfl rfl ?_
    refine rn_iald (N := 1) (K := 24) (pc' := 86) rfl rfl ⟨rfl, rfl⟩ rfl (by first | assumption | decide | omega) rfl (by decide) rfl (by first | assumption | decide | omega) ?_
    refine rn_iast (N := 1) (K := 24) (pc' := 87) rfl rfl ⟨rfl, rfl⟩ rfl (by first | assumption | decide | omega) rfl (by decide) rfl (by first | assumption | decide | omega) ?_
    refine rn_aload_n (pc' := 88) rfl rfl rfl ?_
    refine rn_getF (N := 1) (t' := 30) (pc' := 91) rfl rfl rfl rfl rfl (by first | assumption | decide | omega) ?_
    refine rn_iload_n (pc' := 92) rfl rfl rfl ?_
    refine rn_aload_n (pc' := 93) rfl rfl rfl ?_
    refine rn_getF (N := 1) (t' := 30) (pc' := 96) rfl rfl rfl rfl rfl (by first | assumption | decide | omega) ?_
    refine rn_iload_n (pc' := 97) rfl rfl rfl ?_
    refine rn_iald (N := 1) (K := 24) (pc' := 98) rfl rfl ⟨rfl, rfl⟩ rfl (by first | assumption | decide | omega) rfl (by decide) rfl (by first | assumption | decide | omega) ?_
    refine rn_iast (N := 1) (K := 24) (pc' := 99) rfl rfl ⟨rfl, rfl⟩ rfl (by first | assumption | decide | omega) rfl (by decide) rfl (by first | assumption | decide | omega) ?_
    refine rn_iconst (pc' := 100) (v := 0) rfl rfl (by decide) ?_
    refine rn_istore (pc' := 102) rfl rfl rfl (Nat.le_of_ble_eq_true rfl) rfl ?_
    exact s2
  · exact absurd ((nI_eq (a := f) (b := 24) (by omega) (by decide)).mp h2) (by omega)
