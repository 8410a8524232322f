theorem x_sw (x : Int32) (lo : Int) (n : Nat) : (x.toInt < lo ∨ lo + n ≤ x.toInt) ∨ ∃ k : Nat, k < n ∧ x.toInt = lo + k := by
  by_cases h1 : x.toInt < lo
  · exact Or.inl (Or.inl h1)
  · by_cases h2 : lo + n ≤ x.toInt
    · exact Or.inl (Or.inr h2)
    · exact Or.inr ⟨(x.toInt - lo).toNat, by omega, by omega⟩
theorem lt24 {i : Nat} (h : i < 2 ^ 31) : (nI i < 24) ↔ i < 24 := nI_ltI h (by decide)
def oI (o : Option Nat) : Int32 := match o with
  | none => -1
  | some e => nI e
theorem oI_neg {o : Option Nat} (h : ∀ e, o = some e → e < 24) : oI o < 0 ↔ o = none := by
  cases o with
  | none => simp [oI]
  | some e =>
    simp only [oI, reduceCtorEq, iff_false]
    exact nI_pos (by have := h e rfl; omega)
theorem lg_lt (x y : Int64) : lg_cmp x y < 0 ↔ x < y := by
  unfold lg_cmp
  by_cases h1 : y < x
  · simp only [gt_iff_lt, h1, if_true]
    constructor
    · intro h; exact absurd h (by decide)
    · intro h; exact absurd (Int64.lt_trans h h1) (Int64.lt_irrefl)
  · simp only [gt_iff_lt, h1, if_false]
    by_cases h2 : x = y
    · simp only [h2, if_true]
      constructor
      · intro h; exact absurd h (by decide)
      · intro h; exact absurd h Int64.lt_irrefl
    · simp only [h2, if_false]
      constructor
      · intro _; exact Int64.lt_of_le_of_ne (Int64.not_lt.mp h1) h2
      · intro _; decide
theorem lg_gt (x y : Int64) : 0 < lg_cmp x y ↔ y < x := by
  unfold lg_cmp
  by_cases h1 : y < x
  · simp only [gt_iff_lt, h1, if_true]
    exact ⟨fun _ => trivial, fun _ => by decide⟩
  · simp only [gt_iff_lt, h1, if_false, iff_false]
    by_cases h2 : x = y <;> simp only [h2, if_true, if_false] <;> decide
theorem r_in {d : Nat} (M : xM) (v lo hi : Int64) : Rn d 69 (0, xen 69 [vL v, vL lo, vL hi], [], M) (fun r M' => r = some (vI (if lo ≤ v ∧ v ≤ hi then 1 else 0)) ∧ M' = M) := by
  show Rn _ 69 (0, [some (vL v), none, some (vL lo), none, some (vL hi), none], [], _) _
  refine rn_lload_n (pc' := 1) rfl rfl rfl ?_
  refine rn_lload_n (pc' := 2) rfl rfl rfl ?_
  refine rn_lcmp (pc' := 3) rfl rfl ?_
  refine rn_if_lt (t := 17) (pc' := 6) rfl rfl rfl (fun h1 => ?_) (fun h1 => ?_)
  · refine rn_iconst (pc' := 18) (v := 0) rfl rfl (by decide) ?_
    refine rn_zreturn rfl rfl (by decide) ?_
    refine ⟨?_, rfl⟩
    simp only [lg_lt, lg_gt, Int64.not_lt] at *
    first | rw [if_neg (fun h => absurd h.1 (Int64.not_le.mpr ‹_›))] | rw [if_neg (fun h => absurd h.2 (Int64.not_le.mpr ‹_›))] | rw [if_pos ⟨‹_›, ‹_›⟩]
  · refine rn_lload_n (pc' := 7) rfl rfl rfl ?_
    refine rn_lload (pc' := 9) rfl rfl rfl ?_
    refine rn_lcmp (pc' := 10) rfl rfl ?_
    refine rn_if_gt (t := 17) (pc' := 13) rfl rfl rfl (fun h2 => ?_) (fun h2 => ?_)
    · refine rn_iconst (pc' := 18) (v := 0) rfl rfl (by decide) ?_
      refine rn_zreturn rfl rfl (by decide) ?_
      refine ⟨?_, rfl⟩
      simp only [lg_lt, lg_gt, Int64.not_lt] at *
      first | rw [if_neg (fun h => absurd h.1 (Int64.not_le.mpr ‹_›))] | rw [if_neg (fun h => absurd h.2 (Int64.not_le.mpr ‹_›))] | rw [if_pos ⟨‹_›, ‹_›⟩]
    · refine rn_iconst (pc' := 14) (v := 1) rfl rfl (by decide) ?_
      refine rn_goto (pc' := 18) rfl rfl ?_
      refine rn_zreturn rfl rfl (by decide) ?_
      refine ⟨?_, rfl⟩
      simp only [lg_lt, lg_gt, Int64.not_lt] at *
      first | rw [if_neg (fun h => absurd h.1 (Int64.not_le.mpr ‹_›))] | rw [if_neg (fun h => absurd h.2 (Int64.not_le.mpr ‹_›))] | rw [if_pos ⟨‹_›, ‹_›⟩]
abbrev rpid (M : xM) (e : Nat) : Int32 := M.1 25 0 e
abbrev rpar (M : xM) (e : Nat) : Int32 := M.1 26 0 e
abbrev rgrp (M : xM) (e : Nat) : Int32 := M.1 27 0 e
abbrev rste (M : xM) (e : Nat) : Int32 := M.1 28 0 e
def eoF (M : xM) (p : Int32) : Nat → Option Nat
  | 0 => none
  | k + 1 => if 0 < p ∧ rpid M k = p then some k else eoF M p k
def eo (M : xM) (p : Int32) : Option Nat := eoF M p 24
theorem eoF_some {M : xM} {p : Int32} {e : Nat} : ∀ {k : Nat}, eoF M p k = some e → e < k ∧ 0 < p ∧ rpid M e = p := by
  intro k
  induction k with
  | zero => intro h; cases h
  | succ k ih =>
    intro h
    unfold eoF at h
    split at h
    · cases h; exact ⟨Nat.lt_succ_self _, ‹_›⟩
    · have := ih h
      exact ⟨Nat.lt_succ_of_lt this.1, this.2⟩
theorem eoF_none {M : xM} {p : Int32} : ∀ {k : Nat}, eoF M p k = none → ∀ e, e < k → ¬ (0 < p ∧ rpid M e = p) := by
  intro k
  induction k with
  | zero => intro _ e he; omega
  | succ k ih =>
    intro h e he
    unfold eoF at h
    split at h
    · cases h
    · by_cases hk : e = k
      · subst hk; assumption
      · exact ih h e (by omega)
theorem eo_lt {M : xM} {p : Int32} {e : Nat} (h : eo M p = some e) : e < 24 := (eoF_some h).1
theorem eoF_lt {M : xM} {p : Int32} {k : Nat} (hk : k ≤ 24) : ∀ e, eoF M p k = some e → e < 24 := fun e h => by
  have := (eoF_some h).1
  omega
theorem r_entryOf {d : Nat} (M : xM) (p : Int32) : Rn d 72 (0, xen 72 [vR 20 0, vI p], [], M) (fun r M' => r = some (vI (oI (eo M p))) ∧ M' = M) := by
  have loop : ∀ m i : Nat, i + m = 24 → Rn d 72 (4, [some (vR 20 0), some (vI p), some (vI (oI (eoF M p i))), some (vI (nI i))], [], M) (fun r M' => r = some (vI (oI (eo M p))) ∧ M' = M) := by
    intro m
    induction m with
    | zero =>
      intro i hi
      refine rn_iload_n (pc' := 5) rfl rfl rfl ?_
      refine rn_bipush (pc' := 7) (v := 24) rfl rfl (by decide) ?_
      refine rn_ic_ge (t := 36) (pc' := 10) rfl rfl rfl (fun h1 => ?_) (fun h1 => ?_)
      · refine rn_iload_n (pc' := 37) rfl rfl rfl ?_
        refine rn_ireturn rfl rfl ?_
        exact ⟨by rw [show i = 24 by omega]; rfl, rfl⟩
      · exact absurd ((lt24 (by omega)).mp h1) (by omega)
    | succ m ih =>
      intro i hi
      have he : i < 24 := by omega
      have key : ∀ x, x = oI (eoF M p (i + 1)) → Rn d 72 (29, [some (vR 20 0), some (vI p), some (vI (oI (eoF M p i))), some (vI (nI i))], [vI x], M) (fun r M' => r = some (vI (oI (eo M p))) ∧ M' = M) := by
        intro x hx
        subst hx
        refine rn_istore_n (pc' := 30) rfl rfl rfl (Nat.le_of_ble_eq_true rfl) rfl ?_
        refine rn_iinc (pc' := 33) rfl rfl rfl (nI_inc _) rfl (Nat.le_of_ble_eq_true rfl) rfl ?_
        refine rn_goto (pc' := 4) rfl rfl ?_
        exact ih (i + 1) (by omega)
      refine rn_iload_n (pc' := 5) rfl rfl rfl ?_
      refine rn_bipush (pc' := 7) (v := 24) rfl rfl (by decide) ?_
      refine rn_ic_ge (t := 36) (pc' := 10) rfl rfl rfl (fun h1 => ?_) (fun h1 => ?_)
      · exact absurd ((lt24 (by omega)).mpr he) h1
      · refine rn_iload_n (pc' := 11) rfl rfl rfl ?_
        refine rn_if_le (t := 28) (pc' := 14) rfl rfl rfl (fun h2 => ?_) (fun h2 => ?_)
        · refine rn_iload_n (pc' := 29) rfl rfl rfl ?_
          refine key _ ?_
          simp [eoF, oI, rpid, *]
        · refine rn_aload_n (pc' := 15) rfl rfl rfl ?_
          refine rn_getF (N := 1) (t' := 25) (pc' := 18) rfl rfl rfl rfl rfl (by first | assumption | decide | omega) ?_
          refine rn_iload_n (pc' := 19) rfl rfl rfl ?_
          refine rn_iald (N := 1) (K := 24) (pc' := 20) rfl rfl ⟨rfl, rfl⟩ rfl (by first | assumption | decide | omega) rfl (by decide) rfl (by first | assumption | decide | omega) ?_
          refine rn_iload_n (pc' := 21) rfl rfl rfl ?_
          refine rn_ic_ne (t := 28) (pc' := 24) rfl rfl rfl (fun h3 => ?_) (fun h3 => ?_)
          · refine rn_iload_n (pc' := 29) rfl rfl rfl ?_
            refine key _ ?_
            simp [eoF, oI, rpid, *]
          · refine rn_iload_n (pc' := 25) rfl rfl rfl ?_
            refine rn_goto (pc' := 29) rfl rfl ?_
            refine key _ ?_
            simp [eoF, oI, rpid, *]
  show Rn _ 72 (0, [some (vR 20 0), some (vI p), none, none], [], _) _
  refine rn_iconst (pc' := 1) (v := (-1)) rfl rfl (by decide) ?_
  refine rn_istore_n (pc' := 2) rfl rfl rfl (Nat.le_of_ble_eq_true rfl) rfl ?_
  refine rn_iconst (pc' := 3) (v := 0) rfl rfl (by decide) ?_
  refine rn_istore_n (pc' := 4) rfl rfl rfl (Nat.le_of_ble_eq_true rfl) rfl ?_
  exact loop 24 0 (by omega)
def feF (M : xM) : Nat → Nat → Nat
  | 0, i => i
  | m + 1, i => if 0 < rpid M i then feF M m (i + 1) else i
def fe (M : xM) : Nat := feF M 24 0
theorem r_freeEntry {d : Nat} (M : xM) : Rn d 73 (0, xen 73 [vR 20 0], [], M) (fun r M' => r = some (vI (nI (fe M))) ∧ M' = M) := by
  have loop : ∀ m i : Nat, i + m = 24 → feF M m i = fe M → Rn d 73 (2, [some (vR 20 0), some (vI (nI i))], [], M) (fun r M' => r = some (vI (nI (fe M))) ∧ M' = M) := by
    intro m
    induction m with
    | zero =>
      intro i hi hf
      refine rn_iload_n (pc' := 3) rfl rfl rfl ?_
      refine rn_bipush (pc' := 5) (v := 24) rfl rfl (by decide) ?_
      refine rn_ic_ge (t := 23) (pc' := 8) rfl rfl rfl (fun h1 => ?_) (fun h1 => ?_)
      · refine rn_iload_n (pc' := 24) rfl rfl rfl ?_
        refine rn_ireturn rfl rfl ?_
        exact ⟨by rw [← hf]; rfl, rfl⟩
      · exact absurd ((lt24 (by omega)).mp h1) (by omega)
    | succ m ih =>
      intro i hi hf
      have he : i < 24 := by omega
      unfold feF at hf
      refine rn_iload_n (pc' := 3) rfl rfl rfl ?_
      refine rn_bipush (pc' := 5) (v := 24) rfl rfl (by decide) ?_
      refine rn_ic_ge (t := 23) (pc' := 8) rfl rfl rfl (fun h1 => ?_) (fun h1 => ?_)
      · refine rn_iload_n (pc' := 24) rfl rfl rfl ?_
        refine rn_ireturn rfl rfl ?_
        first | exact absurd ((lt24 (by omega)).mpr he) h1 | exact ⟨by rw [← hf, if_neg h2], rfl⟩
      · refine rn_aload_n (pc' := 9) rfl rfl rfl ?_
        refine rn_getF (N := 1) (t' := 25) (pc' := 12) rfl rfl rfl rfl rfl (by first | assumption | decide | omega) ?_
        refine rn_iload_n (pc' := 13) rfl rfl rfl ?_
        refine rn_iald (N := 1) (K := 24) (pc' := 14) rfl rfl ⟨rfl, rfl⟩ rfl (by first | assumption | decide | omega) rfl (by decide) rfl (by first | assumption | decide | omega) ?_
        refine rn_if_le (t := 23) (pc' := 17) rfl rfl rfl (fun h2 => ?_) (fun h2 => ?_)
        · refine rn_iload_n (pc' := 24) rfl rfl rfl ?_
          refine rn_ireturn rfl rfl ?_
          first | exact absurd ((lt24 (by omega)).mpr he) h1 | exact ⟨by rw [← hf, if_neg h2], rfl⟩
        · refine rn_iinc (pc' := 20) rfl rfl rfl (nI_inc _) rfl (Nat.le_of_ble_eq_true rfl) rfl ?_
          refine rn_goto (pc' := 2) rfl rfl ?_
          exact ih (i + 1) (by omega) (by rw [if_pos h2] at hf; exact hf)
  show Rn _ 73 (0, [some (vR 20 0), none], [], _) _
  refine rn_iconst (pc' := 1) (v := 0) rfl rfl (by decide) ?_
  refine rn_istore_n (pc' := 2) rfl rfl rfl (Nat.le_of_ble_eq_true rfl) rfl ?_
  exact loop 24 0 (by omega) rfl
