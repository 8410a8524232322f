/-! THE REFERENCE, its small methods: what each does in the small machine -/
theorem x_sw (x : Int32) (lo : Int) (n : Nat) : (x.toInt < lo ∨ lo + n ≤ x.toInt) ∨ ∃ k : Nat, k < n ∧ x.toInt = lo + k := by
  by_cases h1 : x.toInt < lo
  · exact Or.inl (Or.inl h1)
  · by_cases h2 : lo + n ≤ x.toInt
    · exact Or.inl (Or.inr h2)
    · exact Or.inr ⟨(x.toInt - lo).toNat, by omega, by omega⟩
/-- in(v, low, high) -/
theorem r_in {d : Nat} (M : xM) (v lo hi : Int64) : Rn d 69 (0, xen 69 [vL v, vL lo, vL hi], [], M) (fun r M' => r = some (vI (if lo ≤ v ∧ v ≤ hi then 1 else 0)) ∧ M' = M) := by
  show Rn _ 69 (0, [some (vL v), none, some (vL lo), none, some (vL hi), none], [], _) _
  refine rn_lload_n (pc' := 1) rfl rfl rfl ?_
  refine rn_lload_n (pc' := 2) rfl rfl rfl ?_
  refine rn_lcmp (pc' := 3) rfl rfl ?_
  refine rn_if_lt (t := 17) (pc' := 6) rfl rfl rfl (fun h1 => ?_) (fun h1 => ?_)
  · refine rn_iconst (pc' := 18) (v := 0) rfl rfl (by decide) ?_
    refine rn_zreturn rfl rfl (by decide) ?_
    exact ⟨rfl, rfl⟩
  · refine rn_lload_n (pc' := 7) rfl rfl rfl ?_
    refine rn_lload (pc' := 9) rfl rfl rfl ?_
    refine rn_lcmp (pc' := 10) rfl rfl ?_
    refine rn_if_gt (t := 17) (pc' := 13) rfl rfl rfl (fun h2 => ?_) (fun h2 => ?_)
    · refine rn_iconst (pc' := 18) (v := 0) rfl rfl (by decide) ?_
      refine rn_zreturn rfl rfl (by decide) ?_
      exact ⟨rfl, rfl⟩
    · refine rn_iconst (pc' := 14) (v := 1) rfl rfl (by decide) ?_
      refine rn_goto (pc' := 18) rfl rfl ?_
      refine rn_zreturn rfl rfl (by decide) ?_
      exact ⟨rfl, rfl⟩
  all_goals sorry
