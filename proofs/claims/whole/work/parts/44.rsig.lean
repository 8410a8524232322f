abbrev rpnd (M : xM) (e : Nat) : Int32 := M.1 33 0 e
abbrev rblk (M : xM) (e : Nat) : Int32 := M.1 34 0 e
abbrev rdoe (M : xM) (e s : Nat) : Int32 := M.1 32 0 (21 * e + s)
def f_stop1 (M : xM) (e s : Nat) : xM := mI (mI (mI M 28 0 e 3) 40 0 e (nI s)) 41 0 e 0
def f_stop (M : xM) (e s : Nat) : xM := f_sendTo (f_wake (f_stop1 M e s) (rpar (f_stop1 M e s) e)) (rpar (f_wake (f_stop1 M e s) (rpar (f_stop1 M e s) e)) e) 17
def f_happen (M : xM) (e s : Nat) : xM := if rdoe M e s = 1 ∨ nI s = 17 ∨ nI s = 18 ∨ rpid M e = 1 then M else if ¬ nI s = 19 ∧ ¬ nI s = 20 then f_end M e (nI s) else if rste M e = 3 then M else f_stop M e s
def gOk (M : xM) : Prop := ∀ k, k < 24 → 0 < rpid M k → ∃ g, g < 1000 ∧ rgrp M k = nI g
theorem r_happen {d e s n : Nat} (M : xM) (he : e < 24) (hs : s < 21) (hG : gOk M) (hn : rok M n) (hn4 : n < 4000) (hf : ∃ n', rok (f_happen M e s) n' ∧ n' ≤ 4000) : Rn (d + 3) 81 (0, xen 81 [vR 20 0, vI (nI e), vI (nI s)], [], M) (fun r M' => r = none ∧ M' = f_happen M e s) := by
  show Rn _ 81 (0, [some (vR 20 0), some (vI (nI e)), some (vI (nI s))], [], _) _
  have stop : ¬ (rdoe M e s = 1 ∨ nI s = 17 ∨ nI s = 18 ∨ rpid M e = 1) → ¬ (¬ nI s = 19 ∧ ¬ nI s = 20) → Rn (d + 3) 81 (59, [some (vR 20 0), some (vI (nI e)), some (vI (nI s))], [], M) (fun r M' => r = none ∧ M' = f_happen M e s) := by
    intro q1 q2
    have e1 : f_happen M e s = if rste M e = 3 then M else f_stop M e s := by unfold f_happen; rw [if_neg q1, if_neg q2]
    rw [e1]
    have hw : rok (f_wake (f_stop1 M e s) (rpar (f_stop1 M e s) e)) n := by unfold rok; rw [wake_29]; exact hn
    refine rn_aload_n (pc' := 60) rfl rfl rfl ?_
    refine rn_getF (N := 1) (t' := 28) (pc' := 63) rfl rfl rfl rfl rfl (by first | assumption | decide | omega) ?_
    refine rn_iload_n (pc' := 64) rfl rfl rfl ?_
    refine rn_iald (N := 1) (K := 24) (pc' := 65) rfl rfl ⟨rfl, rfl⟩ rfl (by first | assumption | decide | omega) rfl (by decide) rfl (by first | assumption | decide | omega) ?_
    refine rn_iconst (pc' := 66) (v := 3) rfl rfl (by decide) ?_
    refine rn_ic_eq (t := 112) (pc' := 69) rfl rfl rfl (fun h1 => ?_) (fun h1 => ?_)
    · refine rn_return rfl rfl ?_
      first | exact ⟨rfl, by rw [if_pos h1]⟩ | exact ⟨rfl, by rw [if_neg h1]; rfl⟩
    · refine rn_aload_n (pc' := 70) rfl rfl rfl ?_
      refine rn_getF (N := 1) (t' := 28) (pc' := 73) rfl rfl rfl rfl rfl (by first | assumption | decide | omega) ?_
      refine rn_iload_n (pc' := 74) rfl rfl rfl ?_
      refine rn_iconst (pc' := 75) (v := 3) rfl rfl (by decide) ?_
      refine rn_iast (N := 1) (K := 24) (pc' := 76) rfl rfl ⟨rfl, rfl⟩ rfl (by first | assumption | decide | omega) rfl (by decide) rfl (by first | assumption | decide | omega) ?_
      refine rn_aload_n (pc' := 77) rfl rfl rfl ?_
      refine rn_getF (N := 1) (t' := 40) (pc' := 80) rfl rfl rfl rfl rfl (by first | assumption | decide | omega) ?_
      refine rn_iload_n (pc' := 81) rfl rfl rfl ?_
      refine rn_iload_n (pc' := 82) rfl rfl rfl ?_
      refine rn_iast (N := 1) (K := 24) (pc' := 83) rfl rfl ⟨rfl, rfl⟩ rfl (by first | assumption | decide | omega) rfl (by decide) rfl (by first | assumption | decide | omega) ?_
      refine rn_aload_n (pc' := 84) rfl rfl rfl ?_
      refine rn_getF (N := 1) (t' := 41) (pc' := 87) rfl rfl rfl rfl rfl (by first | assumption | decide | omega) ?_
      refine rn_iload_n (pc' := 88) rfl rfl rfl ?_
      refine rn_iconst (pc' := 89) (v := 0) rfl rfl (by decide) ?_
      refine rn_bast (N := 1) (K := 24) (pc' := 90) rfl rfl ⟨rfl, rfl⟩ rfl (by first | assumption | decide | omega) rfl (by decide) rfl (by first | assumption | decide | omega) (by decide) ?_
      refine rn_aload_n (pc' := 91) rfl rfl rfl ?_
      refine rn_aload_n (pc' := 92) rfl rfl rfl ?_
      refine rn_getF (N := 1) (t' := 26) (pc' := 95) rfl rfl rfl rfl rfl (by first | assumption | decide | omega) ?_
      refine rn_iload_n (pc' := 96) rfl rfl rfl ?_
      refine rn_iald (N := 1) (K := 24) (pc' := 97) rfl rfl ⟨rfl, rfl⟩ rfl (by first | assumption | decide | omega) rfl (by decide) rfl (by first | assumption | decide | omega) ?_
      refine rn_callV (pc' := 100) (as := [_]) rfl rfl rfl ⟨Nat.le_of_ble_eq_true rfl, rfl, rfl⟩ rfl (by first | assumption | decide | omega) (Nat.le_of_ble_eq_true rfl) (Nat.le_of_ble_eq_true rfl) rfl (r_wake (f_stop1 M e s) _) (fun r2 M2 hz => ?_)
      obtain ⟨rfl, hm_⟩ := hz
      refine rn_mem hm_ ?_
      clear hm_
      refine rn_aload_n (pc' := 101) rfl rfl rfl ?_
      refine rn_aload_n (pc' := 102) rfl rfl rfl ?_
      refine rn_getF (N := 1) (t' := 26) (pc' := 105) rfl rfl rfl rfl rfl (by first | assumption | decide | omega) ?_
      refine rn_iload_n (pc' := 106) rfl rfl rfl ?_
      refine rn_iald (N := 1) (K := 24) (pc' := 107) rfl rfl ⟨rfl, rfl⟩ rfl (by first | assumption | decide | omega) rfl (by decide) rfl (by first | assumption | decide | omega) ?_
      refine rn_bipush (pc' := 109) (v := 17) rfl rfl (by decide) ?_
      refine rn_callV (pc' := 112) (as := [_, _]) rfl rfl rfl ⟨Nat.le_of_ble_eq_true rfl, rfl, rfl⟩ rfl (by first | assumption | decide | omega) (Nat.le_of_ble_eq_true rfl) (Nat.le_of_ble_eq_true rfl) rfl (r_sendTo _ _ 17 hw hn4) (fun r3 M3 hz => ?_)
      obtain ⟨rfl, hm_⟩ := hz
      refine rn_mem hm_ ?_
      clear hm_
      refine rn_return rfl rfl ?_
      first | exact ⟨rfl, by rw [if_pos h1]⟩ | exact ⟨rfl, by rw [if_neg h1]; rfl⟩
  have fin : ¬ (rdoe M e s = 1 ∨ nI s = 17 ∨ nI s = 18 ∨ rpid M e = 1) → (¬ nI s = 19 ∧ ¬ nI s = 20) → Rn (d + 3) 81 (50, [some (vR 20 0), some (vI (nI e)), some (vI (nI s))], [], M) (fun r M' => r = none ∧ M' = f_happen M e s) := by
    intro q1 q2
    have e1 : f_happen M e s = f_end M e (nI s) := by unfold f_happen; rw [if_neg q1, if_pos q2]
    rw [e1] at hf ⊢
    refine rn_aload_n (pc' := 51) rfl rfl rfl ?_
    refine rn_iload_n (pc' := 52) rfl rfl rfl ?_
    refine rn_iload_n (pc' := 53) rfl rfl rfl ?_
    refine rn_callV (pc' := 56) (as := [_, _]) rfl rfl rfl ⟨Nat.le_of_ble_eq_true rfl, rfl, rfl⟩ rfl (by first | assumption | decide | omega) (Nat.le_of_ble_eq_true rfl) (Nat.le_of_ble_eq_true rfl) rfl (r_end M (nI s) he hG hn hn4 (fun _ => hf)) (fun r1 M1 hz => ?_)
    obtain ⟨rfl, hm_⟩ := hz
    refine rn_mem hm_ ?_
    clear hm_
    refine rn_goto (pc' := 112) rfl rfl ?_
    refine rn_return rfl rfl ?_
    exact ⟨rfl, rfl⟩
  refine rn_aload_n (pc' := 1) rfl rfl rfl ?_
  refine rn_getF (N := 1) (t' := 32) (pc' := 4) rfl rfl rfl rfl rfl (by first | assumption | decide | omega) ?_
  refine rn_bipush (pc' := 6) (v := 21) rfl rfl (by decide) ?_
  refine rn_iload_n (pc' := 7) rfl rfl rfl ?_
  refine rn_imul (pc' := 8) rfl rfl ?_
  refine rn_iload_n (pc' := 9) rfl rfl rfl ?_
  refine rn_iadd (pc' := 10) rfl rfl ?_
  refine rn_iald (k := 21 * e + s) (N := 1) (K := 504) (pc' := 11) rfl rfl ⟨rfl, rfl⟩ rfl (by first | assumption | decide | omega) rfl (by decide) (ix21 e s) (by first | assumption | decide | omega) ?_
  refine rn_iconst (pc' := 12) (v := 1) rfl rfl (by decide) ?_
  refine rn_ic_eq (t := 37) (pc' := 15) rfl rfl rfl (fun h1 => ?_) (fun h1 => ?_)
  · refine rn_return rfl rfl ?_
    exact ⟨rfl, by unfold f_happen; rw [if_pos (by simp [rdoe, rpid, *])]⟩
  · refine rn_iload_n (pc' := 16) rfl rfl rfl ?_
    refine rn_bipush (pc' := 18) (v := 17) rfl rfl (by decide) ?_
    refine rn_ic_eq (t := 37) (pc' := 21) rfl rfl rfl (fun h2 => ?_) (fun h2 => ?_)
    · refine rn_return rfl rfl ?_
      exact ⟨rfl, by unfold f_happen; rw [if_pos (by simp [rdoe, rpid, *])]⟩
    · refine rn_iload_n (pc' := 22) rfl rfl rfl ?_
      refine rn_bipush (pc' := 24) (v := 18) rfl rfl (by decide) ?_
      refine rn_ic_eq (t := 37) (pc' := 27) rfl rfl rfl (fun h3 => ?_) (fun h3 => ?_)
      · refine rn_return rfl rfl ?_
        exact ⟨rfl, by unfold f_happen; rw [if_pos (by simp [rdoe, rpid, *])]⟩
      · refine rn_aload_n (pc' := 28) rfl rfl rfl ?_
        refine rn_getF (N := 1) (t' := 25) (pc' := 31) rfl rfl rfl rfl rfl (by first | assumption | decide | omega) ?_
        refine rn_iload_n (pc' := 32) rfl rfl rfl ?_
        refine rn_iald (N := 1) (K := 24) (pc' := 33) rfl rfl ⟨rfl, rfl⟩ rfl (by first | assumption | decide | omega) rfl (by decide) rfl (by first | assumption | decide | omega) ?_
        refine rn_iconst (pc' := 34) (v := 1) rfl rfl (by decide) ?_
        refine rn_ic_ne (t := 38) (pc' := 37) rfl rfl rfl (fun h4 => ?_) (fun h4 => ?_)
        · refine rn_iload_n (pc' := 39) rfl rfl rfl ?_
          refine rn_bipush (pc' := 41) (v := 19) rfl rfl (by decide) ?_
          refine rn_ic_eq (t := 59) (pc' := 44) rfl rfl rfl (fun h5 => ?_) (fun h5 => ?_)
          · exact stop (by simp [rdoe, rpid, *]) (by simp [*])
          · refine rn_iload_n (pc' := 45) rfl rfl rfl ?_
            refine rn_bipush (pc' := 47) (v := 20) rfl rfl (by decide) ?_
            refine rn_ic_eq (t := 59) (pc' := 50) rfl rfl rfl (fun h6 => ?_) (fun h6 => ?_)
            · exact stop (by simp [rdoe, rpid, *]) (by simp [*])
            · refine fin (by simp [rdoe, rpid, *]) ⟨h5, h6⟩
        · refine rn_return rfl rfl ?_
          exact ⟨rfl, by unfold f_happen; rw [if_pos (by simp [rdoe, rpid, *])]⟩
def f_cont (M : xM) (e : Nat) : xM := mI (mI M 33 0 e (rpnd M e &&& (-1572865))) 28 0 e (if rste M e = 3 then 0 else rste M e)
def f_pre (M : xM) (e s : Nat) : xM := if nI s = 18 then f_cont M e else if nI s = 19 ∨ nI s = 20 then mI M 33 0 e (rpnd M e &&& (-262145)) else M
def blkd (M : xM) (e s : Nat) : Bool := decide ((rblk M e >>> (nI s &&& 31)) &&& 1 = 1)
def hdl (M : xM) (e s : Nat) : Bool := decide (1 < rdoe M e s)
def f_pend (M : xM) (e s : Nat) : xM := mI M 33 0 e (rpnd M e ||| ((1 : Int32) <<< (nI s &&& 31)))
def f_intr (M : xM) (e : Nat) : xM := mI (mI (mI M 28 0 e 0) 31 0 (8 * e + (M.1 43 0 e).toNatClampNeg) (-4)) 30 0 e (M.1 44 0 e)
def f_come2 (M : xM) (e s : Nat) : xM := if blkd M e s = false ∧ hdl M e s = false then f_happen M e s else if blkd M e s = false ∧ (rste M e = 1 ∨ rste M e = 2) then f_intr (f_pend M e s) e else f_pend M e s
def f_come (M : xM) (e s : Nat) : xM := f_come2 (f_pre M e s) e s
def wOk (M : xM) : Prop := ∀ e, e < 24 → (rste M e = 1 ∨ rste M e = 2) → ∃ w, w < 8 ∧ M.1 43 0 e = nI w
theorem pre_rows (M : xM) (e s : Nat) : (f_pre M e s).1 20 = M.1 20 ∧ (f_pre M e s).1 25 = M.1 25 ∧ (f_pre M e s).1 27 = M.1 27 ∧ (f_pre M e s).1 43 = M.1 43 ∧ ∀ k, (f_pre M e s).1 28 0 k = M.1 28 0 k ∨ (f_pre M e s).1 28 0 k = 0 := by
  unfold f_pre
  split
  · refine ⟨rfl, rfl, rfl, rfl, fun k => ?_⟩
    by_cases hk : k = e
    · subst hk
      by_cases h3 : rste M k = 3
      · right
        simp [f_cont, mI, xu, h3]
      · left
        simp [f_cont, mI, xu, h3]
    · left
      simp [f_cont, mI, xu, hk]
  · split
    · exact ⟨rfl, rfl, rfl, rfl, fun k => Or.inl rfl⟩
    · exact ⟨rfl, rfl, rfl, rfl, fun k => Or.inl rfl⟩
theorem ix8 (u s : Nat) : (8 : Int32) * nI u + nI s = nI (8 * u + s) := by
  show nI 8 * nI u + nI s = _
  rw [pk_mul, nI_add]
theorem r_come {d e s n : Nat} (M : xM) (he : e < 24) (hs : s < 21) (hG : gOk M) (hW : wOk M) (hn : rok M n) (hn4 : n < 4000) (hf : ∃ n', rok (f_come M e s) n' ∧ n' ≤ 4000) : Rn (d + 4) 80 (0, xen 80 [vR 20 0, vI (nI e), vI (nI s)], [], M) (fun r M' => r = none ∧ M' = f_come M e s) := by
  have main : Rn (d + 4) 80 (69, [some (vR 20 0), some (vI (nI e)), some (vI (nI s)), none, none], [], f_pre M e s) (fun r M' => r = none ∧ M' = f_come M e s) := by
    unfold f_come at hf ⊢
    obtain ⟨p20, p25, p27, p43, p28⟩ := pre_rows M e s
    generalize f_pre M e s = N at *
    have hGN : gOk N := fun k hk hp => by
      have := hG k hk (by unfold rpid; rw [← p25]; exact hp)
      unfold rgrp at this ⊢
      rw [p27]; exact this
    have hnN : rok N n := by unfold rok; rw [p20]; exact hn
    have hWN : (rste N e = 1 ∨ rste N e = 2) → ∃ w, w < 8 ∧ N.1 43 0 e = nI w := fun h => by
      rw [p43]
      refine hW e he ?_
      rcases p28 e with q | q
      · unfold rste at h ⊢; rw [← q]; exact h
      · unfold rste at h; rw [q] at h; exact absurd h (by decide)
    have fin : ∀ x4, Rn (d + 4) 80 (111, [some (vR 20 0), some (vI (nI e)), some (vI (nI s)), some (vI (bI (blkd N e s))), some (vI (bI (hdl N e s)))], x4, N) (fun r M' => r = none ∧ M' = f_come2 N e s) ∨ x4 ≠ [] := by
      intro x4
      by_cases hx4 : x4 = []
      · left
        subst hx4
        have p1 : ¬ (blkd N e s = false ∧ hdl N e s = false) → Rn (d + 4) 80 (127, [some (vR 20 0), some (vI (nI e)), some (vI (nI s)), some (vI (bI (blkd N e s))), some (vI (bI (hdl N e s)))], [], N) (fun r M' => r = none ∧ M' = f_come2 N e s) := by
          intro q
          have e1 : f_come2 N e s = if blkd N e s = false ∧ (rste N e = 1 ∨ rste N e = 2) then f_intr (f_pend N e s) e else f_pend N e s := by unfold f_come2; rw [if_neg q]
          rw [e1]
          have p2 : blkd N e s = false → (rste N e = 1 ∨ rste N e = 2) → Rn (d + 4) 80 (163, [some (vR 20 0), some (vI (nI e)), some (vI (nI s)), some (vI (bI (blkd N e s))), some (vI (bI (hdl N e s)))], [], f_pend N e s) (fun r M' => r = none ∧ M' = f_intr (f_pend N e s) e) := by
            intro q1 q2
            obtain ⟨w, hw, hw2⟩ := hWN q2
            have hcl : ((f_pend N e s).1 43 0 e).toNatClampNeg = w := by
              show (N.1 43 0 e).toNatClampNeg = w
              rw [hw2]; exact nI_clamp (by omega)
            refine rn_aload_n (pc' := 164) rfl rfl rfl ?_
            refine rn_getF (N := 1) (t' := 28) (pc' := 167) rfl rfl rfl rfl rfl (by first | assumption | decide | omega) ?_
            refine rn_iload_n (pc' := 168) rfl rfl rfl ?_
            refine rn_iconst (pc' := 169) (v := 0) rfl rfl (by decide) ?_
            refine rn_iast (N := 1) (K := 24) (pc' := 170) rfl rfl ⟨rfl, rfl⟩ rfl (by first | assumption | decide | omega) rfl (by decide) rfl (by first | assumption | decide | omega) ?_
            refine rn_aload_n (pc' := 171) rfl rfl rfl ?_
            refine rn_getF (N := 1) (t' := 31) (pc' := 174) rfl rfl rfl rfl rfl (by first | assumption | decide | omega) ?_
            refine rn_bipush (pc' := 176) (v := 8) rfl rfl (by decide) ?_
            refine rn_iload_n (pc' := 177) rfl rfl rfl ?_
            refine rn_imul (pc' := 178) rfl rfl ?_
            refine rn_aload_n (pc' := 179) rfl rfl rfl ?_
            refine rn_getF (N := 1) (t' := 43) (pc' := 182) rfl rfl rfl rfl rfl (by first | assumption | decide | omega) ?_
            refine rn_iload_n (pc' := 183) rfl rfl rfl ?_
            refine rn_iald (N := 1) (K := 24) (pc' := 184) rfl rfl ⟨rfl, rfl⟩ rfl (by first | assumption | decide | omega) rfl (by decide) rfl (by first | assumption | decide | omega) ?_
            refine rn_topI (y := nI w) hw2 ?_
            refine rn_iadd (pc' := 185) rfl rfl ?_
            refine rn_bipush (pc' := 187) (v := (-4)) rfl rfl (by decide) ?_
            refine rn_iast (k := 8 * e + w) (N := 1) (K := 192) (pc' := 188) rfl rfl ⟨rfl, rfl⟩ rfl (by first | assumption | decide | omega) rfl (by decide) (ix8 e w) (by first | assumption | decide | omega) ?_
            refine rn_aload_n (pc' := 189) rfl rfl rfl ?_
            refine rn_getF (N := 1) (t' := 30) (pc' := 192) rfl rfl rfl rfl rfl (by first | assumption | decide | omega) ?_
            refine rn_iload_n (pc' := 193) rfl rfl rfl ?_
            refine rn_aload_n (pc' := 194) rfl rfl rfl ?_
            refine rn_getF (N := 1) (t' := 44) (pc' := 197) rfl rfl rfl rfl rfl (by first | assumption | decide | omega) ?_
            refine rn_iload_n (pc' := 198) rfl rfl rfl ?_
            refine rn_iald (N := 1) (K := 24) (pc' := 199) rfl rfl ⟨rfl, rfl⟩ rfl (by first | assumption | decide | omega) rfl (by decide) rfl (by first | assumption | decide | omega) ?_
            refine rn_iast (N := 1) (K := 24) (pc' := 200) rfl rfl ⟨rfl, rfl⟩ rfl (by first | assumption | decide | omega) rfl (by decide) rfl (by first | assumption | decide | omega) ?_
            refine rn_return rfl rfl ?_
            exact ⟨rfl, by unfold f_intr; rw [hcl]; rfl⟩
          by_cases q1 : blkd N e s = false
          · by_cases q2 : rste N e = 1 ∨ rste N e = 2
            · have p2 := p2 q1 q2
              rw [if_pos ⟨q1, q2⟩]
              refine rn_aload_n (pc' := 128) rfl rfl rfl ?_
              refine rn_getF (N := 1) (t' := 33) (pc' := 131) rfl rfl rfl rfl rfl (by first | assumption | decide | omega) ?_
              refine rn_iload_n (pc' := 132) rfl rfl rfl ?_
              refine rn_dup2 (pc' := 133) rfl rfl ?_
              refine rn_iald (N := 1) (K := 24) (pc' := 134) rfl rfl ⟨rfl, rfl⟩ rfl (by first | assumption | decide | omega) rfl (by decide) rfl (by first | assumption | decide | omega) ?_
              refine rn_iconst (pc' := 135) (v := 1) rfl rfl (by decide) ?_
              refine rn_iload_n (pc' := 136) rfl rfl rfl ?_
              refine rn_ishl (pc' := 137) rfl rfl ?_
              refine rn_ior (pc' := 138) rfl rfl ?_
              refine rn_iast (N := 1) (K := 24) (pc' := 139) rfl rfl ⟨rfl, rfl⟩ rfl (by first | assumption | decide | omega) rfl (by decide) rfl (by first | assumption | decide | omega) ?_
              refine rn_iload_n (pc' := 140) rfl rfl rfl ?_
              refine rn_if_ne (t := 200) (pc' := 143) rfl rfl rfl (fun h1 => ?_) (fun h1 => ?_)
              · refine rn_return rfl rfl ?_
                first | exact absurd ((bI_0 _).mpr q1) h1 | exact absurd q2 (fun z => z.elim h2 h3)
              · refine rn_aload_n (pc' := 144) rfl rfl rfl ?_
                refine rn_getF (N := 1) (t' := 28) (pc' := 147) rfl rfl rfl rfl rfl (by first | assumption | decide | omega) ?_
                refine rn_iload_n (pc' := 148) rfl rfl rfl ?_
                refine rn_iald (N := 1) (K := 24) (pc' := 149) rfl rfl ⟨rfl, rfl⟩ rfl (by first | assumption | decide | omega) rfl (by decide) rfl (by first | assumption | decide | omega) ?_
                refine rn_iconst (pc' := 150) (v := 1) rfl rfl (by decide) ?_
                refine rn_ic_eq (t := 163) (pc' := 153) rfl rfl rfl (fun h2 => ?_) (fun h2 => ?_)
                · exact p2
                · refine rn_aload_n (pc' := 154) rfl rfl rfl ?_
                  refine rn_getF (N := 1) (t' := 28) (pc' := 157) rfl rfl rfl rfl rfl (by first | assumption | decide | omega) ?_
                  refine rn_iload_n (pc' := 158) rfl rfl rfl ?_
                  refine rn_iald (N := 1) (K := 24) (pc' := 159) rfl rfl ⟨rfl, rfl⟩ rfl (by first | assumption | decide | omega) rfl (by decide) rfl (by first | assumption | decide | omega) ?_
                  refine rn_iconst (pc' := 160) (v := 2) rfl rfl (by decide) ?_
                  refine rn_ic_ne (t := 200) (pc' := 163) rfl rfl rfl (fun h3 => ?_) (fun h3 => ?_)
                  · refine rn_return rfl rfl ?_
                    first | exact absurd ((bI_0 _).mpr q1) h1 | exact absurd q2 (fun z => z.elim h2 h3)
                  · exact p2
            · rw [if_neg (fun z => q2 z.2)]
              refine rn_aload_n (pc' := 128) rfl rfl rfl ?_
              refine rn_getF (N := 1) (t' := 33) (pc' := 131) rfl rfl rfl rfl rfl (by first | assumption | decide | omega) ?_
              refine rn_iload_n (pc' := 132) rfl rfl rfl ?_
              refine rn_dup2 (pc' := 133) rfl rfl ?_
              refine rn_iald (N := 1) (K := 24) (pc' := 134) rfl rfl ⟨rfl, rfl⟩ rfl (by first | assumption | decide | omega) rfl (by decide) rfl (by first | assumption | decide | omega) ?_
              refine rn_iconst (pc' := 135) (v := 1) rfl rfl (by decide) ?_
              refine rn_iload_n (pc' := 136) rfl rfl rfl ?_
              refine rn_ishl (pc' := 137) rfl rfl ?_
              refine rn_ior (pc' := 138) rfl rfl ?_
              refine rn_iast (N := 1) (K := 24) (pc' := 139) rfl rfl ⟨rfl, rfl⟩ rfl (by first | assumption | decide | omega) rfl (by decide) rfl (by first | assumption | decide | omega) ?_
              refine rn_iload_n (pc' := 140) rfl rfl rfl ?_
              refine rn_if_ne (t := 200) (pc' := 143) rfl rfl rfl (fun h1 => ?_) (fun h1 => ?_)
              · refine rn_return rfl rfl ?_
                exact ⟨rfl, rfl⟩
              · refine rn_aload_n (pc' := 144) rfl rfl rfl ?_
                refine rn_getF (N := 1) (t' := 28) (pc' := 147) rfl rfl rfl rfl rfl (by first | assumption | decide | omega) ?_
                refine rn_iload_n (pc' := 148) rfl rfl rfl ?_
                refine rn_iald (N := 1) (K := 24) (pc' := 149) rfl rfl ⟨rfl, rfl⟩ rfl (by first | assumption | decide | omega) rfl (by decide) rfl (by first | assumption | decide | omega) ?_
                refine rn_iconst (pc' := 150) (v := 1) rfl rfl (by decide) ?_
                refine rn_ic_eq (t := 163) (pc' := 153) rfl rfl rfl (fun h2 => ?_) (fun h2 => ?_)
                · first | exact absurd (Or.inl h2) q2 | exact absurd (Or.inr h3) q2
                · refine rn_aload_n (pc' := 154) rfl rfl rfl ?_
                  refine rn_getF (N := 1) (t' := 28) (pc' := 157) rfl rfl rfl rfl rfl (by first | assumption | decide | omega) ?_
                  refine rn_iload_n (pc' := 158) rfl rfl rfl ?_
                  refine rn_iald (N := 1) (K := 24) (pc' := 159) rfl rfl ⟨rfl, rfl⟩ rfl (by first | assumption | decide | omega) rfl (by decide) rfl (by first | assumption | decide | omega) ?_
                  refine rn_iconst (pc' := 160) (v := 2) rfl rfl (by decide) ?_
                  refine rn_ic_ne (t := 200) (pc' := 163) rfl rfl rfl (fun h3 => ?_) (fun h3 => ?_)
                  · refine rn_return rfl rfl ?_
                    exact ⟨rfl, rfl⟩
                  · first | exact absurd (Or.inl h2) q2 | exact absurd (Or.inr h3) q2
          · rw [if_neg (fun z => q1 z.1)]
            refine rn_aload_n (pc' := 128) rfl rfl rfl ?_
            refine rn_getF (N := 1) (t' := 33) (pc' := 131) rfl rfl rfl rfl rfl (by first | assumption | decide | omega) ?_
            refine rn_iload_n (pc' := 132) rfl rfl rfl ?_
            refine rn_dup2 (pc' := 133) rfl rfl ?_
            refine rn_iald (N := 1) (K := 24) (pc' := 134) rfl rfl ⟨rfl, rfl⟩ rfl (by first | assumption | decide | omega) rfl (by decide) rfl (by first | assumption | decide | omega) ?_
            refine rn_iconst (pc' := 135) (v := 1) rfl rfl (by decide) ?_
            refine rn_iload_n (pc' := 136) rfl rfl rfl ?_
            refine rn_ishl (pc' := 137) rfl rfl ?_
            refine rn_ior (pc' := 138) rfl rfl ?_
            refine rn_iast (N := 1) (K := 24) (pc' := 139) rfl rfl ⟨rfl, rfl⟩ rfl (by first | assumption | decide | omega) rfl (by decide) rfl (by first | assumption | decide | omega) ?_
            refine rn_iload_n (pc' := 140) rfl rfl rfl ?_
            refine rn_if_ne (t := 200) (pc' := 143) rfl rfl rfl (fun h1 => ?_) (fun h1 => ?_)
            · refine rn_return rfl rfl ?_
              exact ⟨rfl, rfl⟩
            · exact absurd ((bI_0 _).mp h1) q1
        by_cases q : blkd N e s = false ∧ hdl N e s = false
        · have e1 : f_come2 N e s = f_happen N e s := by unfold f_come2; rw [if_pos q]
          rw [e1] at hf ⊢
          refine rn_iload_n (pc' := 112) rfl rfl rfl ?_
          refine rn_if_ne (t := 127) (pc' := 115) rfl rfl rfl (fun h1 => ?_) (fun h1 => ?_)
          · first | exact absurd ((bI_0 _).mpr q.1) h1 | exact absurd ((bI_0 _).mpr q.2) h2
          · refine rn_iload (pc' := 117) rfl rfl rfl ?_
            refine rn_if_ne (t := 127) (pc' := 120) rfl rfl rfl (fun h2 => ?_) (fun h2 => ?_)
            · first | exact absurd ((bI_0 _).mpr q.1) h1 | exact absurd ((bI_0 _).mpr q.2) h2
            · refine rn_aload_n (pc' := 121) rfl rfl rfl ?_
              refine rn_iload_n (pc' := 122) rfl rfl rfl ?_
              refine rn_iload_n (pc' := 123) rfl rfl rfl ?_
              refine rn_callV (pc' := 126) (as := [_, _]) rfl rfl rfl ⟨Nat.le_of_ble_eq_true rfl, rfl, rfl⟩ rfl (by first | assumption | decide | omega) (Nat.le_of_ble_eq_true rfl) (Nat.le_of_ble_eq_true rfl) rfl (r_happen N he hs hGN hnN hn4 hf) (fun r3 M3 hz => ?_)
              obtain ⟨rfl, hm_⟩ := hz
              refine rn_mem hm_ ?_
              clear hm_
              refine rn_return rfl rfl ?_
              exact ⟨rfl, rfl⟩
        · refine rn_iload_n (pc' := 112) rfl rfl rfl ?_
          refine rn_if_ne (t := 127) (pc' := 115) rfl rfl rfl (fun h1 => ?_) (fun h1 => ?_)
          · exact p1 q
          · refine rn_iload (pc' := 117) rfl rfl rfl ?_
            refine rn_if_ne (t := 127) (pc' := 120) rfl rfl rfl (fun h2 => ?_) (fun h2 => ?_)
            · exact p1 q
            · exact absurd ⟨(bI_0 _).mp h1, (bI_0 _).mp h2⟩ q
      · exact Or.inr hx4
    have fin := (fin []).resolve_right (by simp)
    have k2 : ∀ x, x = bI (hdl N e s) → Rn (d + 4) 80 (109, [some (vR 20 0), some (vI (nI e)), some (vI (nI s)), some (vI (bI (blkd N e s))), none], [vI x], N) (fun r M' => r = none ∧ M' = f_come2 N e s) := by
      intro x hx
      subst hx
      refine rn_istore (pc' := 111) rfl rfl rfl (Nat.le_of_ble_eq_true rfl) rfl ?_
      exact fin
    have k1 : ∀ x, x = bI (blkd N e s) → Rn (d + 4) 80 (88, [some (vR 20 0), some (vI (nI e)), some (vI (nI s)), none, none], [vI x], N) (fun r M' => r = none ∧ M' = f_come2 N e s) := by
      intro x hx
      subst hx
      refine rn_istore_n (pc' := 89) rfl rfl rfl (Nat.le_of_ble_eq_true rfl) rfl ?_
      refine rn_aload_n (pc' := 90) rfl rfl rfl ?_
      refine rn_getF (N := 1) (t' := 32) (pc' := 93) rfl rfl rfl rfl rfl (by first | assumption | decide | omega) ?_
      refine rn_bipush (pc' := 95) (v := 21) rfl rfl (by decide) ?_
      refine rn_iload_n (pc' := 96) rfl rfl rfl ?_
      refine rn_imul (pc' := 97) rfl rfl ?_
      refine rn_iload_n (pc' := 98) rfl rfl rfl ?_
      refine rn_iadd (pc' := 99) rfl rfl ?_
      refine rn_iald (k := 21 * e + s) (N := 1) (K := 504) (pc' := 100) rfl rfl ⟨rfl, rfl⟩ rfl (by first | assumption | decide | omega) rfl (by decide) (ix21 e s) (by first | assumption | decide | omega) ?_
      refine rn_iconst (pc' := 101) (v := 1) rfl rfl (by decide) ?_
      refine rn_ic_le (t := 108) (pc' := 104) rfl rfl rfl (fun h1 => ?_) (fun h1 => ?_)
      · refine rn_iconst (pc' := 109) (v := 0) rfl rfl (by decide) ?_
        refine k2 _ ?_
        simp [hdl, rdoe, bI, *]
      · refine rn_iconst (pc' := 105) (v := 1) rfl rfl (by decide) ?_
        refine rn_goto (pc' := 109) rfl rfl ?_
        refine k2 _ ?_
        simp [hdl, rdoe, bI, *]
    refine rn_aload_n (pc' := 70) rfl rfl rfl ?_
    refine rn_getF (N := 1) (t' := 34) (pc' := 73) rfl rfl rfl rfl rfl (by first | assumption | decide | omega) ?_
    refine rn_iload_n (pc' := 74) rfl rfl rfl ?_
    refine rn_iald (N := 1) (K := 24) (pc' := 75) rfl rfl ⟨rfl, rfl⟩ rfl (by first | assumption | decide | omega) rfl (by decide) rfl (by first | assumption | decide | omega) ?_
    refine rn_iload_n (pc' := 76) rfl rfl rfl ?_
    refine rn_ishr (pc' := 77) rfl rfl ?_
    refine rn_iconst (pc' := 78) (v := 1) rfl rfl (by decide) ?_
    refine rn_iand (pc' := 79) rfl rfl ?_
    refine rn_iconst (pc' := 80) (v := 1) rfl rfl (by decide) ?_
    refine rn_ic_ne (t := 87) (pc' := 83) rfl rfl rfl (fun h1 => ?_) (fun h1 => ?_)
    · refine rn_iconst (pc' := 88) (v := 0) rfl rfl (by decide) ?_
      refine k1 _ ?_
      simp [blkd, rblk, bI, *]
    · refine rn_iconst (pc' := 84) (v := 1) rfl rfl (by decide) ?_
      refine rn_goto (pc' := 88) rfl rfl ?_
      refine k1 _ ?_
      simp [blkd, rblk, bI, *]
  show Rn _ 80 (0, [some (vR 20 0), some (vI (nI e)), some (vI (nI s)), none, none], [], _) _
  unfold f_pre at main
  by_cases q : nI s = 18
  · rw [if_pos q] at main
    have k3 : ∀ x, x = (if rste M e = 3 then 0 else rste M e) → Rn (d + 4) 80 (42, [some (vR 20 0), some (vI (nI e)), some (vI (nI s)), none, none], [vI x, vI (nI e), vR 28 0], mI M 33 0 e (rpnd M e &&& (-1572865))) (fun r M' => r = none ∧ M' = f_come M e s) := by
      intro x hx
      subst hx
      refine rn_iast (N := 1) (K := 24) (pc' := 43) rfl rfl ⟨rfl, rfl⟩ rfl (by first | assumption | decide | omega) rfl (by decide) rfl (by first | assumption | decide | omega) ?_
      refine rn_goto (pc' := 69) rfl rfl ?_
      exact main
    refine rn_iload_n (pc' := 1) rfl rfl rfl ?_
    refine rn_bipush (pc' := 3) (v := 18) rfl rfl (by decide) ?_
    refine rn_ic_ne (t := 46) (pc' := 6) rfl rfl rfl (fun h1 => ?_) (fun h1 => ?_)
    · exact absurd q h1
    · refine rn_aload_n (pc' := 7) rfl rfl rfl ?_
      refine rn_getF (N := 1) (t' := 33) (pc' := 10) rfl rfl rfl rfl rfl (by first | assumption | decide | omega) ?_
      refine rn_iload_n (pc' := 11) rfl rfl rfl ?_
      refine rn_dup2 (pc' := 12) rfl rfl ?_
      refine rn_iald (N := 1) (K := 24) (pc' := 13) rfl rfl ⟨rfl, rfl⟩ rfl (by first | assumption | decide | omega) rfl (by decide) rfl (by first | assumption | decide | omega) ?_
      refine rn_ldc (pc' := 15) (v := (-1572865)) rfl rfl rfl ?_
      refine rn_iand (pc' := 16) rfl rfl ?_
      refine rn_iast (N := 1) (K := 24) (pc' := 17) rfl rfl ⟨rfl, rfl⟩ rfl (by first | assumption | decide | omega) rfl (by decide) rfl (by first | assumption | decide | omega) ?_
      refine rn_aload_n (pc' := 18) rfl rfl rfl ?_
      refine rn_getF (N := 1) (t' := 28) (pc' := 21) rfl rfl rfl rfl rfl (by first | assumption | decide | omega) ?_
      refine rn_iload_n (pc' := 22) rfl rfl rfl ?_
      refine rn_aload_n (pc' := 23) rfl rfl rfl ?_
      refine rn_getF (N := 1) (t' := 28) (pc' := 26) rfl rfl rfl rfl rfl (by first | assumption | decide | omega) ?_
      refine rn_iload_n (pc' := 27) rfl rfl rfl ?_
      refine rn_iald (N := 1) (K := 24) (pc' := 28) rfl rfl ⟨rfl, rfl⟩ rfl (by first | assumption | decide | omega) rfl (by decide) rfl (by first | assumption | decide | omega) ?_
      refine rn_iconst (pc' := 29) (v := 3) rfl rfl (by decide) ?_
      refine rn_ic_ne (t := 36) (pc' := 32) rfl rfl rfl (fun h2 => ?_) (fun h2 => ?_)
      · refine rn_aload_n (pc' := 37) rfl rfl rfl ?_
        refine rn_getF (N := 1) (t' := 28) (pc' := 40) rfl rfl rfl rfl rfl (by first | assumption | decide | omega) ?_
        refine rn_iload_n (pc' := 41) rfl rfl rfl ?_
        refine rn_iald (N := 1) (K := 24) (pc' := 42) rfl rfl ⟨rfl, rfl⟩ rfl (by first | assumption | decide | omega) rfl (by decide) rfl (by first | assumption | decide | omega) ?_
        refine k3 _ ?_
        first | (rw [if_pos (show rste M e = 3 from h2)]; done) | (rw [if_neg (show ¬ rste M e = 3 from h2)]; rfl)
      · refine rn_iconst (pc' := 33) (v := 0) rfl rfl (by decide) ?_
        refine rn_goto (pc' := 42) rfl rfl ?_
        refine k3 _ ?_
        first | (rw [if_pos (show rste M e = 3 from h2)]; done) | (rw [if_neg (show ¬ rste M e = 3 from h2)]; rfl)
  · rw [if_neg q] at main
    by_cases q2 : nI s = 19 ∨ nI s = 20
    · rw [if_pos q2] at main
      refine rn_iload_n (pc' := 1) rfl rfl rfl ?_
      refine rn_bipush (pc' := 3) (v := 18) rfl rfl (by decide) ?_
      refine rn_ic_ne (t := 46) (pc' := 6) rfl rfl rfl (fun h1 => ?_) (fun h1 => ?_)
      · refine rn_iload_n (pc' := 47) rfl rfl rfl ?_
        refine rn_bipush (pc' := 49) (v := 19) rfl rfl (by decide) ?_
        refine rn_ic_eq (t := 58) (pc' := 52) rfl rfl rfl (fun h2 => ?_) (fun h2 => ?_)
        · refine rn_aload_n (pc' := 59) rfl rfl rfl ?_
          refine rn_getF (N := 1) (t' := 33) (pc' := 62) rfl rfl rfl rfl rfl (by first | assumption | decide | omega) ?_
          refine rn_iload_n (pc' := 63) rfl rfl rfl ?_
          refine rn_dup2 (pc' := 64) rfl rfl ?_
          refine rn_iald (N := 1) (K := 24) (pc' := 65) rfl rfl ⟨rfl, rfl⟩ rfl (by first | assumption | decide | omega) rfl (by decide) rfl (by first | assumption | decide | omega) ?_
          refine rn_ldc (pc' := 67) (v := (-262145)) rfl rfl rfl ?_
          refine rn_iand (pc' := 68) rfl rfl ?_
          refine rn_iast (N := 1) (K := 24) (pc' := 69) rfl rfl ⟨rfl, rfl⟩ rfl (by first | assumption | decide | omega) rfl (by decide) rfl (by first | assumption | decide | omega) ?_
          first | exact absurd q2 (fun z => z.elim h2 h3) | exact main
        · refine rn_iload_n (pc' := 53) rfl rfl rfl ?_
          refine rn_bipush (pc' := 55) (v := 20) rfl rfl (by decide) ?_
          refine rn_ic_ne (t := 69) (pc' := 58) rfl rfl rfl (fun h3 => ?_) (fun h3 => ?_)
          · first | exact absurd q2 (fun z => z.elim h2 h3) | exact main
          · refine rn_aload_n (pc' := 59) rfl rfl rfl ?_
            refine rn_getF (N := 1) (t' := 33) (pc' := 62) rfl rfl rfl rfl rfl (by first | assumption | decide | omega) ?_
            refine rn_iload_n (pc' := 63) rfl rfl rfl ?_
            refine rn_dup2 (pc' := 64) rfl rfl ?_
            refine rn_iald (N := 1) (K := 24) (pc' := 65) rfl rfl ⟨rfl, rfl⟩ rfl (by first | assumption | decide | omega) rfl (by decide) rfl (by first | assumption | decide | omega) ?_
            refine rn_ldc (pc' := 67) (v := (-262145)) rfl rfl rfl ?_
            refine rn_iand (pc' := 68) rfl rfl ?_
            refine rn_iast (N := 1) (K := 24) (pc' := 69) rfl rfl ⟨rfl, rfl⟩ rfl (by first | assumption | decide | omega) rfl (by decide) rfl (by first | assumption | decide | omega) ?_
            first | exact absurd q2 (fun z => z.elim h2 h3) | exact main
      · exact absurd h1 q
    · rw [if_neg q2] at main
      refine rn_iload_n (pc' := 1) rfl rfl rfl ?_
      refine rn_bipush (pc' := 3) (v := 18) rfl rfl (by decide) ?_
      refine rn_ic_ne (t := 46) (pc' := 6) rfl rfl rfl (fun h1 => ?_) (fun h1 => ?_)
      · refine rn_iload_n (pc' := 47) rfl rfl rfl ?_
        refine rn_bipush (pc' := 49) (v := 19) rfl rfl (by decide) ?_
        refine rn_ic_eq (t := 58) (pc' := 52) rfl rfl rfl (fun h2 => ?_) (fun h2 => ?_)
        · first | exact absurd (Or.inl h2) q2 | exact absurd (Or.inr h3) q2
        · refine rn_iload_n (pc' := 53) rfl rfl rfl ?_
          refine rn_bipush (pc' := 55) (v := 20) rfl rfl (by decide) ?_
          refine rn_ic_ne (t := 69) (pc' := 58) rfl rfl rfl (fun h3 => ?_) (fun h3 => ?_)
          · exact main
          · first | exact absurd (Or.inl h2) q2 | exact absurd (Or.inr h3) q2
      · exact absurd h1 q
def drS (M : xM) : xM := match eo M (M.1 45 0 (M.1 20 0 30).toNatClampNeg) with
  | none => mI M 20 0 30 (M.1 20 0 30 + 1)
  | some e => if rste M e = 4 then mI M 20 0 30 (M.1 20 0 30 + 1) else f_come (mI M 20 0 30 (M.1 20 0 30 + 1)) e (M.1 46 0 (M.1 20 0 30).toNatClampNeg).toNatClampNeg
def drF : Nat → xM → xM
  | 0, M => M
  | k + 1, M => if M.1 20 0 30 < M.1 20 0 29 then drF k (drS M) else M
def f_row (k : Nat) (M : xM) : xM := mI (mI (drF k M) 20 0 29 0) 20 0 30 0
def drOk (M : xM) (a n : Nat) : Prop := M.1 20 0 30 = nI a ∧ rok M n ∧ n < 4000 ∧ a ≤ n ∧ (a < n → (∃ s, s < 21 ∧ M.1 46 0 a = nI s) ∧ gOk M ∧ wOk M ∧ ∀ e s, s < 21 → eo M (M.1 45 0 a) = some e → M.1 46 0 a = nI s → ¬ rste M e = 4 → ∃ n', rok (f_come (mI M 20 0 30 (nI (a + 1))) e s) n' ∧ n' ≤ 4000)
theorem r_doRow {d : Nat} (P : xM → Nat → Prop) (hP : ∀ M k, P M k → ∃ a n, drOk M a n ∧ (a < n → ∃ k', k = k' + 1 ∧ P (drS M) k')) : ∀ (k : Nat) (M : xM), P M k → ∀ x1 x2 : Option xV, Rn (d + 5) 79 (0, [some (vR 20 0), x1, x2], [], M) (fun r M' => r = none ∧ M' = f_row k M) := by
  intro k
  induction k with
  | zero =>
    intro M hM x1 x2
    obtain ⟨a, n, ⟨q1, q2, q3, q4, q5⟩, q6⟩ := hP M 0 hM
    have han : ¬ a < n := fun h => by obtain ⟨k', h1, -⟩ := q6 h; omega
    have hlt : ¬ M.1 20 0 30 < M.1 20 0 29 := by rw [q1, show M.1 20 0 29 = nI n from q2]; exact nI_nlt (by omega) (by omega)
    refine rn_aload_n (pc' := 1) rfl rfl rfl ?_
    refine rn_getI (N := 1) (pc' := 4) rfl rfl rfl rfl (by decide) rfl (by first | assumption | decide | omega) ?_
    refine rn_aload_n (pc' := 5) rfl rfl rfl ?_
    refine rn_getI (N := 1) (pc' := 8) rfl rfl rfl rfl (by decide) rfl (by first | assumption | decide | omega) ?_
    refine rn_ic_ge (t := 68) (pc' := 11) rfl rfl rfl (fun h1 => ?_) (fun h1 => ?_)
    · refine rn_aload_n (pc' := 69) rfl rfl rfl ?_
      refine rn_iconst (pc' := 70) (v := 0) rfl rfl (by decide) ?_
      refine rn_putI (N := 1) (pc' := 73) rfl rfl rfl rfl rfl (by first | assumption | decide | omega) ?_
      refine rn_aload_n (pc' := 74) rfl rfl rfl ?_
      refine rn_iconst (pc' := 75) (v := 0) rfl rfl (by decide) ?_
      refine rn_putI (N := 1) (pc' := 78) rfl rfl rfl rfl rfl (by first | assumption | decide | omega) ?_
      refine rn_return rfl rfl ?_
      exact ⟨rfl, rfl⟩
    · exact absurd h1 hlt
  | succ k ih =>
    intro M hM x1 x2
    obtain ⟨a, n, ⟨q1, q2, q3, q4, q5⟩, q6⟩ := hP M (k + 1) hM
    have hiff : M.1 20 0 30 < M.1 20 0 29 ↔ a < n := by rw [q1, show M.1 20 0 29 = nI n from q2]; exact nI_ltI (by omega) (by omega)
    by_cases han : a < n
    · obtain ⟨⟨s, hs, hs2⟩, hG, hW, hf⟩ := q5 han
      obtain ⟨k', hk', hP'⟩ := q6 han
      obtain rfl : k' = k := by omega
      have ef : f_row (k' + 1) M = f_row k' (drS M) := by unfold f_row drF; rw [if_pos (hiff.mpr han)]; cases k' <;> rfl
      rw [ef]
      have ih := ih (drS M) hP'
      have hca : (M.1 20 0 30).toNatClampNeg = a := by rw [q1]; exact nI_clamp (by omega)
      have hcs : (M.1 46 0 a).toNatClampNeg = s := by rw [hs2]; exact nI_clamp (by omega)
      have ed : drS M = match eo M (M.1 45 0 a) with
          | none => mI M 20 0 30 (M.1 20 0 30 + 1)
          | some e => if rste M e = 4 then mI M 20 0 30 (M.1 20 0 30 + 1) else f_come (mI M 20 0 30 (M.1 20 0 30 + 1)) e s := by
        unfold drS
        rw [hca, hcs]
      have ea : M.1 20 0 30 + 1 = nI (a + 1) := by rw [q1]; exact nI_1 a
      have ho := oI_neg (o := eo M (M.1 45 0 a)) (fun e h => eo_lt h)
      cases he : eo M (M.1 45 0 a) with
      | none =>
        rw [he] at ed
        simp only at ed
        rw [ed] at ih ⊢
        refine rn_aload_n (pc' := 1) rfl rfl rfl ?_
        refine rn_getI (N := 1) (pc' := 4) rfl rfl rfl rfl (by decide) rfl (by first | assumption | decide | omega) ?_
        refine rn_aload_n (pc' := 5) rfl rfl rfl ?_
        refine rn_getI (N := 1) (pc' := 8) rfl rfl rfl rfl (by decide) rfl (by first | assumption | decide | omega) ?_
        refine rn_ic_ge (t := 68) (pc' := 11) rfl rfl rfl (fun h1 => ?_) (fun h1 => ?_)
        · exact absurd (hiff.mpr han) h1
        · refine rn_aload_n (pc' := 12) rfl rfl rfl ?_
          refine rn_aload_n (pc' := 13) rfl rfl rfl ?_
          refine rn_getF (N := 1) (t' := 45) (pc' := 16) rfl rfl rfl rfl rfl (by first | assumption | decide | omega) ?_
          refine rn_aload_n (pc' := 17) rfl rfl rfl ?_
          refine rn_getI (N := 1) (pc' := 20) rfl rfl rfl rfl (by decide) rfl (by first | assumption | decide | omega) ?_
          refine rn_iald (k := a) (N := 1) (K := 4000) (pc' := 21) rfl rfl ⟨rfl, rfl⟩ rfl (by first | assumption | decide | omega) rfl (by decide) (q1) (by first | assumption | decide | omega) ?_
          refine rn_callV (pc' := 24) (as := [_]) rfl rfl rfl ⟨Nat.le_of_ble_eq_true rfl, rfl, rfl⟩ rfl (by first | assumption | decide | omega) (Nat.le_of_ble_eq_true rfl) (Nat.le_of_ble_eq_true rfl) rfl (r_entryOf M _) (fun r2 M2 hz => ?_)
          obtain ⟨rfl, hm_⟩ := hz
          refine rn_mem hm_ ?_
          clear hm_
          refine rn_istore_n (pc' := 25) rfl rfl rfl (Nat.le_of_ble_eq_true rfl) rfl ?_
          refine rn_aload_n (pc' := 26) rfl rfl rfl ?_
          refine rn_getF (N := 1) (t' := 46) (pc' := 29) rfl rfl rfl rfl rfl (by first | assumption | decide | omega) ?_
          refine rn_aload_n (pc' := 30) rfl rfl rfl ?_
          refine rn_getI (N := 1) (pc' := 33) rfl rfl rfl rfl (by decide) rfl (by first | assumption | decide | omega) ?_
          refine rn_iald (k := a) (N := 1) (K := 4000) (pc' := 34) rfl rfl ⟨rfl, rfl⟩ rfl (by first | assumption | decide | omega) rfl (by decide) (q1) (by first | assumption | decide | omega) ?_
          refine rn_istore_n (pc' := 35) rfl rfl rfl (Nat.le_of_ble_eq_true rfl) rfl ?_
          refine rn_aload_n (pc' := 36) rfl rfl rfl ?_
          refine rn_dupA (pc' := 37) rfl rfl ?_
          refine rn_getI (N := 1) (pc' := 40) rfl rfl rfl rfl (by decide) rfl (by first | assumption | decide | omega) ?_
          refine rn_iconst (pc' := 41) (v := 1) rfl rfl (by decide) ?_
          refine rn_iadd (pc' := 42) rfl rfl ?_
          refine rn_putI (N := 1) (pc' := 45) rfl rfl rfl rfl rfl (by first | assumption | decide | omega) ?_
          refine rn_iload_n (pc' := 46) rfl rfl rfl ?_
          refine rn_if_lt (t := 65) (pc' := 49) rfl rfl rfl (fun h3 => ?_) (fun h3 => ?_)
          · refine rn_goto (pc' := 0) rfl rfl ?_
            exact ih _ _
          · exact absurd (ho.mpr he) h3
      | some e =>
        have hel := eo_lt he
        rw [he] at ed
        simp only at ed
        have hoe : oI (eo M (M.1 45 0 a)) = nI e := by rw [he]; rfl
        by_cases hz4 : rste M e = 4
        · rw [if_pos hz4] at ed
          rw [ed] at ih ⊢
          refine rn_aload_n (pc' := 1) rfl rfl rfl ?_
          refine rn_getI (N := 1) (pc' := 4) rfl rfl rfl rfl (by decide) rfl (by first | assumption | decide | omega) ?_
          refine rn_aload_n (pc' := 5) rfl rfl rfl ?_
          refine rn_getI (N := 1) (pc' := 8) rfl rfl rfl rfl (by decide) rfl (by first | assumption | decide | omega) ?_
          refine rn_ic_ge (t := 68) (pc' := 11) rfl rfl rfl (fun h1 => ?_) (fun h1 => ?_)
          · exact absurd (hiff.mpr han) h1
          · refine rn_aload_n (pc' := 12) rfl rfl rfl ?_
            refine rn_aload_n (pc' := 13) rfl rfl rfl ?_
            refine rn_getF (N := 1) (t' := 45) (pc' := 16) rfl rfl rfl rfl rfl (by first | assumption | decide | omega) ?_
            refine rn_aload_n (pc' := 17) rfl rfl rfl ?_
            refine rn_getI (N := 1) (pc' := 20) rfl rfl rfl rfl (by decide) rfl (by first | assumption | decide | omega) ?_
            refine rn_iald (k := a) (N := 1) (K := 4000) (pc' := 21) rfl rfl ⟨rfl, rfl⟩ rfl (by first | assumption | decide | omega) rfl (by decide) (q1) (by first | assumption | decide | omega) ?_
            refine rn_callV (pc' := 24) (as := [_]) rfl rfl rfl ⟨Nat.le_of_ble_eq_true rfl, rfl, rfl⟩ rfl (by first | assumption | decide | omega) (Nat.le_of_ble_eq_true rfl) (Nat.le_of_ble_eq_true rfl) rfl (r_entryOf M _) (fun r2 M2 hz => ?_)
            obtain ⟨rfl, hm_⟩ := hz
            refine rn_mem hm_ ?_
            clear hm_
            refine rn_topI hoe ?_
            refine rn_istore_n (pc' := 25) rfl rfl rfl (Nat.le_of_ble_eq_true rfl) rfl ?_
            refine rn_aload_n (pc' := 26) rfl rfl rfl ?_
            refine rn_getF (N := 1) (t' := 46) (pc' := 29) rfl rfl rfl rfl rfl (by first | assumption | decide | omega) ?_
            refine rn_aload_n (pc' := 30) rfl rfl rfl ?_
            refine rn_getI (N := 1) (pc' := 33) rfl rfl rfl rfl (by decide) rfl (by first | assumption | decide | omega) ?_
            refine rn_iald (k := a) (N := 1) (K := 4000) (pc' := 34) rfl rfl ⟨rfl, rfl⟩ rfl (by first | assumption | decide | omega) rfl (by decide) (q1) (by first | assumption | decide | omega) ?_
            refine rn_istore_n (pc' := 35) rfl rfl rfl (Nat.le_of_ble_eq_true rfl) rfl ?_
            refine rn_aload_n (pc' := 36) rfl rfl rfl ?_
            refine rn_dupA (pc' := 37) rfl rfl ?_
            refine rn_getI (N := 1) (pc' := 40) rfl rfl rfl rfl (by decide) rfl (by first | assumption | decide | omega) ?_
            refine rn_iconst (pc' := 41) (v := 1) rfl rfl (by decide) ?_
            refine rn_iadd (pc' := 42) rfl rfl ?_
            refine rn_putI (N := 1) (pc' := 45) rfl rfl rfl rfl rfl (by first | assumption | decide | omega) ?_
            refine rn_iload_n (pc' := 46) rfl rfl rfl ?_
            refine rn_if_lt (t := 65) (pc' := 49) rfl rfl rfl (fun h3 => ?_) (fun h3 => ?_)
            · refine rn_goto (pc' := 0) rfl rfl ?_
              first | exact absurd h3 (nI_pos (by omega)) | exact ih _ _
            · refine rn_aload_n (pc' := 50) rfl rfl rfl ?_
              refine rn_getF (N := 1) (t' := 28) (pc' := 53) rfl rfl rfl rfl rfl (by first | assumption | decide | omega) ?_
              refine rn_iload_n (pc' := 54) rfl rfl rfl ?_
              refine rn_iald (N := 1) (K := 24) (pc' := 55) rfl rfl ⟨rfl, rfl⟩ rfl (by first | assumption | decide | omega) rfl (by decide) rfl (by first | assumption | decide | omega) ?_
              refine rn_iconst (pc' := 56) (v := 4) rfl rfl (by decide) ?_
              refine rn_ic_eq (t := 65) (pc' := 59) rfl rfl rfl (fun h4 => ?_) (fun h4 => ?_)
              · refine rn_goto (pc' := 0) rfl rfl ?_
                first | exact absurd h3 (nI_pos (by omega)) | exact ih _ _
              · exact absurd hz4 h4
        · rw [if_neg hz4] at ed
          rw [ed, ea] at ih ⊢
          obtain ⟨n', f1, f2⟩ := hf e s hs he hs2 hz4
          have hcome := r_come (d := d) (M := mI M 20 0 30 (nI (a + 1))) hel hs (fun k hk hp => hG k hk hp) (fun k hk hp => hW k hk hp) (n := n) q2 q3 ⟨n', f1, f2⟩
          refine rn_aload_n (pc' := 1) rfl rfl rfl ?_
          refine rn_getI (N := 1) (pc' := 4) rfl rfl rfl rfl (by decide) rfl (by first | assumption | decide | omega) ?_
          refine rn_aload_n (pc' := 5) rfl rfl rfl ?_
          refine rn_getI (N := 1) (pc' := 8) rfl rfl rfl rfl (by decide) rfl (by first | assumption | decide | omega) ?_
          refine rn_ic_ge (t := 68) (pc' := 11) rfl rfl rfl (fun h1 => ?_) (fun h1 => ?_)
          · exact absurd (hiff.mpr han) h1
          · refine rn_aload_n (pc' := 12) rfl rfl rfl ?_
            refine rn_aload_n (pc' := 13) rfl rfl rfl ?_
            refine rn_getF (N := 1) (t' := 45) (pc' := 16) rfl rfl rfl rfl rfl (by first | assumption | decide | omega) ?_
            refine rn_aload_n (pc' := 17) rfl rfl rfl ?_
            refine rn_getI (N := 1) (pc' := 20) rfl rfl rfl rfl (by decide) rfl (by first | assumption | decide | omega) ?_
            refine rn_iald (k := a) (N := 1) (K := 4000) (pc' := 21) rfl rfl ⟨rfl, rfl⟩ rfl (by first | assumption | decide | omega) rfl (by decide) (q1) (by first | assumption | decide | omega) ?_
            refine rn_callV (pc' := 24) (as := [_]) rfl rfl rfl ⟨Nat.le_of_ble_eq_true rfl, rfl, rfl⟩ rfl (by first | assumption | decide | omega) (Nat.le_of_ble_eq_true rfl) (Nat.le_of_ble_eq_true rfl) rfl (r_entryOf M _) (fun r2 M2 hz => ?_)
            obtain ⟨rfl, hm_⟩ := hz
            refine rn_mem hm_ ?_
            clear hm_
            refine rn_topI hoe ?_
            refine rn_istore_n (pc' := 25) rfl rfl rfl (Nat.le_of_ble_eq_true rfl) rfl ?_
            refine rn_aload_n (pc' := 26) rfl rfl rfl ?_
            refine rn_getF (N := 1) (t' := 46) (pc' := 29) rfl rfl rfl rfl rfl (by first | assumption | decide | omega) ?_
            refine rn_aload_n (pc' := 30) rfl rfl rfl ?_
            refine rn_getI (N := 1) (pc' := 33) rfl rfl rfl rfl (by decide) rfl (by first | assumption | decide | omega) ?_
            refine rn_iald (k := a) (N := 1) (K := 4000) (pc' := 34) rfl rfl ⟨rfl, rfl⟩ rfl (by first | assumption | decide | omega) rfl (by decide) (q1) (by first | assumption | decide | omega) ?_
            refine rn_topI hs2 ?_
            refine rn_istore_n (pc' := 35) rfl rfl rfl (Nat.le_of_ble_eq_true rfl) rfl ?_
            refine rn_aload_n (pc' := 36) rfl rfl rfl ?_
            refine rn_dupA (pc' := 37) rfl rfl ?_
            refine rn_getI (N := 1) (pc' := 40) rfl rfl rfl rfl (by decide) rfl (by first | assumption | decide | omega) ?_
            refine rn_iconst (pc' := 41) (v := 1) rfl rfl (by decide) ?_
            refine rn_iadd (pc' := 42) rfl rfl ?_
            refine rn_topI ea ?_
            refine rn_putI (N := 1) (pc' := 45) rfl rfl rfl rfl rfl (by first | assumption | decide | omega) ?_
            refine rn_iload_n (pc' := 46) rfl rfl rfl ?_
            refine rn_if_lt (t := 65) (pc' := 49) rfl rfl rfl (fun h3 => ?_) (fun h3 => ?_)
            · first | exact absurd h3 (nI_pos (by omega)) | exact absurd h4_ hz4 | (refine rn_goto (pc' := 0) rfl rfl ?_; exact ih _ _)
            · refine rn_aload_n (pc' := 50) rfl rfl rfl ?_
              refine rn_getF (N := 1) (t' := 28) (pc' := 53) rfl rfl rfl rfl rfl (by first | assumption | decide | omega) ?_
              refine rn_iload_n (pc' := 54) rfl rfl rfl ?_
              refine rn_iald (N := 1) (K := 24) (pc' := 55) rfl rfl ⟨rfl, rfl⟩ rfl (by first | assumption | decide | omega) rfl (by decide) rfl (by first | assumption | decide | omega) ?_
              refine rn_iconst (pc' := 56) (v := 4) rfl rfl (by decide) ?_
              refine rn_ic_eq (t := 65) (pc' := 59) rfl rfl rfl (fun h4_ => ?_) (fun h4_ => ?_)
              · first | exact absurd h3 (nI_pos (by omega)) | exact absurd h4_ hz4 | (refine rn_goto (pc' := 0) rfl rfl ?_; exact ih _ _)
              · refine rn_aload_n (pc' := 60) rfl rfl rfl ?_
                refine rn_iload_n (pc' := 61) rfl rfl rfl ?_
                refine rn_iload_n (pc' := 62) rfl rfl rfl ?_
                refine rn_callV (pc' := 65) (as := [_, _]) rfl rfl rfl ⟨Nat.le_of_ble_eq_true rfl, rfl, rfl⟩ rfl (by first | assumption | decide | omega) (Nat.le_of_ble_eq_true rfl) (Nat.le_of_ble_eq_true rfl) rfl hcome (fun r9 M9 hz9 => ?_)
                obtain ⟨rfl, hm9⟩ := hz9
                refine rn_mem hm9 ?_
                first | exact absurd h3 (nI_pos (by omega)) | exact absurd h4_ hz4 | (refine rn_goto (pc' := 0) rfl rfl ?_; exact ih _ _)
    · have ef : f_row (k + 1) M = mI (mI M 20 0 29 0) 20 0 30 0 := by unfold f_row drF; rw [if_neg (fun h => han (hiff.mp h))]
      rw [ef]
      refine rn_aload_n (pc' := 1) rfl rfl rfl ?_
      refine rn_getI (N := 1) (pc' := 4) rfl rfl rfl rfl (by decide) rfl (by first | assumption | decide | omega) ?_
      refine rn_aload_n (pc' := 5) rfl rfl rfl ?_
      refine rn_getI (N := 1) (pc' := 8) rfl rfl rfl rfl (by decide) rfl (by first | assumption | decide | omega) ?_
      refine rn_ic_ge (t := 68) (pc' := 11) rfl rfl rfl (fun h1 => ?_) (fun h1 => ?_)
      · refine rn_aload_n (pc' := 69) rfl rfl rfl ?_
        refine rn_iconst (pc' := 70) (v := 0) rfl rfl (by decide) ?_
        refine rn_putI (N := 1) (pc' := 73) rfl rfl rfl rfl rfl (by first | assumption | decide | omega) ?_
        refine rn_aload_n (pc' := 74) rfl rfl rfl ?_
        refine rn_iconst (pc' := 75) (v := 0) rfl rfl (by decide) ?_
        refine rn_putI (N := 1) (pc' := 78) rfl rfl rfl rfl rfl (by first | assumption | decide | omega) ?_
        refine rn_return rfl rfl ?_
        exact ⟨rfl, rfl⟩
      · exact absurd (hiff.mp h1) han
