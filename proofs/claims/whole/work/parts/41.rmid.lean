def bI (b : Bool) : Int32 := if b = true then 1 else 0
theorem bI_01 (b : Bool) : bI b = 0 ∨ bI b = 1 := by cases b <;> simp [bI]
def tkF (M : xM) (n : Int32) : Nat → Bool
  | 0 => false
  | k + 1 => tkF M n k || (decide (0 < rpid M k) && (decide (rpid M k = n) || decide (rgrp M k = n)))
def tk (M : xM) (n : Int32) : Bool := tkF M n 24
theorem r_isTaken {d : Nat} (M : xM) (n : Int32) : Rn d 74 (0, xen 74 [vR 20 0, vI n], [], M) (fun r M' => r = some (vI (bI (tk M n))) ∧ M' = M) := by
  have loop : ∀ m i : Nat, i + m = 24 → Rn d 74 (4, [some (vR 20 0), some (vI n), some (vI (bI (tkF M n i))), some (vI (nI i))], [], M) (fun r M' => r = some (vI (bI (tk M n))) ∧ M' = M) := by
    intro m
    induction m with
    | zero =>
      intro i hi
      refine rn_iload_n (pc' := 5) rfl rfl rfl ?_
      refine rn_bipush (pc' := 7) (v := 24) rfl rfl (by decide) ?_
      refine rn_ic_ge (t := 55) (pc' := 10) rfl rfl rfl (fun h1 => ?_) (fun h1 => ?_)
      · refine rn_iload_n (pc' := 56) rfl rfl rfl ?_
        refine rn_zreturn rfl rfl (bI_01 _) ?_
        exact ⟨by rw [show i = 24 by omega]; rfl, rfl⟩
      · exact absurd ((lt24 (by omega)).mp h1) (by omega)
    | succ m ih =>
      intro i hi
      have he : i < 24 := by omega
      have key : ∀ x, x = bI (tkF M n (i + 1)) → Rn d 74 (48, [some (vR 20 0), some (vI n), some (vI (bI (tkF M n i))), some (vI (nI i))], [vI x], M) (fun r M' => r = some (vI (bI (tk M n))) ∧ M' = M) := by
        intro x hx
        subst hx
        refine rn_istore_n (pc' := 49) rfl rfl rfl (Nat.le_of_ble_eq_true rfl) rfl ?_
        refine rn_iinc (pc' := 52) rfl rfl rfl (nI_inc _) rfl (Nat.le_of_ble_eq_true rfl) rfl ?_
        refine rn_goto (pc' := 4) rfl rfl ?_
        exact ih (i + 1) (by omega)
      have hb : ∀ b : Bool, bI b = 0 ↔ b = false := fun b => by cases b <;> simp [bI]
      refine rn_iload_n (pc' := 5) rfl rfl rfl ?_
      refine rn_bipush (pc' := 7) (v := 24) rfl rfl (by decide) ?_
      refine rn_ic_ge (t := 55) (pc' := 10) rfl rfl rfl (fun h1 => ?_) (fun h1 => ?_)
      · exact absurd ((lt24 (by omega)).mpr he) h1
      · refine rn_iload_n (pc' := 11) rfl rfl rfl ?_
        refine rn_if_ne (t := 43) (pc' := 14) rfl rfl rfl (fun h2 => ?_) (fun h2 => ?_)
        · refine rn_iconst (pc' := 44) (v := 1) rfl rfl (by decide) ?_
          refine rn_goto (pc' := 48) rfl rfl ?_
          refine key _ ?_
          simp only [hb, Bool.not_eq_false] at h2
          first | (simp [tkF, rpid, rgrp, bI, *]; done) | simp_all [tkF, rpid, rgrp, bI]
        · refine rn_aload_n (pc' := 15) rfl rfl rfl ?_
          refine rn_getF (N := 1) (t' := 25) (pc' := 18) rfl rfl rfl rfl rfl (by first | assumption | decide | omega) ?_
          refine rn_iload_n (pc' := 19) rfl rfl rfl ?_
          refine rn_iald (N := 1) (K := 24) (pc' := 20) rfl rfl ⟨rfl, rfl⟩ rfl (by first | assumption | decide | omega) rfl (by decide) rfl (by first | assumption | decide | omega) ?_
          refine rn_if_le (t := 47) (pc' := 23) rfl rfl rfl (fun h3 => ?_) (fun h3 => ?_)
          · refine rn_iconst (pc' := 48) (v := 0) rfl rfl (by decide) ?_
            refine key _ ?_
            simp only [hb, Bool.not_eq_false] at h2
            first | (simp [tkF, rpid, rgrp, bI, *]; done) | simp_all [tkF, rpid, rgrp, bI]
          · refine rn_aload_n (pc' := 24) rfl rfl rfl ?_
            refine rn_getF (N := 1) (t' := 25) (pc' := 27) rfl rfl rfl rfl rfl (by first | assumption | decide | omega) ?_
            refine rn_iload_n (pc' := 28) rfl rfl rfl ?_
            refine rn_iald (N := 1) (K := 24) (pc' := 29) rfl rfl ⟨rfl, rfl⟩ rfl (by first | assumption | decide | omega) rfl (by decide) rfl (by first | assumption | decide | omega) ?_
            refine rn_iload_n (pc' := 30) rfl rfl rfl ?_
            refine rn_ic_eq (t := 43) (pc' := 33) rfl rfl rfl (fun h4 => ?_) (fun h4 => ?_)
            · refine rn_iconst (pc' := 44) (v := 1) rfl rfl (by decide) ?_
              refine rn_goto (pc' := 48) rfl rfl ?_
              refine key _ ?_
              simp only [hb, Bool.not_eq_false] at h2
              first | (simp [tkF, rpid, rgrp, bI, *]; done) | simp_all [tkF, rpid, rgrp, bI]
            · refine rn_aload_n (pc' := 34) rfl rfl rfl ?_
              refine rn_getF (N := 1) (t' := 27) (pc' := 37) rfl rfl rfl rfl rfl (by first | assumption | decide | omega) ?_
              refine rn_iload_n (pc' := 38) rfl rfl rfl ?_
              refine rn_iald (N := 1) (K := 24) (pc' := 39) rfl rfl ⟨rfl, rfl⟩ rfl (by first | assumption | decide | omega) rfl (by decide) rfl (by first | assumption | decide | omega) ?_
              refine rn_iload_n (pc' := 40) rfl rfl rfl ?_
              refine rn_ic_ne (t := 47) (pc' := 43) rfl rfl rfl (fun h5 => ?_) (fun h5 => ?_)
              · refine rn_iconst (pc' := 48) (v := 0) rfl rfl (by decide) ?_
                refine key _ ?_
                simp only [hb, Bool.not_eq_false] at h2
                first | (simp [tkF, rpid, rgrp, bI, *]; done) | simp_all [tkF, rpid, rgrp, bI]
              · refine rn_iconst (pc' := 44) (v := 1) rfl rfl (by decide) ?_
                refine rn_goto (pc' := 48) rfl rfl ?_
                refine key _ ?_
                simp only [hb, Bool.not_eq_false] at h2
                first | (simp [tkF, rpid, rgrp, bI, *]; done) | simp_all [tkF, rpid, rgrp, bI]
  show Rn _ 74 (0, [some (vR 20 0), some (vI n), none, none], [], _) _
  refine rn_iconst (pc' := 1) (v := 0) rfl rfl (by decide) ?_
  refine rn_istore_n (pc' := 2) rfl rfl rfl (Nat.le_of_ble_eq_true rfl) rfl ?_
  refine rn_iconst (pc' := 3) (v := 0) rfl rfl (by decide) ?_
  refine rn_istore_n (pc' := 4) rfl rfl rfl (Nat.le_of_ble_eq_true rfl) rfl ?_
  exact loop 24 0 (by omega)
def nx (n : Nat) : Nat := if 999 ≤ n then 2 else n + 1
def nxi : Nat → Nat → Nat
  | 0, n => n
  | m + 1, n => nxi m (nx n)
theorem nx_le {n : Nat} : nx n ≤ 999 ∧ 1 ≤ nx n := by unfold nx; split <;> omega
theorem r_newPid {d : Nat} (M : xM) {l m : Nat} (hl : M.1 20 0 24 = nI l) (hl2 : l ≤ 999) (hb : ∀ i, i < m → tk M (nI (nxi (i + 1) l)) = true) (hf : tk M (nI (nxi (m + 1) l)) = false) : Rn (d + 1) 75 (0, xen 75 [vR 20 0], [], M) (fun r M' => r = some (vI (nI (nxi (m + 1) l))) ∧ M' = mI M 20 0 24 (nI (nxi (m + 1) l))) := by
  have step : ∀ l : Nat, l ≤ 999 → ∀ Z, Rn (d + 1) 75 (7, [some (vR 20 0), some (vI (nI (nx l))), some (vI (bI (tk M (nI (nx l)))))], [], M) Z → Rn (d + 1) 75 (7, [some (vR 20 0), some (vI (nI l)), some (vI 1)], [], M) Z := by
    intro l hl Z hk
    have key : Rn (d + 1) 75 (25, [some (vR 20 0), some (vI (nI l)), some (vI 1)], [vI (nI (nx l))], M) Z := by
      refine rn_istore_n (pc' := 26) rfl rfl rfl (Nat.le_of_ble_eq_true rfl) rfl ?_
      refine rn_aload_n (pc' := 27) rfl rfl rfl ?_
      refine rn_iload_n (pc' := 28) rfl rfl rfl ?_
      refine rn_callV (pc' := 31) (as := [_]) rfl rfl rfl ⟨Nat.le_of_ble_eq_true rfl, rfl, rfl⟩ rfl (by first | assumption | decide | omega) (Nat.le_of_ble_eq_true rfl) (Nat.le_of_ble_eq_true rfl) rfl (r_isTaken M _) (fun r1 M1 hz => ?_)
      obtain ⟨rfl, hm_⟩ := hz
      refine rn_mem hm_ ?_
      clear hm_
      refine rn_istore_n (pc' := 32) rfl rfl rfl (Nat.le_of_ble_eq_true rfl) rfl ?_
      refine rn_goto (pc' := 7) rfl rfl ?_
      exact hk
    have h9 := nI_ltI (a := l) (b := 999) (by omega) (by decide)
    have e2 : ¬ nI l < 999 → (2 : Int32) = nI (nx l) := fun h => by
      have : ¬ l < 999 := fun z => h (h9.mpr z)
      unfold nx
      rw [if_pos (by omega)]
      exact rfl
    have e3 : nI l < 999 → nI l + 1 = nI (nx l) := fun h => by
      have := h9.mp h
      unfold nx
      rw [if_neg (by omega)]
      exact nI_1 l
    refine rn_iload_n (pc' := 8) rfl rfl rfl ?_
    refine rn_if_eq (t := 35) (pc' := 11) rfl rfl rfl (fun h1 => ?_) (fun h1 => ?_)
    · exact absurd h1 (by decide)
    · refine rn_iload_n (pc' := 12) rfl rfl rfl ?_
      refine rn_sipush (pc' := 15) (v := 999) rfl rfl (by decide) ?_
      refine rn_ic_lt (t := 22) (pc' := 18) rfl rfl rfl (fun h2 => ?_) (fun h2 => ?_)
      · refine rn_iload_n (pc' := 23) rfl rfl rfl ?_
        refine rn_iconst (pc' := 24) (v := 1) rfl rfl (by decide) ?_
        refine rn_iadd (pc' := 25) rfl rfl ?_
        first | exact rn_topI (e2 h2) key | exact rn_topI (e3 h2) key
      · refine rn_iconst (pc' := 19) (v := 2) rfl rfl (by decide) ?_
        refine rn_goto (pc' := 25) rfl rfl ?_
        first | exact rn_topI (e2 h2) key | exact rn_topI (e3 h2) key
  have loop : ∀ m l : Nat, l ≤ 999 → (∀ i, i < m → tk M (nI (nxi (i + 1) l)) = true) → tk M (nI (nxi (m + 1) l)) = false → Rn (d + 1) 75 (7, [some (vR 20 0), some (vI (nI l)), some (vI 1)], [], M) (fun r M' => r = some (vI (nI (nxi (m + 1) l))) ∧ M' = mI M 20 0 24 (nI (nxi (m + 1) l))) := by
    intro m
    induction m with
    | zero =>
      intro l hl hb hf
      refine step l hl _ ?_
      rw [show tk M (nI (nx l)) = false from hf]
      show Rn _ _ (7, [_, _, some (vI 0)], [], _) _
      refine rn_iload_n (pc' := 8) rfl rfl rfl ?_
      refine rn_if_eq (t := 35) (pc' := 11) rfl rfl rfl (fun h1 => ?_) (fun h1 => ?_)
      · refine rn_aload_n (pc' := 36) rfl rfl rfl ?_
        refine rn_iload_n (pc' := 37) rfl rfl rfl ?_
        refine rn_putI (N := 1) (pc' := 40) rfl rfl rfl rfl rfl (by first | assumption | decide | omega) ?_
        refine rn_iload_n (pc' := 41) rfl rfl rfl ?_
        refine rn_ireturn rfl rfl ?_
        exact ⟨rfl, rfl⟩
      · exact absurd rfl h1
    | succ m ih =>
      intro l hl hb hf
      refine step l hl _ ?_
      rw [show tk M (nI (nx l)) = true from hb 0 (Nat.succ_pos m)]
      exact ih (nx l) nx_le.1 (fun i hi => hb (i + 1) (by omega)) hf
  show Rn _ 75 (0, [some (vR 20 0), none, none], [], _) _
  refine rn_aload_n (pc' := 1) rfl rfl rfl ?_
  refine rn_getI (N := 1) (pc' := 4) rfl rfl rfl rfl (by decide) rfl (by first | assumption | decide | omega) ?_
  refine rn_topI hl ?_
  refine rn_istore_n (pc' := 5) rfl rfl rfl (Nat.le_of_ble_eq_true rfl) rfl ?_
  refine rn_iconst (pc' := 6) (v := 1) rfl rfl (by decide) ?_
  refine rn_istore_n (pc' := 7) rfl rfl rfl (Nat.le_of_ble_eq_true rfl) rfl ?_
  exact loop m l hl2 hb hf
def f_send (M : xM) (e : Nat) (s : Int32) : xM := mI (mI (mI (mI M 45 0 (M.1 20 0 29).toNatClampNeg (rpid M e)) 46 0 (M.1 20 0 29).toNatClampNeg s) 20 0 29 (M.1 20 0 29 + 1)) 20 0 37 (M.1 20 0 37 + 1)
theorem r_send {d e n : Nat} (M : xM) (s : Int32) (he : e < 24) (hn : M.1 20 0 29 = nI n) (h4 : n < 4000) : Rn d 77 (0, xen 77 [vR 20 0, vI (nI e), vI s], [], M) (fun r M' => r = none ∧ M' = f_send M e s) := by
  have hc : (M.1 20 0 29).toNatClampNeg = n := by rw [hn]; exact nI_clamp (by omega)
  show Rn _ 77 (0, [some (vR 20 0), some (vI (nI e)), some (vI s)], [], _) _
  refine rn_aload_n (pc' := 1) rfl rfl rfl ?_
  refine rn_getF (N := 1) (t' := 45) (pc' := 4) rfl rfl rfl rfl rfl (by first | assumption | decide | omega) ?_
  refine rn_aload_n (pc' := 5) rfl rfl rfl ?_
  refine rn_getI (N := 1) (pc' := 8) rfl rfl rfl rfl (by decide) rfl (by first | assumption | decide | omega) ?_
  refine rn_aload_n (pc' := 9) rfl rfl rfl ?_
  refine rn_getF (N := 1) (t' := 25) (pc' := 12) rfl rfl rfl rfl rfl (by first | assumption | decide | omega) ?_
  refine rn_iload_n (pc' := 13) rfl rfl rfl ?_
  refine rn_iald (N := 1) (K := 24) (pc' := 14) rfl rfl ⟨rfl, rfl⟩ rfl (by first | assumption | decide | omega) rfl (by decide) rfl (by first | assumption | decide | omega) ?_
  refine rn_iast (k := n) (N := 1) (K := 4000) (pc' := 15) rfl rfl ⟨rfl, rfl⟩ rfl (by first | assumption | decide | omega) rfl (by decide) (hn) (by first | assumption | decide | omega) ?_
  refine rn_aload_n (pc' := 16) rfl rfl rfl ?_
  refine rn_getF (N := 1) (t' := 46) (pc' := 19) rfl rfl rfl rfl rfl (by first | assumption | decide | omega) ?_
  refine rn_aload_n (pc' := 20) rfl rfl rfl ?_
  refine rn_getI (N := 1) (pc' := 23) rfl rfl rfl rfl (by decide) rfl (by first | assumption | decide | omega) ?_
  refine rn_iload_n (pc' := 24) rfl rfl rfl ?_
  refine rn_iast (k := n) (N := 1) (K := 4000) (pc' := 25) rfl rfl ⟨rfl, rfl⟩ rfl (by first | assumption | decide | omega) rfl (by decide) (hn) (by first | assumption | decide | omega) ?_
  refine rn_aload_n (pc' := 26) rfl rfl rfl ?_
  refine rn_dupA (pc' := 27) rfl rfl ?_
  refine rn_getI (N := 1) (pc' := 30) rfl rfl rfl rfl (by decide) rfl (by first | assumption | decide | omega) ?_
  refine rn_iconst (pc' := 31) (v := 1) rfl rfl (by decide) ?_
  refine rn_iadd (pc' := 32) rfl rfl ?_
  refine rn_putI (N := 1) (pc' := 35) rfl rfl rfl rfl rfl (by first | assumption | decide | omega) ?_
  refine rn_aload_n (pc' := 36) rfl rfl rfl ?_
  refine rn_dupA (pc' := 37) rfl rfl ?_
  refine rn_getI (N := 1) (pc' := 40) rfl rfl rfl rfl (by decide) rfl (by first | assumption | decide | omega) ?_
  refine rn_iconst (pc' := 41) (v := 1) rfl rfl (by decide) ?_
  refine rn_iadd (pc' := 42) rfl rfl ?_
  refine rn_putI (N := 1) (pc' := 45) rfl rfl rfl rfl rfl (by first | assumption | decide | omega) ?_
  refine rn_return rfl rfl ?_
  exact ⟨rfl, by unfold f_send; rw [hc]; rfl⟩
def f_sendTo (M : xM) (p s : Int32) : xM := match eo M p with
  | none => M
  | some e => f_send M e s
theorem r_sendTo {d n : Nat} (M : xM) (p s : Int32) (hn : M.1 20 0 29 = nI n) (h4 : n < 4000) : Rn (d + 1) 78 (0, xen 78 [vR 20 0, vI p, vI s], [], M) (fun r M' => r = none ∧ M' = f_sendTo M p s) := by
  have ho := oI_neg (o := eo M p) (fun e h => eo_lt h)
  show Rn _ 78 (0, [some (vR 20 0), some (vI p), some (vI s), none], [], _) _
  cases h : eo M p with
  | none =>
    refine rn_aload_n (pc' := 1) rfl rfl rfl ?_
    refine rn_iload_n (pc' := 2) rfl rfl rfl ?_
    refine rn_callV (pc' := 5) (as := [_]) rfl rfl rfl ⟨Nat.le_of_ble_eq_true rfl, rfl, rfl⟩ rfl (by first | assumption | decide | omega) (Nat.le_of_ble_eq_true rfl) (Nat.le_of_ble_eq_true rfl) rfl (r_entryOf M p) (fun r1 M1 hz => ?_)
    obtain ⟨rfl, hm_⟩ := hz
    refine rn_mem hm_ ?_
    clear hm_
    refine rn_istore_n (pc' := 6) rfl rfl rfl (Nat.le_of_ble_eq_true rfl) rfl ?_
    refine rn_iload_n (pc' := 7) rfl rfl rfl ?_
    refine rn_if_lt (t := 16) (pc' := 10) rfl rfl rfl (fun h2 => ?_) (fun h2 => ?_)
    · refine rn_return rfl rfl ?_
      exact ⟨rfl, by unfold f_sendTo; rw [h]⟩
    · exact absurd (ho.mpr h) h2
  | some e =>
    have he := eo_lt h
    refine rn_aload_n (pc' := 1) rfl rfl rfl ?_
    refine rn_iload_n (pc' := 2) rfl rfl rfl ?_
    refine rn_callV (pc' := 5) (as := [_]) rfl rfl rfl ⟨Nat.le_of_ble_eq_true rfl, rfl, rfl⟩ rfl (by first | assumption | decide | omega) (Nat.le_of_ble_eq_true rfl) (Nat.le_of_ble_eq_true rfl) rfl (r_entryOf M p) (fun r1 M1 hz => ?_)
    obtain ⟨rfl, hm_⟩ := hz
    refine rn_mem hm_ ?_
    clear hm_
    refine rn_topI (show oI (eo M p) = nI e by rw [h]; rfl) ?_
    refine rn_istore_n (pc' := 6) rfl rfl rfl (Nat.le_of_ble_eq_true rfl) rfl ?_
    refine rn_iload_n (pc' := 7) rfl rfl rfl ?_
    refine rn_if_lt (t := 16) (pc' := 10) rfl rfl rfl (fun h2 => ?_) (fun h2 => ?_)
    · refine rn_return rfl rfl ?_
      first | exact absurd h2 (nI_pos (by omega)) | exact ⟨rfl, by unfold f_sendTo; rw [h]⟩
    · refine rn_aload_n (pc' := 11) rfl rfl rfl ?_
      refine rn_iload_n (pc' := 12) rfl rfl rfl ?_
      refine rn_iload_n (pc' := 13) rfl rfl rfl ?_
      refine rn_callV (pc' := 16) (as := [_, _]) rfl rfl rfl ⟨Nat.le_of_ble_eq_true rfl, rfl, rfl⟩ rfl (by first | assumption | decide | omega) (Nat.le_of_ble_eq_true rfl) (Nat.le_of_ble_eq_true rfl) rfl (r_send M s he hn h4) (fun r3 M3 hz => ?_)
      obtain ⟨rfl, hm_⟩ := hz
      refine rn_mem hm_ ?_
      clear hm_
      refine rn_return rfl rfl ?_
      first | exact absurd h2 (nI_pos (by omega)) | exact ⟨rfl, by unfold f_sendTo; rw [h]⟩
def f_wake (M : xM) (p : Int32) : xM := match eo M p with
  | none => M
  | some e => if rste M e = 1 then mI M 28 0 e 0 else M
theorem r_wake {d : Nat} (M : xM) (p : Int32) : Rn (d + 1) 82 (0, xen 82 [vR 20 0, vI p], [], M) (fun r M' => r = none ∧ M' = f_wake M p) := by
  have ho := oI_neg (o := eo M p) (fun e h => eo_lt h)
  show Rn _ 82 (0, [some (vR 20 0), some (vI p), none], [], _) _
  cases h : eo M p with
  | none =>
    refine rn_aload_n (pc' := 1) rfl rfl rfl ?_
    refine rn_iload_n (pc' := 2) rfl rfl rfl ?_
    refine rn_callV (pc' := 5) (as := [_]) rfl rfl rfl ⟨Nat.le_of_ble_eq_true rfl, rfl, rfl⟩ rfl (by first | assumption | decide | omega) (Nat.le_of_ble_eq_true rfl) (Nat.le_of_ble_eq_true rfl) rfl (r_entryOf M p) (fun r1 M1 hz => ?_)
    obtain ⟨rfl, hm_⟩ := hz
    refine rn_mem hm_ ?_
    clear hm_
    refine rn_istore_n (pc' := 6) rfl rfl rfl (Nat.le_of_ble_eq_true rfl) rfl ?_
    refine rn_iload_n (pc' := 7) rfl rfl rfl ?_
    refine rn_if_lt (t := 27) (pc' := 10) rfl rfl rfl (fun h2 => ?_) (fun h2 => ?_)
    · refine rn_return rfl rfl ?_
      exact ⟨rfl, by unfold f_wake; rw [h]⟩
    · exact absurd (ho.mpr h) h2
  | some e =>
    have he := eo_lt h
    refine rn_aload_n (pc' := 1) rfl rfl rfl ?_
    refine rn_iload_n (pc' := 2) rfl rfl rfl ?_
    refine rn_callV (pc' := 5) (as := [_]) rfl rfl rfl ⟨Nat.le_of_ble_eq_true rfl, rfl, rfl⟩ rfl (by first | assumption | decide | omega) (Nat.le_of_ble_eq_true rfl) (Nat.le_of_ble_eq_true rfl) rfl (r_entryOf M p) (fun r1 M1 hz => ?_)
    obtain ⟨rfl, hm_⟩ := hz
    refine rn_mem hm_ ?_
    clear hm_
    refine rn_topI (show oI (eo M p) = nI e by rw [h]; rfl) ?_
    refine rn_istore_n (pc' := 6) rfl rfl rfl (Nat.le_of_ble_eq_true rfl) rfl ?_
    refine rn_iload_n (pc' := 7) rfl rfl rfl ?_
    refine rn_if_lt (t := 27) (pc' := 10) rfl rfl rfl (fun h2 => ?_) (fun h2 => ?_)
    · refine rn_return rfl rfl ?_
      first | exact absurd h2 (nI_pos (by omega)) | exact ⟨rfl, by unfold f_wake; rw [h]; simp only [rste, *, if_true, if_false]⟩
    · refine rn_aload_n (pc' := 11) rfl rfl rfl ?_
      refine rn_getF (N := 1) (t' := 28) (pc' := 14) rfl rfl rfl rfl rfl (by first | assumption | decide | omega) ?_
      refine rn_iload_n (pc' := 15) rfl rfl rfl ?_
      refine rn_iald (N := 1) (K := 24) (pc' := 16) rfl rfl ⟨rfl, rfl⟩ rfl (by first | assumption | decide | omega) rfl (by decide) rfl (by first | assumption | decide | omega) ?_
      refine rn_iconst (pc' := 17) (v := 1) rfl rfl (by decide) ?_
      refine rn_ic_ne (t := 27) (pc' := 20) rfl rfl rfl (fun h3 => ?_) (fun h3 => ?_)
      · refine rn_return rfl rfl ?_
        first | exact absurd h2 (nI_pos (by omega)) | exact ⟨rfl, by unfold f_wake; rw [h]; simp only [rste, *, if_true, if_false]⟩
      · refine rn_aload_n (pc' := 21) rfl rfl rfl ?_
        refine rn_getF (N := 1) (t' := 28) (pc' := 24) rfl rfl rfl rfl rfl (by first | assumption | decide | omega) ?_
        refine rn_iload_n (pc' := 25) rfl rfl rfl ?_
        refine rn_iconst (pc' := 26) (v := 0) rfl rfl (by decide) ?_
        refine rn_iast (N := 1) (K := 24) (pc' := 27) rfl rfl ⟨rfl, rfl⟩ rfl (by first | assumption | decide | omega) rfl (by decide) rfl (by first | assumption | decide | omega) ?_
        refine rn_return rfl rfl ?_
        first | exact absurd h2 (nI_pos (by omega)) | exact ⟨rfl, by unfold f_wake; rw [h]; simp only [rste, *, if_true, if_false]⟩
def oMem (M : xM) (g : Int32) (k : Nat) : Bool := decide (0 < rpid M k) && (decide (rgrp M k = g) && !decide (rste M k = 4))
def oOk (M : xM) (g : Int32) (k : Nat) : Bool := decide (rpar M k = 1) || (match eo M (rpar M k) with
  | none => false
  | some e => decide (rgrp M e = g))
def oAny (M : xM) (g : Int32) : Nat → Bool
  | 0 => false
  | k + 1 => oAny M g k || oMem M g k
def oAll (M : xM) (g : Int32) : Nat → Bool
  | 0 => true
  | k + 1 => oAll M g k && (!oMem M g k || oOk M g k)
def orph (M : xM) (g : Int32) : Bool := oAny M g 24 && oAll M g 24
theorem bI_0 (b : Bool) : bI b = 0 ↔ b = false := by cases b <;> simp [bI]
theorem r_isOrphaned {d : Nat} (M : xM) (g : Int32) : Rn (d + 1) 83 (0, xen 83 [vR 20 0, vI g], [], M) (fun r M' => r = some (vI (bI (orph M g))) ∧ M' = M) := by
  have loop : ∀ (m i : Nat) (x5 : Option xV), i + m = 24 → Rn (d + 1) 83 (7, [some (vR 20 0), some (vI g), some (vI (bI (oAny M g i))), some (vI (bI (oAll M g i))), some (vI (nI i)), x5], [], M) (fun r M' => r = some (vI (bI (orph M g))) ∧ M' = M) := by
    intro m
    induction m with
    | zero =>
      intro i x5 hi
      obtain rfl : i = 24 := by omega
      refine rn_iload (pc' := 9) rfl rfl rfl ?_
      refine rn_bipush (pc' := 11) (v := 24) rfl rfl (by decide) ?_
      refine rn_ic_ge (t := 104) (pc' := 14) rfl rfl rfl (fun h1 => ?_) (fun h1 => ?_)
      · refine rn_iload_n (pc' := 105) rfl rfl rfl ?_
        refine rn_if_eq (t := 116) (pc' := 108) rfl rfl rfl (fun h2 => ?_) (fun h2 => ?_)
        · refine rn_iconst (pc' := 117) (v := 0) rfl rfl (by decide) ?_
          refine rn_zreturn rfl rfl (by decide) ?_
          refine ⟨?_, rfl⟩
          simp only [bI_0, Bool.not_eq_false] at *
          simp [orph, bI, *]
        · refine rn_iload_n (pc' := 109) rfl rfl rfl ?_
          refine rn_if_eq (t := 116) (pc' := 112) rfl rfl rfl (fun h3 => ?_) (fun h3 => ?_)
          · refine rn_iconst (pc' := 117) (v := 0) rfl rfl (by decide) ?_
            refine rn_zreturn rfl rfl (by decide) ?_
            refine ⟨?_, rfl⟩
            simp only [bI_0, Bool.not_eq_false] at *
            simp [orph, bI, *]
          · refine rn_iconst (pc' := 113) (v := 1) rfl rfl (by decide) ?_
            refine rn_goto (pc' := 117) rfl rfl ?_
            refine rn_zreturn rfl rfl (by decide) ?_
            refine ⟨?_, rfl⟩
            simp only [bI_0, Bool.not_eq_false] at *
            simp [orph, bI, *]
      · exact absurd ((lt24 (by omega)).mp h1) (by omega)
    | succ m ih =>
      intro i x5 hi
      have he : i < 24 := by omega
      have skip_ : oMem M g i = false → Rn (d + 1) 83 (98, [some (vR 20 0), some (vI g), some (vI (bI (oAny M g i))), some (vI (bI (oAll M g i))), some (vI (nI i)), x5], [], M) (fun r M' => r = some (vI (bI (orph M g))) ∧ M' = M) := by
        intro hm
        have := ih (i + 1) x5 (by omega)
        simp only [oAny, oAll, hm, Bool.or_false, Bool.not_false, Bool.true_or, Bool.and_true] at this
        refine rn_iinc (pc' := 101) rfl rfl rfl (nI_inc _) rfl (Nat.le_of_ble_eq_true rfl) rfl ?_
        refine rn_goto (pc' := 7) rfl rfl ?_
        exact this
      have key : oMem M g i = true → ∀ x, x = bI (oAll M g i && oOk M g i) → Rn (d + 1) 83 (97, [some (vR 20 0), some (vI g), some (vI 1), some (vI (bI (oAll M g i))), some (vI (nI i)), some (vI (oI (eo M (rpar M i))))], [vI x], M) (fun r M' => r = some (vI (bI (orph M g))) ∧ M' = M) := by
        intro hm x hx
        subst hx
        have := ih (i + 1) (some (vI (oI (eo M (rpar M i))))) (by omega)
        simp only [oAny, oAll, hm, Bool.or_true, Bool.not_true, Bool.false_or] at this
        refine rn_istore_n (pc' := 98) rfl rfl rfl (Nat.le_of_ble_eq_true rfl) rfl ?_
        refine rn_iinc (pc' := 101) rfl rfl rfl (nI_inc _) rfl (Nat.le_of_ble_eq_true rfl) rfl ?_
        refine rn_goto (pc' := 7) rfl rfl ?_
        exact this
      have mid : oMem M g i = true → Rn (d + 1) 83 (46, [some (vR 20 0), some (vI g), some (vI (bI (oAny M g i))), some (vI (bI (oAll M g i))), some (vI (nI i)), x5], [], M) (fun r M' => r = some (vI (bI (orph M g))) ∧ M' = M) := by
        intro hm
        have ho := oI_neg (o := eo M (rpar M i)) (fun e h => eo_lt h)
        cases h : eo M (rpar M i) with
        | none =>
          refine rn_iconst (pc' := 47) (v := 1) rfl rfl (by decide) ?_
          refine rn_istore_n (pc' := 48) rfl rfl rfl (Nat.le_of_ble_eq_true rfl) rfl ?_
          refine rn_aload_n (pc' := 49) rfl rfl rfl ?_
          refine rn_aload_n (pc' := 50) rfl rfl rfl ?_
          refine rn_getF (N := 1) (t' := 26) (pc' := 53) rfl rfl rfl rfl rfl (by first | assumption | decide | omega) ?_
          refine rn_iload (pc' := 55) rfl rfl rfl ?_
          refine rn_iald (N := 1) (K := 24) (pc' := 56) rfl rfl ⟨rfl, rfl⟩ rfl (by first | assumption | decide | omega) rfl (by decide) rfl (by first | assumption | decide | omega) ?_
          refine rn_callV (pc' := 59) (as := [_]) rfl rfl rfl ⟨Nat.le_of_ble_eq_true rfl, rfl, rfl⟩ rfl (by first | assumption | decide | omega) (Nat.le_of_ble_eq_true rfl) (Nat.le_of_ble_eq_true rfl) rfl (r_entryOf M (rpar M i)) (fun r1 M1 hz => ?_)
          obtain ⟨rfl, hm_⟩ := hz
          refine rn_mem hm_ ?_
          clear hm_
          refine rn_istore (pc' := 61) rfl rfl rfl (Nat.le_of_ble_eq_true rfl) rfl ?_
          refine rn_iload_n (pc' := 62) rfl rfl rfl ?_
          refine rn_if_eq (t := 96) (pc' := 65) rfl rfl rfl (fun h2 => ?_) (fun h2 => ?_)
          · refine rn_iconst (pc' := 97) (v := 0) rfl rfl (by decide) ?_
            refine key hm _ ?_
            simp only [bI_0, Bool.not_eq_false] at *
            simp [oOk, rpar, bI, *]
          · refine rn_aload_n (pc' := 66) rfl rfl rfl ?_
            refine rn_getF (N := 1) (t' := 26) (pc' := 69) rfl rfl rfl rfl rfl (by first | assumption | decide | omega) ?_
            refine rn_iload (pc' := 71) rfl rfl rfl ?_
            refine rn_iald (N := 1) (K := 24) (pc' := 72) rfl rfl ⟨rfl, rfl⟩ rfl (by first | assumption | decide | omega) rfl (by decide) rfl (by first | assumption | decide | omega) ?_
            refine rn_iconst (pc' := 73) (v := 1) rfl rfl (by decide) ?_
            refine rn_ic_eq (t := 92) (pc' := 76) rfl rfl rfl (fun h3 => ?_) (fun h3 => ?_)
            · refine rn_iconst (pc' := 93) (v := 1) rfl rfl (by decide) ?_
              refine rn_goto (pc' := 97) rfl rfl ?_
              refine key hm _ ?_
              simp only [bI_0, Bool.not_eq_false] at *
              simp [oOk, rpar, bI, *]
            · refine rn_iload (pc' := 78) rfl rfl rfl ?_
              refine rn_if_lt (t := 96) (pc' := 81) rfl rfl rfl (fun h4 => ?_) (fun h4 => ?_)
              · refine rn_iconst (pc' := 97) (v := 0) rfl rfl (by decide) ?_
                refine key hm _ ?_
                simp only [bI_0, Bool.not_eq_false] at *
                simp [oOk, rpar, bI, *]
              · exact absurd (ho.mpr h) ‹_›
        | some e =>
          have hee := eo_lt h
          refine rn_iconst (pc' := 47) (v := 1) rfl rfl (by decide) ?_
          refine rn_istore_n (pc' := 48) rfl rfl rfl (Nat.le_of_ble_eq_true rfl) rfl ?_
          refine rn_aload_n (pc' := 49) rfl rfl rfl ?_
          refine rn_aload_n (pc' := 50) rfl rfl rfl ?_
          refine rn_getF (N := 1) (t' := 26) (pc' := 53) rfl rfl rfl rfl rfl (by first | assumption | decide | omega) ?_
          refine rn_iload (pc' := 55) rfl rfl rfl ?_
          refine rn_iald (N := 1) (K := 24) (pc' := 56) rfl rfl ⟨rfl, rfl⟩ rfl (by first | assumption | decide | omega) rfl (by decide) rfl (by first | assumption | decide | omega) ?_
          refine rn_callV (pc' := 59) (as := [_]) rfl rfl rfl ⟨Nat.le_of_ble_eq_true rfl, rfl, rfl⟩ rfl (by first | assumption | decide | omega) (Nat.le_of_ble_eq_true rfl) (Nat.le_of_ble_eq_true rfl) rfl (r_entryOf M (rpar M i)) (fun r1 M1 hz => ?_)
          obtain ⟨rfl, hm_⟩ := hz
          refine rn_mem hm_ ?_
          clear hm_
          refine rn_istore (pc' := 61) rfl rfl rfl (Nat.le_of_ble_eq_true rfl) rfl ?_
          refine rn_iload_n (pc' := 62) rfl rfl rfl ?_
          refine rn_if_eq (t := 96) (pc' := 65) rfl rfl rfl (fun h2 => ?_) (fun h2 => ?_)
          · refine rn_iconst (pc' := 97) (v := 0) rfl rfl (by decide) ?_
            first | exact absurd (ho.mp h4) (by simp [h]) | (refine key hm _ ?_; simp only [bI_0, Bool.not_eq_false] at *; simp [oOk, rpar, bI, *])
          · refine rn_aload_n (pc' := 66) rfl rfl rfl ?_
            refine rn_getF (N := 1) (t' := 26) (pc' := 69) rfl rfl rfl rfl rfl (by first | assumption | decide | omega) ?_
            refine rn_iload (pc' := 71) rfl rfl rfl ?_
            refine rn_iald (N := 1) (K := 24) (pc' := 72) rfl rfl ⟨rfl, rfl⟩ rfl (by first | assumption | decide | omega) rfl (by decide) rfl (by first | assumption | decide | omega) ?_
            refine rn_iconst (pc' := 73) (v := 1) rfl rfl (by decide) ?_
            refine rn_ic_eq (t := 92) (pc' := 76) rfl rfl rfl (fun h3 => ?_) (fun h3 => ?_)
            · refine rn_iconst (pc' := 93) (v := 1) rfl rfl (by decide) ?_
              refine rn_goto (pc' := 97) rfl rfl ?_
              first | exact absurd (ho.mp h4) (by simp [h]) | (refine key hm _ ?_; simp only [bI_0, Bool.not_eq_false] at *; simp [oOk, rpar, bI, *])
            · refine rn_iload (pc' := 78) rfl rfl rfl ?_
              refine rn_if_lt (t := 96) (pc' := 81) rfl rfl rfl (fun h4 => ?_) (fun h4 => ?_)
              · refine rn_iconst (pc' := 97) (v := 0) rfl rfl (by decide) ?_
                first | exact absurd (ho.mp h4) (by simp [h]) | (refine key hm _ ?_; simp only [bI_0, Bool.not_eq_false] at *; simp [oOk, rpar, bI, *])
              · refine rn_aload_n (pc' := 82) rfl rfl rfl ?_
                refine rn_getF (N := 1) (t' := 27) (pc' := 85) rfl rfl rfl rfl rfl (by first | assumption | decide | omega) ?_
                refine rn_iload (pc' := 87) rfl rfl rfl ?_
                refine rn_iald (k := e) (N := 1) (K := 24) (pc' := 88) rfl rfl ⟨rfl, rfl⟩ rfl (by first | assumption | decide | omega) rfl (by decide) (show oI (eo M (rpar M i)) = nI e by rw [h]; rfl) (by first | assumption | decide | omega) ?_
                refine rn_iload_n (pc' := 89) rfl rfl rfl ?_
                refine rn_ic_ne (t := 96) (pc' := 92) rfl rfl rfl (fun h5 => ?_) (fun h5 => ?_)
                · refine rn_iconst (pc' := 97) (v := 0) rfl rfl (by decide) ?_
                  first | exact absurd (ho.mp h4) (by simp [h]) | (refine key hm _ ?_; simp only [bI_0, Bool.not_eq_false] at *; simp [oOk, rpar, bI, *])
                · refine rn_iconst (pc' := 93) (v := 1) rfl rfl (by decide) ?_
                  refine rn_goto (pc' := 97) rfl rfl ?_
                  first | exact absurd (ho.mp h4) (by simp [h]) | (refine key hm _ ?_; simp only [bI_0, Bool.not_eq_false] at *; simp [oOk, rpar, bI, *])
      refine rn_iload (pc' := 9) rfl rfl rfl ?_
      refine rn_bipush (pc' := 11) (v := 24) rfl rfl (by decide) ?_
      refine rn_ic_ge (t := 104) (pc' := 14) rfl rfl rfl (fun h1 => ?_) (fun h1 => ?_)
      · exact absurd ((lt24 (by omega)).mpr he) h1
      · refine rn_aload_n (pc' := 15) rfl rfl rfl ?_
        refine rn_getF (N := 1) (t' := 25) (pc' := 18) rfl rfl rfl rfl rfl (by first | assumption | decide | omega) ?_
        refine rn_iload (pc' := 20) rfl rfl rfl ?_
        refine rn_iald (N := 1) (K := 24) (pc' := 21) rfl rfl ⟨rfl, rfl⟩ rfl (by first | assumption | decide | omega) rfl (by decide) rfl (by first | assumption | decide | omega) ?_
        refine rn_if_le (t := 98) (pc' := 24) rfl rfl rfl (fun h2 => ?_) (fun h2 => ?_)
        · refine skip_ ?_
          simp [oMem, rpid, rgrp, rste, *]
        · refine rn_aload_n (pc' := 25) rfl rfl rfl ?_
          refine rn_getF (N := 1) (t' := 27) (pc' := 28) rfl rfl rfl rfl rfl (by first | assumption | decide | omega) ?_
          refine rn_iload (pc' := 30) rfl rfl rfl ?_
          refine rn_iald (N := 1) (K := 24) (pc' := 31) rfl rfl ⟨rfl, rfl⟩ rfl (by first | assumption | decide | omega) rfl (by decide) rfl (by first | assumption | decide | omega) ?_
          refine rn_iload_n (pc' := 32) rfl rfl rfl ?_
          refine rn_ic_ne (t := 98) (pc' := 35) rfl rfl rfl (fun h3 => ?_) (fun h3 => ?_)
          · refine skip_ ?_
            simp [oMem, rpid, rgrp, rste, *]
          · refine rn_aload_n (pc' := 36) rfl rfl rfl ?_
            refine rn_getF (N := 1) (t' := 28) (pc' := 39) rfl rfl rfl rfl rfl (by first | assumption | decide | omega) ?_
            refine rn_iload (pc' := 41) rfl rfl rfl ?_
            refine rn_iald (N := 1) (K := 24) (pc' := 42) rfl rfl ⟨rfl, rfl⟩ rfl (by first | assumption | decide | omega) rfl (by decide) rfl (by first | assumption | decide | omega) ?_
            refine rn_iconst (pc' := 43) (v := 4) rfl rfl (by decide) ?_
            refine rn_ic_eq (t := 98) (pc' := 46) rfl rfl rfl (fun h4 => ?_) (fun h4 => ?_)
            · refine skip_ ?_
              simp [oMem, rpid, rgrp, rste, *]
            · refine mid ?_
              simp [oMem, rpid, rgrp, rste, *]
  show Rn _ 83 (0, [some (vR 20 0), some (vI g), none, none, none, none], [], _) _
  refine rn_iconst (pc' := 1) (v := 0) rfl rfl (by decide) ?_
  refine rn_istore_n (pc' := 2) rfl rfl rfl (Nat.le_of_ble_eq_true rfl) rfl ?_
  refine rn_iconst (pc' := 3) (v := 1) rfl rfl (by decide) ?_
  refine rn_istore_n (pc' := 4) rfl rfl rfl (Nat.le_of_ble_eq_true rfl) rfl ?_
  refine rn_iconst (pc' := 5) (v := 0) rfl rfl (by decide) ?_
  refine rn_istore (pc' := 7) rfl rfl rfl (Nat.le_of_ble_eq_true rfl) rfl ?_
  exact loop 24 0 none (by omega)
