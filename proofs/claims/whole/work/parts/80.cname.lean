theorem c_parentOf {d n e : Nat} {D N : xM} (h : Inv D N n) (he : e < 24) (hl : 0 < N.1 25 0 e) : Rn d 43 (0, xen 43 [vR 0 e], [], D) (fun r C' => r = some (vI (N.1 26 0 e)) ∧ C' = D) := by
  rcases h.1.2.2.2.2.2.2.2.2.1 e he hl with ⟨q1, q2, q3⟩ | ⟨q1, q, q2, q3, q4, q5, q6, q7⟩
  · rw [q3]
    show Rn _ 43 (0, [some (vR 0 e)], [], _) _
    refine rn_aload_n (pc' := 1) rfl rfl rfl ?_
    refine rn_getV (N := 24) (t' := 0) (pc' := 4) rfl rfl rfl rfl (by decide) rfl (by first | assumption | decide | omega) ?_
    refine rn_topO q2 ?_
    refine rn_ifnonnull (t := 11) (pc' := 7) rfl rfl rfl (fun h1 => ?_) (fun h1 => ?_)
    · exact absurd rfl h1
    · refine rn_iconst (pc' := 8) (v := 0) rfl rfl (by decide) ?_
      refine rn_goto (pc' := 18) rfl rfl ?_
      refine rn_ireturn rfl rfl ?_
      exact ⟨rfl, rfl⟩
  · have v0 : D.1 0 q 0 = N.1 25 0 q := f1 h.1.1 q2 (by decide)
    rw [q7]
    show Rn _ 43 (0, [some (vR 0 e)], [], _) _
    refine rn_aload_n (pc' := 1) rfl rfl rfl ?_
    refine rn_getV (N := 24) (t' := 0) (pc' := 4) rfl rfl rfl rfl (by decide) rfl (by first | assumption | decide | omega) ?_
    refine rn_topO q4 ?_
    refine rn_ifnonnull (t := 11) (pc' := 7) rfl rfl rfl (fun h1 => ?_) (fun h1 => ?_)
    · refine rn_aload_n (pc' := 12) rfl rfl rfl ?_
      refine rn_getV (N := 24) (t' := 0) (pc' := 15) rfl rfl rfl rfl (by decide) rfl (by first | assumption | decide | omega) ?_
      refine rn_topO q4 ?_
      refine rn_getI (N := 24) (pc' := 18) rfl rfl rfl rfl (by decide) rfl (by first | assumption | decide | omega) ?_
      refine rn_topI v0 ?_
      refine rn_ireturn rfl rfl ?_
      exact ⟨rfl, rfl⟩
    · exact nomatch h1
theorem c_join {d e t ja jb : Nat} {D N : xM} (h : Cx e t D N) (hja : ja < 8) : Rn (d + 1) 58 (0, xen 58 [vR 9 0, vR 0 e, vI (N.1 31 0 (8 * e + ja)), vI (N.1 31 0 (8 * e + jb))], [], D) (fun r C' => ∃ v, r = some (vI v) ∧ AP e (N.1 25 0 e) (t + 1) (mI C' 1 e ja v) (f_join N e ja jb)) := by
  have he := h.1
  obtain ⟨v, hv⟩ : ∃ v, v = N.1 31 0 (8 * e + ja) := ⟨_, rfl⟩
  obtain ⟨w, hw⟩ : ∃ w, w = N.1 31 0 (8 * e + jb) := ⟨_, rfl⟩
  unfold f_join
  rw [← hv, ← hw]
  have s100 : ∀ (k : Nat) (g : Int32), k < 24 → 0 < N.1 25 0 k → (g = N.1 25 0 k ∨ gmF N g 24 = true) → Rn (d + 1) 58 (100, [some (vR 9 0), some (vR 0 e), some (vI v), some (vI w), some (vR 0 k), some (vI g)], [], D) (fun r C' => ∃ v, r = some (vI v) ∧ AP e (N.1 25 0 e) (t + 1) (mI C' 1 e ja v) (f_join2 N e ja k g)) := by
    intro k g hk hl hg
    have ef : f_join2 N e ja k g = mI (mI N 27 0 k g) 31 0 (8 * e + ja) 0 := by
      unfold f_join2
      rw [if_pos]
      rcases hg with q | q
      · rw [q]; simp
      · rw [q]; simp
    rw [ef]
    obtain ⟨x, x1, x2, x3⟩ : ∃ x, 1 ≤ x ∧ x < 1000 ∧ g = nI x := by
      rcases hg with q | q
      · rcases h.2.1.2.2.1 k hk with z | ⟨p, p1, p2, p3⟩
        · rw [z] at hl; exact absurd hl (by decide)
        · exact ⟨p, p1, by omega, q.trans p3⟩
      · obtain ⟨j, j1, j2, j3⟩ := (gm_iff N g 24).mp q
        obtain ⟨x, y1, y2, y3⟩ := h.2.1.2.2.2.2.2.1 j j1 j2
        exact ⟨x, y1, y2, j3.symm.trans y3⟩
    have i1 := Inv_fld (e := k) (k := 2) (t := 27) (v := g) h.2.1 (by decide) (by decide) (by decide) (fun z => absurd z (by decide)) (by rw [x3]; exact IR_grp h.2.1.2.2 x1 x2)
    have i2 := Inv_reg (e := e) (v := 0) i1 hja
    have hAP := AP_of (e := e) (p := N.1 25 0 e) (t := t + 1) i2 (by omega) h.2.2.2.2.1 h.tm rfl h.n4
    refine rn_aload (pc' := 102) rfl rfl rfl ?_
    refine rn_iload (pc' := 104) rfl rfl rfl ?_
    refine rn_putI (N := 24) (pc' := 107) rfl rfl rfl rfl rfl (by first | assumption | decide | omega) ?_
    refine rn_iconst (pc' := 108) (v := 0) rfl rfl (by decide) ?_
    refine rn_ireturn rfl rfl ?_
    exact ⟨0, rfl, hAP⟩
  have s79 : ∀ (k : Nat) (g : Int32), k < 24 → 0 < N.1 25 0 k → Rn (d + 1) 58 (79, [some (vR 9 0), some (vR 0 e), some (vI v), some (vI w), some (vR 0 k), some (vI g)], [], D) (fun r C' => ∃ v, r = some (vI v) ∧ AP e (N.1 25 0 e) (t + 1) (mI C' 1 e ja v) (f_join2 N e ja k g)) := by
    intro k g hk hl
    have v0 : D.1 0 k 0 = N.1 25 0 k := f1 h.2.1.1.1 hk (by decide)
    have s100 := s100 k g hk hl
    by_cases q1 : g = N.1 25 0 k
    · have s100 := s100 (Or.inl q1)
      refine rn_iload (pc' := 81) rfl rfl rfl ?_
      refine rn_aload (pc' := 83) rfl rfl rfl ?_
      refine rn_getI (N := 24) (pc' := 86) rfl rfl rfl rfl (by decide) rfl (by first | assumption | decide | omega) ?_
      refine rn_ic_eq (t := 100) (pc' := 89) rfl rfl rfl (fun h1 => ?_) (fun h1 => ?_)
      · exact s100
      · exact absurd (q1.trans v0.symm) h1
    · have hg := c_isGroup (d := d) g h.2.1
      by_cases q2 : gmF N g 24 = true
      · have s100 := s100 (Or.inr q2)
        rw [q2] at hg
        refine rn_iload (pc' := 81) rfl rfl rfl ?_
        refine rn_aload (pc' := 83) rfl rfl rfl ?_
        refine rn_getI (N := 24) (pc' := 86) rfl rfl rfl rfl (by decide) rfl (by first | assumption | decide | omega) ?_
        refine rn_ic_eq (t := 100) (pc' := 89) rfl rfl rfl (fun h1 => ?_) (fun h1 => ?_)
        · exact s100
        · refine rn_aload_n (pc' := 90) rfl rfl rfl ?_
          refine rn_iload (pc' := 92) rfl rfl rfl ?_
          refine rn_callV (pc' := 95) (as := [_]) rfl rfl rfl ⟨Nat.le_of_ble_eq_true rfl, rfl, rfl⟩ rfl (by first | assumption | decide | omega) (Nat.le_of_ble_eq_true rfl) (Nat.le_of_ble_eq_true rfl) rfl hg (fun r2 M2 hz => ?_)
          obtain ⟨rfl, hm_⟩ := hz
          refine rn_mem hm_ ?_
          clear hm_
          refine rn_if_ne (t := 100) (pc' := 98) rfl rfl rfl (fun h2 => ?_) (fun h2 => ?_)
          · exact s100
          · exact absurd h2 (by decide)
      · have q2' : gmF N g 24 = false := by simpa using q2
        rw [q2'] at hg
        have ef : f_join2 N e ja k g = mI N 31 0 (8 * e + ja) (-1) := by
          unfold f_join2
          rw [q2', decide_eq_false (show ¬ g = rpid N k from q1)]
          rfl
        rw [ef]
        refine rn_iload (pc' := 81) rfl rfl rfl ?_
        refine rn_aload (pc' := 83) rfl rfl rfl ?_
        refine rn_getI (N := 24) (pc' := 86) rfl rfl rfl rfl (by decide) rfl (by first | assumption | decide | omega) ?_
        refine rn_ic_eq (t := 100) (pc' := 89) rfl rfl rfl (fun h1 => ?_) (fun h1 => ?_)
        · first | exact absurd (h1.trans v0) q1 | exact absurd rfl h2
        · refine rn_aload_n (pc' := 90) rfl rfl rfl ?_
          refine rn_iload (pc' := 92) rfl rfl rfl ?_
          refine rn_callV (pc' := 95) (as := [_]) rfl rfl rfl ⟨Nat.le_of_ble_eq_true rfl, rfl, rfl⟩ rfl (by first | assumption | decide | omega) (Nat.le_of_ble_eq_true rfl) (Nat.le_of_ble_eq_true rfl) rfl hg (fun r2 M2 hz => ?_)
          obtain ⟨rfl, hm_⟩ := hz
          refine rn_mem hm_ ?_
          clear hm_
          refine rn_if_ne (t := 100) (pc' := 98) rfl rfl rfl (fun h2 => ?_) (fun h2 => ?_)
          · first | exact absurd (h1.trans v0) q1 | exact absurd rfl h2
          · refine rn_iconst (pc' := 99) (v := (-1)) rfl rfl (by decide) ?_
            refine rn_ireturn rfl rfl ?_
            exact ⟨-1, rfl, AP_reg h hja⟩
  have s64 : ∀ (k : Nat) (x5 : Option xV), k < 24 → 0 < N.1 25 0 k → Rn (d + 1) 58 (64, [some (vR 9 0), some (vR 0 e), some (vI v), some (vI w), some (vR 0 k), x5], [], D) (fun r C' => ∃ v, r = some (vI v) ∧ AP e (N.1 25 0 e) (t + 1) (mI C' 1 e ja v) (f_join2 N e ja k (if w = 0 then rpid N k else w))) := by
    intro k x5 hk hl
    have v0 : D.1 0 k 0 = N.1 25 0 k := f1 h.2.1.1.1 hk (by decide)
    by_cases q : w = 0
    · rw [if_pos q]
      have := s79 k (N.1 25 0 k) hk hl
      refine rn_iload_n (pc' := 65) rfl rfl rfl ?_
      refine rn_if_ne (t := 76) (pc' := 68) rfl rfl rfl (fun h1 => ?_) (fun h1 => ?_)
      · exact absurd q h1
      · refine rn_aload (pc' := 70) rfl rfl rfl ?_
        refine rn_getI (N := 24) (pc' := 73) rfl rfl rfl rfl (by decide) rfl (by first | assumption | decide | omega) ?_
        refine rn_topI v0 ?_
        refine rn_goto (pc' := 77) rfl rfl ?_
        refine rn_istore (pc' := 79) rfl rfl rfl (Nat.le_of_ble_eq_true rfl) rfl ?_
        exact this
    · rw [if_neg q]
      have := s79 k w hk hl
      refine rn_iload_n (pc' := 65) rfl rfl rfl ?_
      refine rn_if_ne (t := 76) (pc' := 68) rfl rfl rfl (fun h1 => ?_) (fun h1 => ?_)
      · refine rn_iload_n (pc' := 77) rfl rfl rfl ?_
        refine rn_istore (pc' := 79) rfl rfl rfl (Nat.le_of_ble_eq_true rfl) rfl ?_
        exact this
      · exact absurd h1 q
  have s15 : ∀ (ko : Option Nat), (∀ k, ko = some k → k < 24 ∧ 0 < N.1 25 0 k) → Rn (d + 1) 58 (15, [some (vR 9 0), some (vR 0 e), some (vI v), some (vI w), some (vO 0 ko), none], [], D) (fun r C' => ∃ v, r = some (vI v) ∧ AP e (N.1 25 0 e) (t + 1) (mI C' 1 e ja v) (f_joinK N e ja jb ko)) := by
    intro ko hko
    cases hk : ko with
    | none =>
      have ef : f_joinK N e ja jb none = mI N 31 0 (8 * e + ja) (-3) := rfl
      rw [ef]
      refine rn_aload (pc' := 17) rfl rfl rfl ?_
      refine rn_ifnull (t := 44) (pc' := 20) rfl rfl rfl (fun h1 => ?_) (fun h1 => ?_)
      · refine rn_bipush (pc' := 46) (v := (-3)) rfl rfl (by decide) ?_
        refine rn_ireturn rfl rfl ?_
        exact ⟨-3, rfl, AP_reg h hja⟩
      · exact absurd rfl h1
    | some k =>
      obtain ⟨hk24, hlk⟩ := hko k hk
      have s64 := s64 k none hk24 hlk
      have v17 : D.1 0 k 17 = N.1 42 0 k := f1 h.2.1.1.1 hk24 (by decide)
      have v3 : D.1 0 k 3 = N.1 28 0 k := f1 h.2.1.1.1 hk24 (by decide)
      have ef : f_joinK N e ja jb (some k) = if ¬ k = e ∧ (¬ rpar N k = rpid N e ∨ rste N k = 4) then mI N 31 0 (8 * e + ja) (-3) else if ¬ k = e ∧ ¬ N.1 42 0 k = 0 then mI N 31 0 (8 * e + ja) (-13) else f_join2 N e ja k (if w = 0 then rpid N k else w) := by rw [hw]; rfl
      rw [ef]
      by_cases hke : k = e
      · rw [if_neg (fun z => z.1 hke), if_neg (fun z => z.1 hke)]
        subst hke
        refine rn_aload (pc' := 17) rfl rfl rfl ?_
        refine rn_ifnull (t := 44) (pc' := 20) rfl rfl rfl (fun h1 => ?_) (fun h1 => ?_)
        · exact nomatch h1
        · refine rn_aload (pc' := 22) rfl rfl rfl ?_
          refine rn_aload_n (pc' := 23) rfl rfl rfl ?_
          refine rn_ac_eq (t := 47) (pc' := 26) rfl rfl rfl (decide_eq_true hk24) (decide_eq_true hk24) (fun h2 => ?_) (fun h2 => ?_)
          · refine rn_aload (pc' := 49) rfl rfl rfl ?_
            refine rn_aload_n (pc' := 50) rfl rfl rfl ?_
            refine rn_ac_eq (t := 64) (pc' := 53) rfl rfl rfl (decide_eq_true hk24) (decide_eq_true hk24) (fun h3 => ?_) (fun h3 => ?_)
            · exact s64
            · exact absurd rfl h3
          · exact absurd rfl h2
      · have hke2 : ∀ {P : Prop}, (some ((0 : Nat), k) : Option (Nat × Nat)) = some (0, e) → P := fun z => absurd (congrArg Prod.snd (Option.some.inj z)) hke
        have ch := ch_iff h.2.1 he h.2.2.1 hk24 hlk
        have m3 : Rn (d + 1) 58 (44, [some (vR 9 0), some (vR 0 e), some (vI v), some (vI w), some (vR 0 k), none], [], D) (fun r C' => ∃ v, r = some (vI v) ∧ AP e (N.1 25 0 e) (t + 1) (mI C' 1 e ja v) (mI N 31 0 (8 * e + ja) (-3))) := by
          refine rn_bipush (pc' := 46) (v := (-3)) rfl rfl (by decide) ?_
          refine rn_ireturn rfl rfl ?_
          exact ⟨-3, rfl, AP_reg h hja⟩
        by_cases hpar : rpar N k = rpid N e
        · have hpe : D.2.2 0 k 1 = some e := ch.mpr hpar
          by_cases hz : rste N k = 4
          · rw [if_pos ⟨hke, Or.inr hz⟩]
            refine rn_aload (pc' := 17) rfl rfl rfl ?_
            refine rn_ifnull (t := 44) (pc' := 20) rfl rfl rfl (fun h1 => ?_) (fun h1 => ?_)
            · first | exact m3 | exact nomatch h1
            · refine rn_aload (pc' := 22) rfl rfl rfl ?_
              refine rn_aload_n (pc' := 23) rfl rfl rfl ?_
              refine rn_ac_eq (t := 47) (pc' := 26) rfl rfl rfl (decide_eq_true hk24) (decide_eq_true he) (fun h2 => ?_) (fun h2 => ?_)
              · first | exact hke2 h2 | exact absurd (v3.trans hz) h4
              · refine rn_aload (pc' := 28) rfl rfl rfl ?_
                refine rn_getV (N := 24) (t' := 0) (pc' := 31) rfl rfl rfl rfl (by decide) rfl (by first | assumption | decide | omega) ?_
                refine rn_topO hpe ?_
                refine rn_aload_n (pc' := 32) rfl rfl rfl ?_
                refine rn_ac_ne (t := 44) (pc' := 35) rfl rfl rfl (decide_eq_true he) (decide_eq_true he) (fun h3 => ?_) (fun h3 => ?_)
                · first | exact m3 | exact nomatch h1
                · refine rn_aload (pc' := 37) rfl rfl rfl ?_
                  refine rn_getI (N := 24) (pc' := 40) rfl rfl rfl rfl (by decide) rfl (by first | assumption | decide | omega) ?_
                  refine rn_iconst (pc' := 41) (v := 4) rfl rfl (by decide) ?_
                  refine rn_ic_ne (t := 47) (pc' := 44) rfl rfl rfl (fun h4 => ?_) (fun h4 => ?_)
                  · first | exact hke2 h2 | exact absurd (v3.trans hz) h4
                  · first | exact m3 | exact nomatch h1
          · rw [if_neg (fun z => z.2.elim (fun y => y hpar) hz)]
            by_cases hx : N.1 42 0 k = 0
            · rw [if_neg (fun z => z.2 hx)]
              refine rn_aload (pc' := 17) rfl rfl rfl ?_
              refine rn_ifnull (t := 44) (pc' := 20) rfl rfl rfl (fun h1 => ?_) (fun h1 => ?_)
              · first | exact absurd rfl h3 | exact absurd (v3.symm.trans h4) hz | exact nomatch h1
              · refine rn_aload (pc' := 22) rfl rfl rfl ?_
                refine rn_aload_n (pc' := 23) rfl rfl rfl ?_
                refine rn_ac_eq (t := 47) (pc' := 26) rfl rfl rfl (decide_eq_true hk24) (decide_eq_true he) (fun h2 => ?_) (fun h2 => ?_)
                · refine rn_aload (pc' := 49) rfl rfl rfl ?_
                  refine rn_aload_n (pc' := 50) rfl rfl rfl ?_
                  refine rn_ac_eq (t := 64) (pc' := 53) rfl rfl rfl (decide_eq_true hk24) (decide_eq_true he) (fun h5 => ?_) (fun h5 => ?_)
                  · exact s64
                  · refine rn_aload (pc' := 55) rfl rfl rfl ?_
                    refine rn_getI (N := 24) (pc' := 58) rfl rfl rfl rfl (by decide) rfl (by first | assumption | decide | omega) ?_
                    refine rn_if_eq (t := 64) (pc' := 61) rfl rfl rfl (fun h6 => ?_) (fun h6 => ?_)
                    · exact s64
                    · exact absurd (v17.trans hx) h6
                · refine rn_aload (pc' := 28) rfl rfl rfl ?_
                  refine rn_getV (N := 24) (t' := 0) (pc' := 31) rfl rfl rfl rfl (by decide) rfl (by first | assumption | decide | omega) ?_
                  refine rn_topO hpe ?_
                  refine rn_aload_n (pc' := 32) rfl rfl rfl ?_
                  refine rn_ac_ne (t := 44) (pc' := 35) rfl rfl rfl (decide_eq_true he) (decide_eq_true he) (fun h3 => ?_) (fun h3 => ?_)
                  · first | exact absurd rfl h3 | exact absurd (v3.symm.trans h4) hz | exact nomatch h1
                  · refine rn_aload (pc' := 37) rfl rfl rfl ?_
                    refine rn_getI (N := 24) (pc' := 40) rfl rfl rfl rfl (by decide) rfl (by first | assumption | decide | omega) ?_
                    refine rn_iconst (pc' := 41) (v := 4) rfl rfl (by decide) ?_
                    refine rn_ic_ne (t := 47) (pc' := 44) rfl rfl rfl (fun h4 => ?_) (fun h4 => ?_)
                    · refine rn_aload (pc' := 49) rfl rfl rfl ?_
                      refine rn_aload_n (pc' := 50) rfl rfl rfl ?_
                      refine rn_ac_eq (t := 64) (pc' := 53) rfl rfl rfl (decide_eq_true hk24) (decide_eq_true he) (fun h5 => ?_) (fun h5 => ?_)
                      · exact s64
                      · refine rn_aload (pc' := 55) rfl rfl rfl ?_
                        refine rn_getI (N := 24) (pc' := 58) rfl rfl rfl rfl (by decide) rfl (by first | assumption | decide | omega) ?_
                        refine rn_if_eq (t := 64) (pc' := 61) rfl rfl rfl (fun h6 => ?_) (fun h6 => ?_)
                        · exact s64
                        · exact absurd (v17.trans hx) h6
                    · first | exact absurd rfl h3 | exact absurd (v3.symm.trans h4) hz | exact nomatch h1
            · rw [if_pos ⟨hke, hx⟩]
              refine rn_aload (pc' := 17) rfl rfl rfl ?_
              refine rn_ifnull (t := 44) (pc' := 20) rfl rfl rfl (fun h1 => ?_) (fun h1 => ?_)
              · first | exact absurd rfl h3 | exact absurd (v3.symm.trans h4) hz | exact nomatch h1
              · refine rn_aload (pc' := 22) rfl rfl rfl ?_
                refine rn_aload_n (pc' := 23) rfl rfl rfl ?_
                refine rn_ac_eq (t := 47) (pc' := 26) rfl rfl rfl (decide_eq_true hk24) (decide_eq_true he) (fun h2 => ?_) (fun h2 => ?_)
                · refine rn_aload (pc' := 49) rfl rfl rfl ?_
                  refine rn_aload_n (pc' := 50) rfl rfl rfl ?_
                  refine rn_ac_eq (t := 64) (pc' := 53) rfl rfl rfl (decide_eq_true hk24) (decide_eq_true he) (fun h5 => ?_) (fun h5 => ?_)
                  · first | exact hke2 h5 | exact absurd (v17.symm.trans h6) hx
                  · refine rn_aload (pc' := 55) rfl rfl rfl ?_
                    refine rn_getI (N := 24) (pc' := 58) rfl rfl rfl rfl (by decide) rfl (by first | assumption | decide | omega) ?_
                    refine rn_if_eq (t := 64) (pc' := 61) rfl rfl rfl (fun h6 => ?_) (fun h6 => ?_)
                    · first | exact hke2 h5 | exact absurd (v17.symm.trans h6) hx
                    · refine rn_bipush (pc' := 63) (v := (-13)) rfl rfl (by decide) ?_
                      refine rn_ireturn rfl rfl ?_
                      exact ⟨-13, rfl, AP_reg h hja⟩
                · refine rn_aload (pc' := 28) rfl rfl rfl ?_
                  refine rn_getV (N := 24) (t' := 0) (pc' := 31) rfl rfl rfl rfl (by decide) rfl (by first | assumption | decide | omega) ?_
                  refine rn_topO hpe ?_
                  refine rn_aload_n (pc' := 32) rfl rfl rfl ?_
                  refine rn_ac_ne (t := 44) (pc' := 35) rfl rfl rfl (decide_eq_true he) (decide_eq_true he) (fun h3 => ?_) (fun h3 => ?_)
                  · first | exact absurd rfl h3 | exact absurd (v3.symm.trans h4) hz | exact nomatch h1
                  · refine rn_aload (pc' := 37) rfl rfl rfl ?_
                    refine rn_getI (N := 24) (pc' := 40) rfl rfl rfl rfl (by decide) rfl (by first | assumption | decide | omega) ?_
                    refine rn_iconst (pc' := 41) (v := 4) rfl rfl (by decide) ?_
                    refine rn_ic_ne (t := 47) (pc' := 44) rfl rfl rfl (fun h4 => ?_) (fun h4 => ?_)
                    · refine rn_aload (pc' := 49) rfl rfl rfl ?_
                      refine rn_aload_n (pc' := 50) rfl rfl rfl ?_
                      refine rn_ac_eq (t := 64) (pc' := 53) rfl rfl rfl (decide_eq_true hk24) (decide_eq_true he) (fun h5 => ?_) (fun h5 => ?_)
                      · first | exact hke2 h5 | exact absurd (v17.symm.trans h6) hx
                      · refine rn_aload (pc' := 55) rfl rfl rfl ?_
                        refine rn_getI (N := 24) (pc' := 58) rfl rfl rfl rfl (by decide) rfl (by first | assumption | decide | omega) ?_
                        refine rn_if_eq (t := 64) (pc' := 61) rfl rfl rfl (fun h6 => ?_) (fun h6 => ?_)
                        · first | exact hke2 h5 | exact absurd (v17.symm.trans h6) hx
                        · refine rn_bipush (pc' := 63) (v := (-13)) rfl rfl (by decide) ?_
                          refine rn_ireturn rfl rfl ?_
                          exact ⟨-13, rfl, AP_reg h hja⟩
                    · first | exact absurd rfl h3 | exact absurd (v3.symm.trans h4) hz | exact nomatch h1
        · rw [if_pos ⟨hke, Or.inl hpar⟩]
          rcases h.2.1.1.2.2.2.2.2.2.2.2.1 k hk24 hlk with ⟨q1, q2, q3⟩ | ⟨q1, q, q2, q3, q4, q5, q6, q7⟩
          · refine rn_aload (pc' := 17) rfl rfl rfl ?_
            refine rn_ifnull (t := 44) (pc' := 20) rfl rfl rfl (fun h1 => ?_) (fun h1 => ?_)
            · first | exact m3 | exact nomatch h1
            · refine rn_aload (pc' := 22) rfl rfl rfl ?_
              refine rn_aload_n (pc' := 23) rfl rfl rfl ?_
              refine rn_ac_eq (t := 47) (pc' := 26) rfl rfl rfl (decide_eq_true hk24) (decide_eq_true he) (fun h2 => ?_) (fun h2 => ?_)
              · exact hke2 h2
              · refine rn_aload (pc' := 28) rfl rfl rfl ?_
                refine rn_getV (N := 24) (t' := 0) (pc' := 31) rfl rfl rfl rfl (by decide) rfl (by first | assumption | decide | omega) ?_
                refine rn_topO q2 ?_
                refine rn_aload_n (pc' := 32) rfl rfl rfl ?_
                refine rn_ac_ne (t := 44) (pc' := 35) rfl rfl rfl rfl (decide_eq_true he) (fun h3 => ?_) (fun h3 => ?_)
                · first | exact m3 | exact nomatch h1
                · exact nomatch h3
          · have hqe : ¬ q = e := fun z => hpar (ch.mp (by rw [← z]; exact q4))
            refine rn_aload (pc' := 17) rfl rfl rfl ?_
            refine rn_ifnull (t := 44) (pc' := 20) rfl rfl rfl (fun h1 => ?_) (fun h1 => ?_)
            · first | exact m3 | exact nomatch h1
            · refine rn_aload (pc' := 22) rfl rfl rfl ?_
              refine rn_aload_n (pc' := 23) rfl rfl rfl ?_
              refine rn_ac_eq (t := 47) (pc' := 26) rfl rfl rfl (decide_eq_true hk24) (decide_eq_true he) (fun h2 => ?_) (fun h2 => ?_)
              · exact hke2 h2
              · refine rn_aload (pc' := 28) rfl rfl rfl ?_
                refine rn_getV (N := 24) (t' := 0) (pc' := 31) rfl rfl rfl rfl (by decide) rfl (by first | assumption | decide | omega) ?_
                refine rn_topO q4 ?_
                refine rn_aload_n (pc' := 32) rfl rfl rfl ?_
                refine rn_ac_ne (t := 44) (pc' := 35) rfl rfl rfl (decide_eq_true q2) (decide_eq_true he) (fun h3 => ?_) (fun h3 => ?_)
                · first | exact m3 | exact nomatch h1
                · exact absurd (congrArg Prod.snd (Option.some.inj h3)) hqe
  show Rn _ 58 (0, [some (vR 9 0), some (vR 0 e), some (vI v), some (vI w), none, none], [], _) _
  by_cases hz : v = 0
  · rw [if_pos hz]
    have := s15 (some e) (fun k q => by cases q; exact ⟨he, h.2.2.1⟩)
    refine rn_iload_n (pc' := 1) rfl rfl rfl ?_
    refine rn_if_ne (t := 8) (pc' := 4) rfl rfl rfl (fun h1 => ?_) (fun h1 => ?_)
    · exact absurd hz h1
    · refine rn_aload_n (pc' := 5) rfl rfl rfl ?_
      refine rn_goto (pc' := 13) rfl rfl ?_
      refine rn_astore (pc' := 15) rfl rfl rfl (Nat.le_of_ble_eq_true rfl) rfl ?_
      exact this
  · rw [if_neg hz]
    have := s15 (eo N v) (fun k q => by
      obtain ⟨z1, z2, z3⟩ := eoF_some q
      exact ⟨z1, by rw [show N.1 25 0 k = v from z3]; exact z2⟩)
    have hfind := c_find (d := d) v h.2.1.1.1 h.2.1.2.2.2.1
    refine rn_iload_n (pc' := 1) rfl rfl rfl ?_
    refine rn_if_ne (t := 8) (pc' := 4) rfl rfl rfl (fun h1 => ?_) (fun h1 => ?_)
    · refine rn_aload_n (pc' := 9) rfl rfl rfl ?_
      refine rn_iload_n (pc' := 10) rfl rfl rfl ?_
      refine rn_callV (pc' := 13) (as := [_]) rfl rfl rfl ⟨Nat.le_of_ble_eq_true rfl, rfl, rfl⟩ rfl (by first | assumption | decide | omega) (Nat.le_of_ble_eq_true rfl) (Nat.le_of_ble_eq_true rfl) rfl hfind (fun r2 M2 hz => ?_)
      obtain ⟨rfl, hm_⟩ := hz
      refine rn_mem hm_ ?_
      clear hm_
      refine rn_astore (pc' := 15) rfl rfl rfl (Nat.le_of_ble_eq_true rfl) rfl ?_
      exact this
    · exact absurd h1 hz
theorem c_nmPre {d e ja : Nat} {D : xM} (Z : Option xV → xM → Prop) (op a b : Int32) (ha : a &&& 7 = nI ja) (k : Rn (d + 1) 42 (7, [some (vR 9 0), some (vR 0 e), some (vI op), some (vI a), some (vI b), some (vI (nI ja))], [vI op], D) Z) : Rn (d + 1) 42 (0, xen 42 [vR 9 0, vR 0 e, vI op, vI a, vI b], [], D) Z := by
  show Rn _ 42 (0, [some (vR 9 0), some (vR 0 e), some (vI op), some (vI a), some (vI b), none], [], _) _
  refine rn_iload_n (pc' := 1) rfl rfl rfl ?_
  refine rn_callS (pc' := 4) (as := [_]) rfl rfl rfl ⟨rfl, rfl, rfl⟩ (Nat.le_of_ble_eq_true rfl) (Nat.le_of_ble_eq_true rfl) rfl (c_registerOf a) (fun r1 M1 hz => ?_)
  obtain ⟨rfl, hm_⟩ := hz
  refine rn_mem hm_ ?_
  clear hm_
  refine rn_topI ha ?_
  refine rn_istore (pc' := 6) rfl rfl rfl (Nat.le_of_ble_eq_true rfl) rfl ?_
  refine rn_iload_n (pc' := 7) rfl rfl rfl ?_
  exact k
theorem c_nm20 {d e t ja : Nat} {D N : xM} (op a b : Int32) (h : Cx e t D N) (hja : ja < 8) (ha : a &&& 7 = nI ja) (hop : op.toInt = 20) : Rn (d + 1) 42 (0, xen 42 [vR 9 0, vR 0 e, vI op, vI a, vI b], [], D) (fun r C' => r = none ∧ AP e (N.1 25 0 e) (t + 1) C' (mI N 31 0 (8 * e + ja) (N.1 25 0 e))) := by
  have he := h.1
  have v0 : D.1 0 e 0 = N.1 25 0 e := f1 h.2.1.1.1 he (by decide)
  refine c_nmPre _ op a b ha ?_
  refine rn_swIn (k := 0) (t := 36) rfl hop (by decide) rfl rfl ?_
  refine rn_aload_n (pc' := 37) rfl rfl rfl ?_
  refine rn_getF (N := 24) (t' := 1) (pc' := 40) rfl rfl rfl rfl rfl (by first | assumption | decide | omega) ?_
  refine rn_iload (pc' := 42) rfl rfl rfl ?_
  refine rn_aload_n (pc' := 43) rfl rfl rfl ?_
  refine rn_getI (N := 24) (pc' := 46) rfl rfl rfl rfl (by decide) rfl (by first | assumption | decide | omega) ?_
  refine rn_topI v0 ?_
  refine rn_iast (N := 24) (K := 8) (pc' := 47) rfl rfl ⟨rfl, rfl⟩ rfl (by first | assumption | decide | omega) rfl (by decide) rfl (by first | assumption | decide | omega) ?_
  refine rn_goto (pc' := 110) rfl rfl ?_
  refine rn_return rfl rfl ?_
  exact ⟨rfl, AP_reg h hja⟩
theorem c_nm21 {d e t ja : Nat} {D N : xM} (op a b : Int32) (h : Cx e t D N) (hja : ja < 8) (ha : a &&& 7 = nI ja) (hop : op.toInt = 21) : Rn (d + 1) 42 (0, xen 42 [vR 9 0, vR 0 e, vI op, vI a, vI b], [], D) (fun r C' => r = none ∧ AP e (N.1 25 0 e) (t + 1) C' (mI N 31 0 (8 * e + ja) (N.1 26 0 e))) := by
  have he := h.1
  refine c_nmPre _ op a b ha ?_
  refine rn_swIn (k := 1) (t := 50) rfl hop (by decide) rfl rfl ?_
  refine rn_aload_n (pc' := 51) rfl rfl rfl ?_
  refine rn_getF (N := 24) (t' := 1) (pc' := 54) rfl rfl rfl rfl rfl (by first | assumption | decide | omega) ?_
  refine rn_iload (pc' := 56) rfl rfl rfl ?_
  refine rn_aload_n (pc' := 57) rfl rfl rfl ?_
  refine rn_callS (pc' := 60) (as := [_]) rfl rfl rfl ⟨rfl, rfl, rfl⟩ (Nat.le_of_ble_eq_true rfl) (Nat.le_of_ble_eq_true rfl) rfl (c_parentOf (d := d) h.2.1 he h.2.2.1) (fun r1 M1 hz => ?_)
  obtain ⟨rfl, hm_⟩ := hz
  refine rn_mem hm_ ?_
  clear hm_
  refine rn_iast (N := 24) (K := 8) (pc' := 61) rfl rfl ⟨rfl, rfl⟩ rfl (by first | assumption | decide | omega) rfl (by decide) rfl (by first | assumption | decide | omega) ?_
  refine rn_goto (pc' := 110) rfl rfl ?_
  refine rn_return rfl rfl ?_
  exact ⟨rfl, AP_reg h hja⟩
theorem c_nm22 {d e t ja : Nat} {D N : xM} (op a b : Int32) (h : Cx e t D N) (hja : ja < 8) (ha : a &&& 7 = nI ja) (hop : op.toInt = 22) : Rn (d + 1) 42 (0, xen 42 [vR 9 0, vR 0 e, vI op, vI a, vI b], [], D) (fun r C' => r = none ∧ AP e (N.1 25 0 e) (t + 1) C' (mI N 31 0 (8 * e + ja) (N.1 27 0 e))) := by
  have he := h.1
  have v2 : D.1 0 e 2 = N.1 27 0 e := f1 h.2.1.1.1 he (by decide)
  refine c_nmPre _ op a b ha ?_
  refine rn_swIn (k := 2) (t := 64) rfl hop (by decide) rfl rfl ?_
  refine rn_aload_n (pc' := 65) rfl rfl rfl ?_
  refine rn_getF (N := 24) (t' := 1) (pc' := 68) rfl rfl rfl rfl rfl (by first | assumption | decide | omega) ?_
  refine rn_iload (pc' := 70) rfl rfl rfl ?_
  refine rn_aload_n (pc' := 71) rfl rfl rfl ?_
  refine rn_getI (N := 24) (pc' := 74) rfl rfl rfl rfl (by decide) rfl (by first | assumption | decide | omega) ?_
  refine rn_topI v2 ?_
  refine rn_iast (N := 24) (K := 8) (pc' := 75) rfl rfl ⟨rfl, rfl⟩ rfl (by first | assumption | decide | omega) rfl (by decide) rfl (by first | assumption | decide | omega) ?_
  refine rn_goto (pc' := 110) rfl rfl ?_
  refine rn_return rfl rfl ?_
  exact ⟨rfl, AP_reg h hja⟩
theorem c_nm23 {d e t ja jb : Nat} {D N : xM} (op a b : Int32) (h : Cx e t D N) (hja : ja < 8) (hjb : jb < 8) (ha : a &&& 7 = nI ja) (hb : b &&& 7 = nI jb) (hop : op.toInt = 23) : Rn (d + 2) 42 (0, xen 42 [vR 9 0, vR 0 e, vI op, vI a, vI b], [], D) (fun r C' => r = none ∧ AP e (N.1 25 0 e) (t + 1) C' (f_join N e ja jb)) := by
  have he := h.1
  refine c_nmPre _ op a b ha ?_
  refine rn_swIn (k := 3) (t := 78) rfl hop (by decide) rfl rfl ?_
  refine rn_aload_n (pc' := 79) rfl rfl rfl ?_
  refine rn_getF (N := 24) (t' := 1) (pc' := 82) rfl rfl rfl rfl rfl (by first | assumption | decide | omega) ?_
  refine rn_iload (pc' := 84) rfl rfl rfl ?_
  refine rn_aload_n (pc' := 85) rfl rfl rfl ?_
  refine rn_aload_n (pc' := 86) rfl rfl rfl ?_
  refine rn_aload_n (pc' := 87) rfl rfl rfl ?_
  refine rn_getF (N := 24) (t' := 1) (pc' := 90) rfl rfl rfl rfl rfl (by first | assumption | decide | omega) ?_
  refine rn_iload (pc' := 92) rfl rfl rfl ?_
  refine rn_iald (N := 24) (K := 8) (pc' := 93) rfl rfl ⟨rfl, rfl⟩ rfl (by first | assumption | decide | omega) rfl (by decide) rfl (by first | assumption | decide | omega) ?_
  refine rn_topI (reg_eq h hja) ?_
  refine rn_aload_n (pc' := 94) rfl rfl rfl ?_
  refine rn_getF (N := 24) (t' := 1) (pc' := 97) rfl rfl rfl rfl rfl (by first | assumption | decide | omega) ?_
  refine rn_iload (pc' := 99) rfl rfl rfl ?_
  refine rn_callS (pc' := 102) (as := [_]) rfl rfl rfl ⟨rfl, rfl, rfl⟩ (Nat.le_of_ble_eq_true rfl) (Nat.le_of_ble_eq_true rfl) rfl (c_registerOf b) (fun r1 M1 hz => ?_)
  obtain ⟨rfl, hm_⟩ := hz
  refine rn_mem hm_ ?_
  clear hm_
  refine rn_topI hb ?_
  refine rn_iald (N := 24) (K := 8) (pc' := 103) rfl rfl ⟨rfl, rfl⟩ rfl (by first | assumption | decide | omega) rfl (by decide) rfl (by first | assumption | decide | omega) ?_
  refine rn_topI (reg_eq h hjb) ?_
  refine rn_callV (pc' := 106) (as := [_, _, _]) rfl rfl rfl ⟨Nat.le_of_ble_eq_true rfl, rfl, rfl⟩ rfl (by first | assumption | decide | omega) (Nat.le_of_ble_eq_true rfl) (Nat.le_of_ble_eq_true rfl) rfl (c_join (d := d) (jb := jb) h hja) (fun r9 D9 hz9 => ?_)
  obtain ⟨v9, rfl, hp⟩ := hz9
  refine rn_iast (N := 24) (K := 8) (pc' := 107) rfl rfl ⟨rfl, rfl⟩ rfl (by first | assumption | decide | omega) rfl (by decide) rfl (by first | assumption | decide | omega) ?_
  refine rn_goto (pc' := 110) rfl rfl ?_
  refine rn_return rfl rfl ?_
  exact ⟨rfl, hp⟩
theorem c_nmN {d e t ja : Nat} {D N : xM} (op a b : Int32) (h : Cx e t D N) (ha : a &&& 7 = nI ja) (hop : 23 < op.toInt) : Rn (d + 1) 42 (0, xen 42 [vR 9 0, vR 0 e, vI op, vI a, vI b], [], D) (fun r C' => r = none ∧ AP e (N.1 25 0 e) (t + 1) C' N) := by
  refine c_nmPre _ op a b ha ?_
  refine rn_swOut (t := 110) rfl (Or.inr hop) rfl ?_
  refine rn_return rfl rfl ?_
  exact ⟨rfl, AP_same h⟩
