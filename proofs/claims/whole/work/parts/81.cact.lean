theorem fe_le (N : xM) : ∀ (m i : Nat), feF N m i ≤ i + m := by
  intro m
  induction m with
  | zero => intro i; exact Nat.le_refl _
  | succ m ih =>
    intro i
    unfold feF
    split
    · have := ih (i + 1); omega
    · omega
theorem end_ref {d e n : Nat} {C R : xM} (how : Int32) (h : Inv C R n) (hn : n ≤ 24) (he : e < 24) (hl : 0 < R.1 25 0 e) (h4 : ¬ R.1 28 0 e = 4) : Rn (d + 2) 84 (0, xen 84 [vR 20 0, vI (nI e), vI how], [], R) (fun r M' => r = none ∧ M' = f_end R e how) := by
  refine r_end (n := n) R how he (Inv_gOk h) h.2.1.2.1 (by omega) (fun _ => ?_)
  obtain ⟨n', hP⟩ := end_pt how h he hl h4 (Pt_of h hn)
  exact ⟨n', hP.1, by have := hP.2.2; omega⟩
theorem act_ok {d e t p i ja jb : Nat} {D M : xM} (ok : aOk M e p i ja jb) (h : Cx e t D (nAct M e)) : ∃ G, Rn (d + 4) 91 (0, xen 91 [vR 20 0, vI (nI e)], [], M) (fun r M' => r = none ∧ M' = G) ∧ Rn (d + 5) 37 (0, xen 37 [vR 9 0, vR 0 e, vI (M.1 22 0 (60 * p + i)), vI (M.1 23 0 (60 * p + i)), vI (M.1 24 0 (60 * p + i))], [], D) (fun r C' => r = none ∧ AP e (M.1 25 0 e) (t + 1) C' G) := by
  have ok' := ok
  obtain ⟨he, hp, hi, hja, hjb, hpr, hnx, hea, heb⟩ := ok'
  have ha : M.1 23 0 (60 * p + i) &&& 7 = nI ja := (eig_and _).symm.trans hea
  have hb : M.1 24 0 (60 * p + i) &&& 7 = nI jb := (eig_and _).symm.trans heb
  have m31 : (nAct M e).1 31 = M.1 31 := rfl
  have m25 : (nAct M e).1 25 = M.1 25 := rfl
  have m20 : (nAct M e).1 20 = M.1 20 := rfl
  obtain ⟨N, hN⟩ : ∃ N, N = nAct M e := ⟨_, rfl⟩
  rw [← hN] at h m31 m25 m20
  rw [← m25]
  obtain ⟨op, hop⟩ : ∃ op, op = M.1 22 0 (60 * p + i) := ⟨_, rfl⟩
  obtain ⟨a, hae⟩ : ∃ a, a = M.1 23 0 (60 * p + i) := ⟨_, rfl⟩
  obtain ⟨b, hbe⟩ : ∃ b, b = M.1 24 0 (60 * p + i) := ⟨_, rfl⟩
  rw [← hae] at ha
  rw [← hbe] at hb
  have H : ∀ k : Int, op.toInt = k → (M.1 22 0 (60 * p + i)).toInt = k := fun k z => by rw [← hop]; exact z
  have HM : op.toInt < 0 ∨ 14 < op.toInt → (M.1 22 0 (60 * p + i)).toInt < 0 ∨ 14 < (M.1 22 0 (60 * p + i)).toInt := fun z => by rw [← hop]; exact z
  rw [← hop, ← hae, ← hbe]
  by_cases c0 : op.toInt = 0
  · have r := r_act0 (d := d + 3) M ok (H _ c0)
    rw [← hN, ← hbe] at r
    exact ⟨_, r, c_doActP op a b he (by omega) (c_pl0 (d := d + 3) op a b h hja ha hb c0)⟩
  by_cases c1 : op.toInt = 1
  · have r := r_act1 (d := d + 3) M ok (H _ c1)
    rw [← hN, ← m31] at r
    exact ⟨_, r, c_doActP op a b he (by omega) (c_pl1 (d := d + 3) op a b h hja hjb ha hb c1)⟩
  by_cases c2 : op.toInt = 2
  · have r := r_act2 (d := d + 3) M ok (H _ c2)
    rw [← hN, ← m31] at r
    exact ⟨_, r, c_doActP op a b he (by omega) (c_pl2 (d := d + 3) op a b h hja hjb ha hb c2)⟩
  by_cases c3 : op.toInt = 3
  · have r := r_act3 (d := d + 3) M ok (H _ c3)
    rw [← hN, ← m31] at r
    exact ⟨_, r, c_doActP op a b he (by omega) (c_pl3 (d := d + 3) op a b h hja hjb ha hb c3)⟩
  by_cases c4 : op.toInt = 4
  · have r := r_act4 (d := d + 3) M ok (H _ c4)
    rw [← hN, ← hae] at r
    exact ⟨_, r, c_doActP op a b he (by omega) (c_pl4 (d := d + 3) op a b h ha hb c4)⟩
  by_cases c5 : op.toInt = 5
  · have r := r_act5 (d := d + 3) M ok (H _ c5)
    rw [← hN, ← hbe, ← m31] at r
    exact ⟨_, r, c_doActP op a b he (by omega) (c_pl5 (d := d + 3) op a b h hja ha hb c5)⟩
  by_cases c6 : op.toInt = 6
  · have r := r_act6 (d := d + 3) M ok (H _ c6)
    rw [← hN, ← hbe, ← m31] at r
    exact ⟨_, r, c_doActP op a b he (by omega) (c_pl6 (d := d + 3) op a b h hja ha hb c6)⟩
  by_cases c7 : op.toInt = 7
  · obtain ⟨g, g1, g2⟩ := h.2.2.2.2.2.2.2.1
    have ht := h.2.2.2.2.2.2.1
    have r := r_act7 (d := d + 3) (g := g) M ok (H _ c7) (by rw [← m20]; exact g2) (by omega)
    rw [← hN] at r
    exact ⟨_, r, c_doActP op a b he (by omega) (c_pl7 (d := d + 2) op a b h hja ha hb c7 g2 g1)⟩
  by_cases c8 : op.toInt = 8
  · by_cases hf : fe N = 24
    · have r := r_act8 (d := d + 3) M (f_forkN N e ja) ok (H _ c8)
      rw [← hN] at r
      exact ⟨_, r (r_forkN (d := d + 1) N he hja hf), c_doActF op a b he (by omega) (by omega) (c_fa8 op a b he ha c8 (c_forkN (d := d + 2) h hja hf))⟩
    · have hf24 : fe N < 24 := by
        have := fe_le N 24 0
        have e1 : fe N = feF N 24 0 := rfl
        omega
      obtain ⟨l, hl, hl2⟩ := h.2.1.2.2.2.2.2.2.2.2.2.2.1.1
      obtain ⟨m, m1, m2, m3⟩ := free_pid N hl
      obtain ⟨hne, hcf⟩ := c_forkY (d := d + 1) h hja rfl hf24 hl2 hl (by omega) m2 m3
      have r := r_act8 (d := d + 3) M (f_forkY N e (fe N) ja (nI (nxi (m + 1) l))) ok (H _ c8)
      rw [← hN] at r
      exact ⟨_, r (r_forkY (d := d + 1) N he hja rfl hf24 hne hl2 hl m2 m3), c_doActF op a b he (by omega) (by omega) (c_fa8 op a b he ha c8 hcf)⟩
  by_cases c9 : op.toInt = 9
  · by_cases hb9 : isPr b
    · have r := r_act9 (d := d + 3) M (f_execY N e b) ok (H _ c9)
      rw [← hN, ← hbe] at r
      exact ⟨_, r (r_execY (d := d + 2) N b he hb9), c_doActF op a b he (by omega) (by omega) (c_fa9 op a b he ha c9 (c_execY (d := d + 2) b h hb9))⟩
    · have r := r_act9 (d := d + 3) M (mI N 31 0 (8 * e + ja) (-2)) ok (H _ c9)
      rw [← hN, ← hbe] at r
      exact ⟨_, r (r_execN (d := d + 2) N b he hja hb9), c_doActF op a b he (by omega) (by omega) (c_fa9 op a b he ha c9 (c_execN (d := d + 2) b h hja hb9))⟩
  by_cases c10 : op.toInt = 10
  · have r := r_act10 (d := d + 3) M (f_end N e (256 * (N.1 31 0 (8 * e + ja) &&& 255))) ok (H _ c10)
    rw [← hN, ← m31] at r
    exact ⟨_, r (end_ref (d := d + 1) _ h.2.1 (by omega) he h.2.2.1 h.n4), c_doActF op a b he (by omega) (by omega) (c_fa10 (d := d) op a b h hja ha c10)⟩
  by_cases c11 : op.toInt = 11
  · have r := r_act11 (d := d + 3) M (f_await N e ja jb op) ok (H _ c11)
    rw [← hN, ← hop] at r
    exact ⟨_, r (r_await (d := d + 2) N op he hja hjb), c_doActF op a b he (by omega) (by omega) (c_fa11 (d := d + 1) op a b h hja hjb ha hb (by omega))⟩
  by_cases c12 : op.toInt = 12
  · have r := r_act12 (d := d + 3) M (f_await N e ja jb op) ok (H _ c12)
    rw [← hN, ← hop] at r
    exact ⟨_, r (r_await (d := d + 2) N op he hja hjb), c_doActF op a b he (by omega) (by omega) (c_fa11 (d := d + 1) op a b h hja hjb ha hb (by omega))⟩
  by_cases c13 : op.toInt = 13
  · have r := r_act13 (d := d + 3) M (f_await N e ja jb op) ok (H _ c13)
    rw [← hN, ← hop] at r
    exact ⟨_, r (r_await (d := d + 2) N op he hja hjb), c_doActF op a b he (by omega) (by omega) (c_fa11 (d := d + 1) op a b h hja hjb ha hb (by omega))⟩
  by_cases c14 : op.toInt = 14
  · by_cases hs : isSg (N.1 31 0 (8 * e + jb))
    · have r := r_act14 (d := d + 3) M (f_killY N e ja (N.1 31 0 (8 * e + ja)) (N.1 31 0 (8 * e + jb))) ok (H _ c14)
      rw [← hN] at r
      exact ⟨_, r (r_killY (d := d + 2) (n := 0) N he hja hjb hs h.2.1.2.1.2.1 (by omega)), c_doActS op a b he (by omega) (by omega) (c_sg14 (d := d + 2) op a b he ha hb c14 (c_killY (d := d + 2) h hja hjb hs))⟩
    · have r := r_act14 (d := d + 3) M (mI N 31 0 (8 * e + ja) (-22)) ok (H _ c14)
      rw [← hN] at r
      exact ⟨_, r (r_killN (d := d + 2) N he hja hjb hs), c_doActS op a b he (by omega) (by omega) (c_sg14 (d := d + 2) op a b he ha hb c14 (c_killN (d := d + 2) h hja hjb hs))⟩
  have RM : ∀ F : xM, (op.toInt < 0 ∨ 14 < op.toInt) → Rn (d + 3) 92 (0, xen 92 [vR 20 0, vI (nI e), vI op, vI a, vI b, vI (nI (8 * e + ja)), vI (nI (8 * e + jb))], [], N) (fun r M' => r = none ∧ M' = F) → Rn (d + 4) 91 (0, xen 91 [vR 20 0, vI (nI e)], [], M) (fun r M' => r = none ∧ M' = F) := fun F hF hc => by
    have r := r_actM (d := d + 3) M F ok (HM hF)
    rw [← hN, ← hop, ← hae, ← hbe] at r
    exact r hc
  by_cases c15 : op.toInt = 15
  · by_cases hc : isS1 a ∧ ¬ a = 9 ∧ ¬ a = 19 ∧ ¬ b < 0
    · obtain ⟨s, s1, s2, s3⟩ := isS1_n hc.1
      refine ⟨mI N 32 0 (21 * e + s) b, RM _ (by omega) (r_more15Y (d := d + 2) N a b op _ _ he c15 s3 ⟨s1, by omega⟩ hc.1 hc.2.1 hc.2.2.1 hc.2.2.2), c_doActS op a b he (by omega) (by omega) ((c_sg15 (d := d + 2) op a b h ha c15).imp (fun r C' hz => ⟨hz.1, ?_⟩))⟩
      rcases hz.2 with z | z
      · exact z.2.2.2.2 s s3 s2
      · exact absurd hc z.1
    · refine ⟨N, RM _ (by omega) (r_more15N (d := d + 2) N a b op _ _ c15 hc), c_doActS op a b he (by omega) (by omega) ((c_sg15 (d := d + 2) op a b h ha c15).imp (fun r C' hz => ⟨hz.1, ?_⟩))⟩
      rcases hz.2 with z | z
      · exact absurd ⟨z.1, z.2.1, z.2.2.1, z.2.2.2.1⟩ hc
      · exact z.2
  by_cases c16 : op.toInt = 16
  · exact ⟨f_mask N e ja, RM _ (by omega) (r_more16 (d := d + 2) N a b op _ he hja c16), c_doActS op a b he (by omega) (by omega) (c_sg16 (d := d + 2) op a b h hja ha c16)⟩
  by_cases c17 : op.toInt = 17
  · exact ⟨f_sleep N e ja 2, RM _ (by omega) (r_more17 (d := d + 2) N a b op _ he hja c17), c_doActS op a b he (by omega) (by omega) (c_sg17 (d := d + 2) op a b h hja ha c17)⟩
  by_cases c18 : op.toInt = 18
  · obtain ⟨hh, hh4, hh5⟩ := (h.2.1.2.2.2.2.2.2.1 e he).2
    cases hh with
    | zero =>
      have hx : ¬ rpid N e = 1 → ∃ n', rok (f_end N e 0) n' ∧ n' ≤ 4000 := fun _ => by
        obtain ⟨n', hP⟩ := end_pt 0 h.2.1 he h.2.2.1 h.n4 (Pt_of h.2.1 (by omega))
        exact ⟨n', hP.1, by have := hP.2.2; omega⟩
      exact ⟨f_end N e 0, RM _ (by omega) (r_more18N (d := d) (n := 0) N a b op _ _ he hh5 c18 (Inv_gOk h.2.1) h.2.1.2.1.2.1 (by omega) hx), c_doActS op a b he (by omega) (by omega) (c_sg18N (d := d) op a b h ha hh5 c18)⟩
    | succ hh => exact ⟨f_retn N e hh, RM _ (by omega) (r_more18Y (d := d + 2) N a b op _ _ he hh5 (by omega) c18), c_doActS op a b he (by omega) (by omega) (c_sg18Y (d := d + 2) op a b h ha hh5 (by omega) c18)⟩
  by_cases c19 : op.toInt = 19
  · exact ⟨f_alarm N e ja, RM _ (by omega) (r_more19 (d := d + 2) N a b op _ he hja c19), c_doActS op a b he (by omega) (by omega) (c_sg19 (d := d + 2) op a b h hja ha c19)⟩
  by_cases c20 : op.toInt = 20
  · exact ⟨mI N 31 0 (8 * e + ja) (N.1 25 0 e), RM _ (by omega) (r_more20 (d := d + 2) N a b op _ he hja c20), c_doActN op a b he (by omega) (c_nm20 (d := d + 3) op a b h hja ha c20)⟩
  by_cases c21 : op.toInt = 21
  · exact ⟨mI N 31 0 (8 * e + ja) (N.1 26 0 e), RM _ (by omega) (r_more21 (d := d + 2) N a b op _ he hja c21), c_doActN op a b he (by omega) (c_nm21 (d := d + 3) op a b h hja ha c21)⟩
  by_cases c22 : op.toInt = 22
  · exact ⟨mI N 31 0 (8 * e + ja) (N.1 27 0 e), RM _ (by omega) (r_more22 (d := d + 2) N a b op _ he hja c22), c_doActN op a b he (by omega) (c_nm22 (d := d + 3) op a b h hja ha c22)⟩
  by_cases c23 : op.toInt = 23
  · exact ⟨f_join N e ja jb, RM _ (by omega) (r_more23 (d := d + 1) N a b op he hja hjb c23), c_doActN op a b he (by omega) (c_nm23 (d := d + 2) op a b h hja hjb ha hb c23)⟩
  by_cases cn : op.toInt < 0
  · exact ⟨N, RM _ (by omega) (r_moreN (d := d + 3) N a b op _ _ (by omega)), c_doActP op a b he (by omega) (c_plN (d := d + 3) op a b h ha hb cn)⟩
  · exact ⟨N, RM _ (by omega) (r_moreN (d := d + 3) N a b op _ _ (by omega)), c_doActN op a b he (by omega) (c_nmN (d := d + 3) op a b h ha (by omega))⟩
