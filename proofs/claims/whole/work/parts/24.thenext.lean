section XNN
variable {p : Program} {l : Launch} {e : Env} {R : Room} {s : State} {m : MethodId} {args : Array Value} {below : List Frame} {meth : Method} {c : Code} {H H0 : Heap} {locs : List Loc} {Q : State → Prop} {D : va_G} {ad : Nat → Nat → Nat} {cA : Nat → ClassId} {A : Nat → Prop} {M M' : xM} {j d pc pc' : Nat} {L L' : xLs} {st st' : List xV} {ls : Array Slot} {rest : List Value}
theorem xd1 {cc : ByteArray} {i : Instr} {n k : Nat} (hd : decode cc pc = .ok (i, n)) (hn : xln i = n ∨ xln i = 0) (hk : xln i = k) (h0 : ¬ k = 0) : decode cc pc = .ok (i, k) := by
  rcases hn with h | h
  · rw [← hk, h]; exact hd
  · exact absurd (hk.symm.trans h) h0
theorem xad_inj {t e' t2 e2 : Nat} (Wd : xWd D ad cA (xsj j) A H0 s M H locs) (h1 : e' < xcm j t) (h2 : e2 < xcm j t2) (h : ad t e' = ad t2 e2) : (t, e') = (t2, e2) := by
  obtain ⟨q1, hq1⟩ := xcs_at h1
  obtain ⟨q2, hq2⟩ := xcs_at h2
  have := Wd.2.1.1 q1 q2 _ _ (xw_at M hq1) (xw_at M hq2) h
  subst this
  exact Option.some.inj (hq1.symm.trans hq2)
theorem xo_inj {o o' : Option (Nat × Nat)} (Wd : xWd D ad cA (xsj j) A H0 s M H locs) (h1 : xvo j o = true) (h2 : xvo j o' = true) : (o.map fun q => ad q.1 q.2) = (o'.map fun q => ad q.1 q.2) ↔ o = o' := by
  constructor
  · intro h
    cases o with
    | none => cases o' with
      | none => rfl
      | some q => cases h
    | some q => cases o' with
      | none => cases h
      | some q' => exact congrArg some (xad_inj Wd (of_decide_eq_true h1) (of_decide_eq_true h2) (Option.some.inj h))
  · intro h; rw [h]
set_option maxHeartbeats 4000000 in
theorem x_next (hR : R = xrm d) (B : xB p s m args c j) (Wd : xWd D ad cA (xsj j) A H0 s M H locs) (hl : xlh ad ls (xmL j) L) (h : x1 d j (pc, L, st, M) = some (.inl (pc', L', st', M')))
    (kk : ∀ (H1 : Heap) (locs1 : List Loc) (ls1 : Array Slot), xWd D ad cA (xsj j) A H0 s M' H1 locs1 → xlh ad ls1 (xmL j) L' → W p l e R s m args below meth c H1 locs1 0 0 Q (F0 m pc' ls1 (st'.map (cv ad)))) : W p l e R s m args below meth c H locs 0 0 Q (F0 m pc ls (st.map (cv ad))) := by
  unfold x1 at h
  cases hf : xfet j pc with
  | none => rw [hf] at h; cases h
  | some q =>
    obtain ⟨i, n⟩ := q
    rw [hf] at h
    obtain ⟨hd, hn⟩ := xfet_spec hf
    have hx := B.1
    have hb := B.2.1
    have hts := B.2.2.2.2.1
    have hown := B.2.2.2.1
    have k0 : ∀ {st1 : List xV}, M' = M → L' = L → st' = st1 → W p l e R s m args below meth c H locs 0 0 Q (F0 m pc' ls (st1.map (cv ad))) := fun e1 e2 e3 => by
      have := kk H locs ls (by rw [e1]; exact Wd) (by rw [e2]; exact hl)
      rw [← e3]; exact this
    cases i with
    | iconst k =>
      have hd := xd1 hd hn (k := 1) rfl (by decide)
      cases h
      exact lv_iconst hx hb hd rfl (k0 rfl rfl rfl)
    | bipush k =>
      have hd := xd1 hd hn (k := 2) rfl (by decide)
      cases h
      exact lv_bipush hx hb hd rfl (k0 rfl rfl rfl)
    | sipush k =>
      have hd := xd1 hd hn (k := 3) rfl (by decide)
      cases h
      exact lv_sipush hx hb hd rfl (k0 rfl rfl rfl)
    | lconst k =>
      have hd := xd1 hd hn (k := 1) rfl (by decide)
      cases h
      exact lv_lconst hx hb hd rfl (k0 rfl rfl rfl)
    | ldc x =>
      have hd := xd1 hd hn (k := 2) rfl (by decide)
      simp only [xi] at h
      split at h
      · rename_i v hv
        cases h
        exact lv_ldc hx hb hown (hts _ (xg_of (x_mem_pos _ xkc_w _ (List.mem_map.mpr ⟨_, x_lookup hv, rfl⟩)) rfl)) hd (k0 rfl rfl rfl)
      · cases h
    | ldc_w x =>
      have hd := xd1 hd hn (k := 3) rfl (by decide)
      simp only [xi] at h
      split at h
      · rename_i v hv
        cases h
        exact lv_ldcw hx hb hown (hts _ (xg_of (x_mem_pos _ xkc_w _ (List.mem_map.mpr ⟨_, x_lookup hv, rfl⟩)) rfl)) hd (k0 rfl rfl rfl)
      · cases h
    | ldc2_w x =>
      have hd := xd1 hd hn (k := 3) rfl (by decide)
      simp only [xi] at h
      split at h
      · rename_i v hv
        cases h
        exact lv_ldc2 hx hb hown (hts _ (xg_of (x_mem_pos _ xkl_w _ (List.mem_map.mpr ⟨_, x_lookup hv, rfl⟩)) rfl)) hd (k0 rfl rfl rfl)
      · cases h
    | aconst_null =>
      have hd := xd1 hd hn (k := 1) rfl (by decide)
      cases h
      exact lv_null hx hb hd (k0 rfl rfl rfl)
    | iload k =>
      have hd := xd1 hd hn (k := 2) rfl (by decide)
      obtain ⟨x, hx0, rfl, e2, e3, e1⟩ := iv_ldI h
      exact lv_iload hx hb hd (xlh_at hl hx0) (k0 e1 e2 e3)
    | iload_n k =>
      have hd := xd1 hd hn (k := 1) rfl (by decide)
      obtain ⟨x, hx0, rfl, e2, e3, e1⟩ := iv_ldI h
      exact lv_iload_n hx hb hd rfl (xlh_at hl hx0) (k0 e1 e2 e3)
    | lload k =>
      have hd := xd1 hd hn (k := 2) rfl (by decide)
      obtain ⟨x, hx0, rfl, e2, e3, e1⟩ := iv_ldJ h
      exact lv_lload hx hb hd (xlh_at hl hx0) (k0 e1 e2 e3)
    | lload_n k =>
      have hd := xd1 hd hn (k := 1) rfl (by decide)
      obtain ⟨x, hx0, rfl, e2, e3, e1⟩ := iv_ldJ h
      exact lv_lload_n hx hb hd rfl (xlh_at hl hx0) (k0 e1 e2 e3)
    | aload k =>
      have hd := xd1 hd hn (k := 2) rfl (by decide)
      obtain ⟨o, hx0, rfl, e2, e3, e1⟩ := iv_ldA h
      cases o with
      | none => exact lv_aloadN hx hb hd (xlh_at hl hx0) (k0 e1 e2 e3)
      | some q => exact lv_aload hx hb hd (xlh_at hl hx0) (k0 e1 e2 e3)
    | aload_n k =>
      have hd := xd1 hd hn (k := 1) rfl (by decide)
      obtain ⟨o, hx0, rfl, e2, e3, e1⟩ := iv_ldA h
      cases o with
      | none => exact lv_aload_nN hx hb hd rfl (xlh_at hl hx0) (k0 e1 e2 e3)
      | some q => exact lv_aload_n hx hb hd rfl (xlh_at hl hx0) (k0 e1 e2 e3)
    | istore k =>
      have hd := xd1 hd hn (k := 2) rfl (by decide)
      obtain ⟨x, r, rfl, ⟨g1, g2, rfl⟩, rfl, rfl, rfl⟩ := iv_stI h
      exact lv_istore hx hb hd hl.2 (by rw [← hl.1]; exact g2) rfl (fun ls1 h1 => kk H locs ls1 Wd (xlh_set hl.1 h1 g1 g2))
    | istore_n k =>
      have hd := xd1 hd hn (k := 1) rfl (by decide)
      obtain ⟨x, r, rfl, ⟨g1, g2, rfl⟩, rfl, rfl, rfl⟩ := iv_stI h
      exact lv_istore_n hx hb hd rfl hl.2 (by rw [← hl.1]; exact g2) rfl (fun ls1 h1 => kk H locs ls1 Wd (xlh_set hl.1 h1 g1 g2))
    | astore k =>
      have hd := xd1 hd hn (k := 2) rfl (by decide)
      obtain ⟨o, r, rfl, ⟨g1, g2, rfl⟩, rfl, rfl, rfl⟩ := iv_stA h
      cases o with
      | none => exact lv_astoreN hx hb hd hl.2 (by rw [← hl.1]; exact g2) rfl (fun ls1 h1 => kk H locs ls1 Wd (xlh_set hl.1 h1 g1 g2))
      | some q => exact lv_astore hx hb hd hl.2 (by rw [← hl.1]; exact g2) rfl (fun ls1 h1 => kk H locs ls1 Wd (xlh_set hl.1 h1 g1 g2))
    | astore_n k =>
      have hd := xd1 hd hn (k := 1) rfl (by decide)
      obtain ⟨o, r, rfl, ⟨g1, g2, rfl⟩, rfl, rfl, rfl⟩ := iv_stA h
      cases o with
      | none => exact lv_astore_nN hx hb hd rfl hl.2 (by rw [← hl.1]; exact g2) rfl (fun ls1 h1 => kk H locs ls1 Wd (xlh_set hl.1 h1 g1 g2))
      | some q => exact lv_astore_n hx hb hd rfl hl.2 (by rw [← hl.1]; exact g2) rfl (fun ls1 h1 => kk H locs ls1 Wd (xlh_set hl.1 h1 g1 g2))
    | iinc k v =>
      have hd := xd1 hd hn (k := 3) rfl (by decide)
      simp only [xi] at h
      split at h
      · rename_i x hx0
        split at h
        · rename_i L2 hL2
          cases h
          obtain ⟨g1, g2, rfl⟩ := iv_st hL2
          obtain ⟨k9, hk9⟩ := List.getElem?_of_mem (xlv_mem.mpr ⟨_, hx0, rfl⟩)
          exact lv_iinc hx hb hd hl.2 hk9 rfl (by rw [← hl.1]; exact g2) rfl (fun ls1 h1 => kk H locs ls1 Wd (xlh_set hl.1 h1 g1 g2))
        · cases h
      · cases h
    | iadd =>
      have hd := xd1 hd hn (k := 1) rfl (by decide)
      obtain ⟨x, y, r, rfl, rfl, e2, e3, e1⟩ := iv_b2 h
      exact lv_iadd hx hb hd (k0 e1 e2 e3)
    | isub =>
      have hd := xd1 hd hn (k := 1) rfl (by decide)
      obtain ⟨x, y, r, rfl, rfl, e2, e3, e1⟩ := iv_b2 h
      exact lv_isub hx hb hd (k0 e1 e2 e3)
    | imul =>
      have hd := xd1 hd hn (k := 1) rfl (by decide)
      obtain ⟨x, y, r, rfl, rfl, e2, e3, e1⟩ := iv_b2 h
      exact lv_imul hx hb hd (k0 e1 e2 e3)
    | iand =>
      have hd := xd1 hd hn (k := 1) rfl (by decide)
      obtain ⟨x, y, r, rfl, rfl, e2, e3, e1⟩ := iv_b2 h
      exact lv_iand hx hb hd (k0 e1 e2 e3)
    | ior =>
      have hd := xd1 hd hn (k := 1) rfl (by decide)
      obtain ⟨x, y, r, rfl, rfl, e2, e3, e1⟩ := iv_b2 h
      exact lv_ior hx hb hd (k0 e1 e2 e3)
    | ixor =>
      have hd := xd1 hd hn (k := 1) rfl (by decide)
      obtain ⟨x, y, r, rfl, rfl, e2, e3, e1⟩ := iv_b2 h
      exact lv_ixor hx hb hd (k0 e1 e2 e3)
    | ishl =>
      have hd := xd1 hd hn (k := 1) rfl (by decide)
      obtain ⟨x, y, r, rfl, rfl, e2, e3, e1⟩ := iv_b2 h
      exact lv_ishl hx hb hd (k0 e1 e2 e3)
    | ishr =>
      have hd := xd1 hd hn (k := 1) rfl (by decide)
      obtain ⟨x, y, r, rfl, rfl, e2, e3, e1⟩ := iv_b2 h
      exact lv_ishr hx hb hd (k0 e1 e2 e3)
    | irem =>
      have hd := xd1 hd hn (k := 1) rfl (by decide)
      simp only [xi] at h
      split at h
      · split at h
        · cases h
        · rename_i hy
          cases h
          exact lv_irem hx hb hd hy (k0 rfl rfl rfl)
      · cases h
    | ineg =>
      have hd := xd1 hd hn (k := 1) rfl (by decide)
      simp only [xi] at h
      split at h
      · cases h
        exact lv_ineg hx hb hd (k0 rfl rfl rfl)
      · cases h
    | ladd =>
      have hd := xd1 hd hn (k := 1) rfl (by decide)
      obtain ⟨x, y, r, rfl, rfl, e2, e3, e1⟩ := iv_j2 h
      exact lv_ladd hx hb hd (k0 e1 e2 e3)
    | lsub =>
      have hd := xd1 hd hn (k := 1) rfl (by decide)
      obtain ⟨x, y, r, rfl, rfl, e2, e3, e1⟩ := iv_j2 h
      exact lv_lsub hx hb hd (k0 e1 e2 e3)
    | lcmp =>
      have hd := xd1 hd hn (k := 1) rfl (by decide)
      simp only [xi] at h
      split at h
      · cases h
        exact W.lcmp hx hb hd (k0 rfl rfl rfl)
      · cases h
    | i2l =>
      have hd := xd1 hd hn (k := 1) rfl (by decide)
      simp only [xi] at h
      split at h
      · cases h
        exact lv_i2l hx hb hd rfl (k0 rfl rfl rfl)
      · cases h
    | l2i =>
      have hd := xd1 hd hn (k := 1) rfl (by decide)
      simp only [xi] at h
      split at h
      · cases h
        exact lv_l2i hx hb hd rfl (k0 rfl rfl rfl)
      · cases h
    | dup =>
      have hd := xd1 hd hn (k := 1) rfl (by decide)
      simp only [xi] at h
      split at h
      · cases h
        exact lv_dup hx hb hd rfl (k0 rfl rfl rfl)
      · rename_i o r
        cases h
        exact lv_dup hx hb hd (by cases o <;> rfl) (k0 rfl rfl rfl)
      · cases h
    | dup2 =>
      have hd := xd1 hd hn (k := 1) rfl (by decide)
      simp only [xi] at h
      split at h
      · rename_i x o r
        cases h
        exact lv_dup2_11 hx hb hd rfl (by cases o <;> rfl) (k0 rfl rfl rfl)
      · cases h
    | ifCond cd off =>
      have hd := xd1 hd hn (k := 3) rfl (by decide)
      simp only [xi] at h
      split at h
      · rename_i x r
        obtain ⟨t, ht, hq, e2, e3, e1⟩ := iv_br h
        have kt : xcmp cd x 0 → W p l e R s m args below meth c H locs 0 0 Q (F0 m t ls (r.map (cv ad))) := fun hc => by
          rcases hq with ⟨-, rfl⟩ | ⟨q1, -⟩
          · exact k0 e1 e2 e3
          · exact absurd hc q1
        have kf : ¬ xcmp cd x 0 → W p l e R s m args below meth c H locs 0 0 Q (F0 m (pc + 3) ls (r.map (cv ad))) := fun hc => by
          rcases hq with ⟨q1, -⟩ | ⟨-, rfl⟩
          · exact absurd q1 hc
          · exact k0 e1 e2 e3
        cases cd with
        | eq => exact lv_if_eq hx hb hd ht kt kf
        | ne => exact lv_if_ne hx hb hd ht kt (fun q => kf (fun z => z q))
        | lt => exact lv_if_lt hx hb hd ht kt kf
        | ge => exact lv_if_ge hx hb hd ht kt kf
        | gt => exact lv_if_gt hx hb hd ht kt kf
        | le => exact lv_if_le hx hb hd ht kt kf
      · cases h
    | if_icmp cd off =>
      have hd := xd1 hd hn (k := 3) rfl (by decide)
      simp only [xi] at h
      split at h
      · rename_i y x r
        obtain ⟨t, ht, hq, e2, e3, e1⟩ := iv_br h
        have kt : xcmp cd x y → W p l e R s m args below meth c H locs 0 0 Q (F0 m t ls (r.map (cv ad))) := fun hc => by
          rcases hq with ⟨-, rfl⟩ | ⟨q1, -⟩
          · exact k0 e1 e2 e3
          · exact absurd hc q1
        have kf : ¬ xcmp cd x y → W p l e R s m args below meth c H locs 0 0 Q (F0 m (pc + 3) ls (r.map (cv ad))) := fun hc => by
          rcases hq with ⟨q1, -⟩ | ⟨-, rfl⟩
          · exact absurd q1 hc
          · exact k0 e1 e2 e3
        cases cd with
        | eq => exact lv_icmp_eq hx hb hd ht kt kf
        | ne => exact lv_icmp_ne hx hb hd ht kt (fun q => kf (fun z => z q))
        | lt => exact lv_icmp_lt hx hb hd ht kt kf
        | ge => exact lv_icmp_ge hx hb hd ht kt kf
        | gt => exact lv_icmp_gt hx hb hd ht kt kf
        | le => exact lv_icmp_le hx hb hd ht kt kf
      · cases h
    | ifnull off =>
      have hd := xd1 hd hn (k := 3) rfl (by decide)
      simp only [xi] at h
      split at h
      · rename_i o r
        obtain ⟨t, ht, hq, e2, e3, e1⟩ := iv_br h
        cases o with
        | none =>
          rcases hq with ⟨-, rfl⟩ | ⟨q1, -⟩
          · exact lv_ifnullN hx hb hd ht (k0 e1 e2 e3)
          · exact absurd rfl q1
        | some q =>
          rcases hq with ⟨q1, -⟩ | ⟨-, rfl⟩
          · cases q1
          · exact lv_ifnull hx hb hd (k0 e1 e2 e3)
      · cases h
    | ifnonnull off =>
      have hd := xd1 hd hn (k := 3) rfl (by decide)
      simp only [xi] at h
      split at h
      · rename_i o r
        obtain ⟨t, ht, hq, e2, e3, e1⟩ := iv_br h
        cases o with
        | none =>
          rcases hq with ⟨q1, -⟩ | ⟨-, rfl⟩
          · exact absurd rfl q1
          · exact lv_ifnonnullN hx hb hd (k0 e1 e2 e3)
        | some q =>
          rcases hq with ⟨-, rfl⟩ | ⟨q1, -⟩
          · exact lv_ifnonnull hx hb hd ht (k0 e1 e2 e3)
          · exact absurd (fun z => by cases z) q1
      · cases h
    | if_acmp cd off =>
      have hd := xd1 hd hn (k := 3) rfl (by decide)
      simp only [xi] at h
      split at h
      · rename_i o' o r
        split at h
        · rename_i hv
          have hi := xo_inj Wd hv.1 hv.2
          cases cd with
          | eq =>
            obtain ⟨t, ht, hq, e2, e3, e1⟩ := iv_br h
            have := lv_acmp_eq (p := p) (l := l) (e := e) (R := R) (s := s) (m := m) (args := args) (below := below) (meth := meth) (c := c) (H := H) (locs := locs) (cells := 0) (slots := 0) (Q := Q) (ls := ls) (rest := r.map (cv ad)) hx hb hd ht (rx := o.map fun q => ad q.1 q.2) (ry := o'.map fun q => ad q.1 q.2) (fun hc => by
                rcases hq with ⟨-, rfl⟩ | ⟨q1, -⟩
                · exact k0 e1 e2 e3
                · exact absurd (hi.mp hc) q1) (fun hc => by
                rcases hq with ⟨q1, -⟩ | ⟨-, rfl⟩
                · exact absurd (hi.mpr q1) hc
                · exact k0 e1 e2 e3)
            simp only [List.map_cons, cv_o]
            exact this
          | ne =>
            obtain ⟨t, ht, hq, e2, e3, e1⟩ := iv_br h
            have := lv_acmp_ne (p := p) (l := l) (e := e) (R := R) (s := s) (m := m) (args := args) (below := below) (meth := meth) (c := c) (H := H) (locs := locs) (cells := 0) (slots := 0) (Q := Q) (ls := ls) (rest := r.map (cv ad)) hx hb hd ht (rx := o.map fun q => ad q.1 q.2) (ry := o'.map fun q => ad q.1 q.2) (fun hc => by
                rcases hq with ⟨-, rfl⟩ | ⟨q1, -⟩
                · exact k0 e1 e2 e3
                · exact absurd (fun z => hc (hi.mpr z)) q1) (fun hc => by
                rcases hq with ⟨q1, -⟩ | ⟨-, rfl⟩
                · exact absurd (hi.mp hc) q1
                · exact k0 e1 e2 e3)
            simp only [List.map_cons, cv_o]
            exact this
        · cases h
      · cases h
    | goto off =>
      have hd := xd1 hd hn (k := 3) rfl (by decide)
      simp only [xi] at h
      split at h
      · rename_i t ht
        cases h
        exact lv_goto hx hb hd (iv_tg ht) (k0 rfl rfl rfl)
      · cases h
    | tableswitch dflt lo hi offs =>
      obtain ⟨x, r, rfl, e2, e3, e1, hq⟩ := iv_sw h
      rcases hq with ⟨q1, q2⟩ | ⟨q1, q2, off, q3, q4⟩
      · exact lv_tableOut hx hb hd q1 q2 (k0 e1 e2 e3)
      · exact lv_tableIn hx hb hd q1 q2 q3 q4 (k0 e1 e2 e3)
    | getfield x =>
      have hd := xd1 hd hn (k := 3) rfl (by decide)
      obtain ⟨t, e', r, k, nb, v, rfl, g1, g2, g3, rfl, e2, e3, e1⟩ := iv_get h
      exact xs_get B Wd hd g1 g2 g3 (k0 e1 e2 e3)
    | putfield x =>
      have hd := xd1 hd hn (k := 3) rfl (by decide)
      obtain ⟨t, e', r, k, nb, v, rfl, g1, g2, g3, rfl, rfl, rfl⟩ := iv_put h
      exact xs_put B Wd hd g1 g2 g3 (fun H1 locs1 W1 => kk H1 locs1 ls W1 hl)
    | iaload =>
      have hd := xd1 hd hn (k := 1) rfl (by decide)
      obtain ⟨i, t, e', r, rfl, ⟨g0, g1, g2, g3⟩, rfl, e2, e3, e1⟩ := iv_alI h
      exact xs_alI (Or.inl ⟨g1, rfl⟩) B Wd hd g0 g2 g3 (k0 e1 e2 e3)
    | baload =>
      have hd := xd1 hd hn (k := 1) rfl (by decide)
      obtain ⟨i, t, e', r, rfl, ⟨g0, g1, g2, g3⟩, rfl, e2, e3, e1⟩ := iv_alI h
      exact xs_alI (Or.inr ⟨g1, rfl⟩) B Wd hd g0 g2 g3 (k0 e1 e2 e3)
    | laload =>
      have hd := xd1 hd hn (k := 1) rfl (by decide)
      obtain ⟨i, t, e', r, rfl, ⟨g0, g1, g2, g3⟩, rfl, e2, e3, e1⟩ := iv_alJ h
      exact xs_alJ B Wd hd g0 g1 g2 g3 (k0 e1 e2 e3)
    | aaload =>
      have hd := xd1 hd hn (k := 1) rfl (by decide)
      obtain ⟨i, t, e', r, rfl, ⟨g0, g1, g2, g3⟩, rfl, e2, e3, e1⟩ := iv_alA h
      exact xs_alA B Wd hd g0 g1 g2 g3 (k0 e1 e2 e3)
    | iastore =>
      have hd := xd1 hd hn (k := 1) rfl (by decide)
      obtain ⟨x, i, t, e', r, rfl, ⟨g0, g1, g2, g3, g4⟩, rfl, rfl, rfl, rfl⟩ := iv_asI h
      exact xs_asI (Or.inl ⟨g1, rfl⟩) B Wd hd g0 g2 g3 (fun H1 locs1 W1 => kk H1 locs1 ls W1 hl)
    | bastore =>
      have hd := xd1 hd hn (k := 1) rfl (by decide)
      obtain ⟨x, i, t, e', r, rfl, ⟨g0, g1, g2, g3, g4⟩, rfl, rfl, rfl, rfl⟩ := iv_asI h
      exact xs_asI (Or.inr ⟨g1, rfl, g4 rfl⟩) B Wd hd g0 g2 g3 (fun H1 locs1 W1 => kk H1 locs1 ls W1 hl)
    | lastore =>
      have hd := xd1 hd hn (k := 1) rfl (by decide)
      obtain ⟨x, i, t, e', r, rfl, ⟨g0, g1, g2, g3⟩, rfl, rfl, rfl, rfl⟩ := iv_asJ h
      exact xs_asJ B Wd hd g0 g1 g2 g3 (fun H1 locs1 W1 => kk H1 locs1 ls W1 hl)
    | aastore =>
      have hd := xd1 hd hn (k := 1) rfl (by decide)
      obtain ⟨o, i, t, e', r, rfl, ⟨g0, g1, g2, g3, g4⟩, g5, rfl, rfl, rfl, rfl⟩ := iv_asA h
      exact xs_asA B Wd hd g0 g1 g2 g3 g4 g5 (fun H1 locs1 W1 => kk H1 locs1 ls W1 hl)
    | arraylength =>
      have hd := xd1 hd hn (k := 1) rfl (by decide)
      obtain ⟨t, e', r, rfl, ⟨g0, g1⟩, rfl, e2, e3, e1⟩ := iv_len h
      exact xs_len B Wd hd g0 g1 (k0 e1 e2 e3)
    | invokestatic x =>
      have hd := xd1 hd hn (k := 3) rfl (by decide)
      obtain ⟨hd0, hq⟩ := iv_ins h
      rcases hq with ⟨hm, h⟩ | ⟨hm, h⟩
      · obtain ⟨n, dp, t', e', sp, t, e2, r, rfl, ⟨g1, g2, g3, g4, g5, g6⟩, rfl, rfl, rfl, rfl⟩ := iv_copy h
        exact xs_copy hR hd0 hl.2.1 hm B Wd hd g1 g2 g3 g4 g5 g6 (fun H1 locs1 W1 => kk H1 locs1 ls W1 hl)
      · obtain ⟨x, y, r, rfl, g6, rfl, e2, e3, e1⟩ := iv_min h
        exact xs_min hR hd0 hl.2.1 hm B hd g6 (k0 e1 e2 e3)
    | invokevirtual x =>
      simp only [xi] at h
      unfold xinv at h
      split at h
      · split at h
        · split at h
          · split at h
            · unfold xcall at h
              split at h <;> cases h
            · cases h
          · cases h
        · cases h
      · cases h
    | ireturn =>
      simp only [xi] at h
      unfold xret at h
      split at h
      · split at h <;> cases h
      · cases h
    | areturn =>
      simp only [xi] at h
      unfold xreA at h
      split at h
      · split at h <;> cases h
      · cases h
    | return_ =>
      simp only [xi] at h
      split at h
      · split at h <;> cases h
      · cases h
    | _ => cases h
end XNN
