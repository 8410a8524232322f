theorem xmd_mem {k : Nat} (hk : k < xms.length) : xmd k ∈ xms := by
  unfold xmd
  rw [List.getD_eq_getElem?_getD, List.getElem?_eq_getElem hk]
  exact List.getElem_mem hk
set_option maxRecDepth 100000 in
theorem xml_ok : ∀ q ∈ xmlL, q.2.1 < xms.length ∧ xsj q.2.1 = (if q.1.1 = 3 then 1 else 0) := by decide +kernel
set_option maxRecDepth 100000 in
theorem xrc_ok : ∀ q ∈ xms, q.2.2.2.2.2.1 ≠ 0 → (xob (q.2.2.2.2.2.1 - 1)).bind (fun ci => (vwCl[ci]?).map (fun r => r.1)) = some q.2.1.cls := by decide +kernel
def xws (k : Nat) : List Cond := .code (xmy k) (xmc k) (xmL k) (xmr k) :: xgW
theorem xws_good {k : Nat} (hk : k < xms.length) : GoodIn xgW (xws k) := by
  intro w hw
  rcases List.mem_cons.mp hw with rfl | hw
  · exact ⟨xg_of (xcd_all _ (xmd_mem hk)) rfl, Or.inl rfl⟩
  · exact ⟨hw, good_of_word (List.mem_filter.mp hw).2⟩
theorem xnW_moved {s U : State} (hW : s.WarmedH U.vm) (h : ∀ w ∈ xnW, va_Nw w s) : ∀ w ∈ xnW, va_Nw w U := by
  intro w hw
  have h1 := h w hw
  have h2 := (List.mem_filter.mp hw).2
  cases w <;> first | exact va_Nw.warmF hW h1 | exact va_Nw.warmM hW h1 | cases h2
theorem xnW_same {s U : State} (hW : s.vm = U.vm) (h : ∀ w ∈ xnW, va_Nw w s) : ∀ w ∈ xnW, va_Nw w U := by
  intro w hw
  have h1 := h w hw
  have h2 := (List.mem_filter.mp hw).2
  cases w <;> first | exact va_Nw.same rfl hW h1 | cases h2
def xPc (D : va_G) (ad : Nat → Nat → Nat) (cA : Nat → ClassId) (k : Nat) (as : List xV) (M : xM) (sz : Nat) : Array Value → State → Prop :=
  va_Pc (as.map (cv ad)) (fun U => U.heap.size = sz ∧ va_P D vwCl (xw ad cA (xsj k) M) U.heap ∧ va_K D vwCl (xty cA) U ∧ va_D (fun _ => True) (xw ad cA (xsj k) M) ∧ ∀ w ∈ xnW, va_Nw w U)
def xQc (D : va_G) (ad : Nat → Nat → Nat) (cA : Nat → ClassId) (k : Nat) (M : xM) (sz : Nat) (r : Option xV) (M' : xM) : Array Value → State → Outcome → State → Prop :=
  fun _ st oc t => (oc = .returned (r.map (cv ad)) ∧ va_P D vwCl (xw ad cA (xsj k) M') t.heap ∧ va_K D vwCl (xty cA) t) ∧ va_F (va_A (xw ad cA (xsj k) M) sz) st t
theorem xPc_blind {D : va_G} {ad : Nat → Nat → Nat} {cA : Nat → ClassId} {k : Nat} {as : List xV} {M : xM} {sz : Nat} : FrameBlind (xPc D ad cA k as M sz) := by
  intro a U g mk q
  obtain ⟨q0, q1, qP, qK, qD, qN⟩ := q
  exact ⟨q0, q1, qP, va_K.moved (u := U) (U := U.calling g mk a) (Vm.Alike.refl U.vm) qK, qD, xnW_same (s := U) (U := U.calling g mk a) rfl qN⟩
theorem xsl_sl (ad : Nat → Nat → Nat) (as : List xV) : (lg_sl (as.map (cv ad))).length = (xsl as).length := by
  induction as with
  | nil => rfl
  | cons v r ih =>
    have e1 : lg_sl ((v :: r).map (cv ad)) = (if (cv ad v).category = 2 then [Slot.val (cv ad v), Slot.second] else [Slot.val (cv ad v)]) ++ lg_sl (r.map (cv ad)) := by
      simp [lg_sl]
    rw [e1, List.length_append, ih]
    rcases v with x | x | x
    · simp [cv, Value.category, xsl]; omega
    · simp [cv, Value.category, xsl]; omega
    · cases x <;> (simp [cv, Value.category, xsl]; omega)
theorem xsl_at (ad : Nat → Nat → Nat) (as : List xV) : ∀ (i0 i : Nat) (v : xV), (xsl as)[i]? = some (some v) → (i0 + i, cv ad v) ∈ lv_args i0 (as.map (cv ad)) := by
  induction as with
  | nil => intro i0 i v h; simp [xsl] at h
  | cons w r ih =>
    intro i0 i v h
    have hcons : lv_args i0 ((w :: r).map (cv ad)) = (i0, cv ad w) :: lv_args (if (cv ad w).category = 2 then i0 + 2 else i0 + 1) (r.map (cv ad)) := rfl
    rw [hcons]
    rcases w with x | x | x
    · cases i with
      | zero => simp [xsl] at h; subst h; exact List.mem_cons_self
      | succ i =>
        simp only [xsl, List.getElem?_cons_succ] at h
        have := ih (i0 + 1) i v h
        rw [show i0 + (i + 1) = i0 + 1 + i by omega]
        exact List.mem_cons_of_mem _ (by simpa [cv, Value.category] using this)
    · cases i with
      | zero => simp [xsl] at h; subst h; exact List.mem_cons_self
      | succ i => cases i with
        | zero => simp [xsl] at h
        | succ i =>
          simp only [xsl, List.getElem?_cons_succ] at h
          have := ih (i0 + 2) i v h
          rw [show i0 + (i + 1 + 1) = i0 + 2 + i by omega]
          exact List.mem_cons_of_mem _ (by simpa [cv, Value.category] using this)
    · cases i with
      | zero => simp [xsl] at h; subst h; exact List.mem_cons_self
      | succ i =>
        simp only [xsl, List.getElem?_cons_succ] at h
        have := ih (i0 + 1) i v h
        rw [show i0 + (i + 1) = i0 + 1 + i by omega]
        exact List.mem_cons_of_mem _ (by cases x <;> simpa [cv, Value.category] using this)
theorem xen_has {ad : Nat → Nat → Nat} {k : Nat} {as : List xV} (h : (xsl as).length ≤ xmL k) : xlh ad ((lg_sl (as.map (cv ad)) ++ List.replicate (xmL k - (lg_sl (as.map (cv ad))).length) Slot.unset).toArray) (xmL k) (xen k as) := by
  have h1 := lv_entry (as.map (cv ad)) (n := xmL k) (by rw [xsl_sl]; exact h)
  refine ⟨by unfold xen; rw [List.length_append, List.length_replicate]; omega, h1.1, h1.2.1, fun q hq => h1.2.2 q ?_⟩
  obtain ⟨i, w⟩ := q
  obtain ⟨v, hv, rfl⟩ := xlv_mem.mp hq
  unfold xen at hv
  rw [List.getElem?_append] at hv
  split at hv
  · have := xsl_at ad as 0 i v hv
    rw [Nat.zero_add] at this
    exact this
  · rw [List.getElem?_replicate] at hv
    split at hv <;> cases hv
section XSD
variable {p : Program} {l : Launch} {e : Env} {R : Room} {s : State} {m : MethodId} {args : Array Value} {below : List Frame} {meth : Method} {c : Code} {H H0 : Heap} {locs : List Loc} {Q : State → Prop} {D : va_G} {ad : Nat → Nat → Nat} {cA : Nat → ClassId} {A : Nat → Prop} {M M' : xM} {j d pc pc' k : Nat} {L L' : xLs} {st st' : List xV} {ls : Array Slot} {rest : List Value}
theorem x_goon {st0 : List Value} {a : Array Value} {free : Addr → Prop} {r : Option xV} (hr : va_Run p l e R s m args below meth c H locs 0 0 0 0 (F0 m pc ls st0) rest (xQc D ad cA k M H.size r M' a) free) (hS : va_S A H0 H locs) (hA : ∀ q, va_A (xw ad cA (xsj k) M) H.size q → A q) (hf : ∀ q, free q → A q)
    (kk : ∀ (H1 : Heap) (locs1 : List Loc), va_P D vwCl (xw ad cA (xsj k) M') H1 → va_S A H0 H1 locs1 → W p l e R s m args below meth c H1 locs1 0 0 Q (F0 m (pc + 3) ls ((r.map (cv ad)).toList ++ rest))) : W p l e R s m args below meth c H locs 0 0 Q (F0 m pc ls st0) := by
  intro T hT X
  obtain ⟨v, st₀, t, T', L, h0, X', hL, e1, e2, ⟨⟨hv, hp, hk9⟩, hz, hk⟩, st⟩ := hr T hT X
  cases hv
  rw [h0] at hz hk
  obtain ⟨t2, a1, b1⟩ := kk T'.heap (locs ++ L) (by rw [e1]; exact hp)
    ⟨Nat.le_trans hS.1 (by rw [e1]; exact hz), fun q h1 h2 => by rw [e1, hk q (Nat.lt_of_lt_of_le h1 hS.1) (fun z => h2 (hA q z))]; exact hS.2.1 q h1 h2, fun q hq => by
      rcases List.mem_append.mp hq with h | h
      · exact hS.2.2 q h
      · exact hf _ (hL q h)⟩ T' rfl X'
  exact ⟨t2, st t2 a1, b1⟩
theorem iv_cv {kd : Nat} {as : List xV} {r : List xV} {idx : Nat} (h : xinv j idx pc L st M = some (.inr (.inr (k, as, pc', L', r, M')))) : ∃ kd t e, xml (xmo j) idx = some (k, kd) ∧ kd < 2 ∧ xmn k ≤ st.length ∧ st = st.take (xmn k) ++ vR t e :: r ∧ xmt k = t + 1 ∧ e < xcm j t ∧ as = vR t e :: (st.take (xmn k)).reverse ∧ pc' = pc + 3 ∧ L' = L ∧ M' = M ∧ (xsl as).length ≤ xmL k ∧ (r.map xct).sum ≤ 8 := by
  unfold xinv at h
  split at h
  · rename_i k1 kd1 hk
    split at h
    · rename_i hb
      split at h
      · rename_i t1 e1 r1 hdr
        split at h
        · rename_i hc
          unfold xcall at h
          split at h
          · rename_i hz
            cases h
            refine ⟨kd1, t1, e1, hk, hb.1, hb.2, ?_, hc.1, hc.2, rfl, rfl, rfl, rfl, hz.1, hz.2⟩
            rw [← hdr]; exact (List.take_append_drop _ _).symm
          · cases h
        · cases h
      · cases h
    · cases h
  · cases h
theorem iv_cs {as : List xV} {r : List xV} {idx : Nat} (h : xins d j idx pc L st M = some (.inr (.inr (k, as, pc', L', r, M')))) : ∃ kd, xml (xmo j) idx = some (k, kd) ∧ kd = 2 ∧ xmt k = 0 ∧ xmn k ≤ st.length ∧ st = st.take (xmn k) ++ r ∧ as = (st.take (xmn k)).reverse ∧ pc' = pc + 3 ∧ L' = L ∧ M' = M ∧ (xsl as).length ≤ xmL k ∧ (r.map xct).sum ≤ 8 := by
  unfold xins at h
  split at h
  · rename_i k1 kd1 hk
    split at h
    · rename_i hb
      unfold xcall at h
      split at h
      · rename_i hz
        cases h
        exact ⟨kd1, hk, hb.1, hb.2.1, hb.2.2, (List.take_append_drop _ _).symm, rfl, rfl, rfl, rfl, hz.1, hz.2⟩
      · cases h
    · cases h
  · split at h
    · unfold xcopy at h
      split at h
      · split at h <;> cases h
      · cases h
    · split at h
      · unfold xmin at h
        split at h
        · split at h <;> cases h
        · cases h
      · cases h
theorem x_call {as r : List xV} {rr : Option xV} {M1 : xM} (B : xB p s m args c j) (Wd : xWd D ad cA (xsj j) A H0 s M H locs) (hA : ∀ q, H0.size ≤ q → A q) (hl : xlh ad ls (xmL j) L) (h : x1 (d + 1) j (pc, L, st, M) = some (.inr (.inr (k, as, pc', L', r, M'))))
    (hM : k < xms.length → (xsl as).length ≤ xmL k → Met l (xmy k) (xws k) (xrm d) (xPc D ad cA k as M H.size) (xQc D ad cA k M H.size rr M1) 0 0 (va_A (xw ad cA (xsj k) M) H.size))
    (kk : ∀ (H1 : Heap) (locs1 : List Loc), xWd D ad cA (xsj j) A H0 s M1 H1 locs1 → W p l e (xrm (d + 1)) s m args below meth c H1 locs1 0 0 Q (F0 m pc' ls ((rr.toList ++ r).map (cv ad)))) :
    M' = M ∧ L' = L ∧ W p l e (xrm (d + 1)) s m args below meth c H locs 0 0 Q (F0 m pc ls (st.map (cv ad))) := by
  unfold x1 at h
  cases hf : xfet j pc with
  | none => rw [hf] at h; cases h
  | some q =>
    obtain ⟨i, n⟩ := q
    rw [hf] at h
    have h : xi (d + 1) j i pc L st M = some (.inr (.inr (k, as, pc', L', r, M'))) := h
    obtain ⟨hd, hn⟩ := xfet_spec hf
    obtain ⟨hx, hb, hml, hown, hts, hN⟩ := id B
    obtain ⟨hP, hD, hS, hK⟩ := id Wd
    have hFc : ∀ q, va_A (xw ad cA (xsj j) M) H.size q → A q := by
      intro q hq
      rcases hq with ⟨k9, e9, h9⟩ | h9
      · exact hD.2 k9 _ h9
      · exact hA q (Nat.le_trans hS.1 h9)
    have hPc : ∀ U : State, U.heap = H → s.WarmedH U.vm → xsj k = xsj j → xPc D ad cA k as M H.size (as.map (cv ad)).toArray U := fun U hU hW hs =>
      ⟨rfl, by rw [hU], by rw [hU, hs]; exact hP, va_K.moved hW.alike hK, by rw [hs]; exact hD.weaken (fun _ _ _ _ => trivial), xnW_moved hW hN⟩
    have hstat : ∀ {idx kd : Nat}, xml (xmo j) idx = some (k, kd) → k < xms.length ∧ xsj k = xsj j := fun hk => by
      obtain ⟨h1, h2⟩ := xml_ok _ (x_lookup hk)
      exact ⟨h1, h2⟩
    have hrest : ((rr.toList ++ r).map (cv ad)) = (rr.map (cv ad)).toList ++ r.map (cv ad) := by cases rr <;> rfl
    have hgo : ∀ {st0 : List Value} {a : Array Value}, xsj k = xsj j → va_Run p l e (xrm (d + 1)) s m args below meth c H locs 0 0 0 0 (F0 m pc ls st0) (r.map (cv ad)) (xQc D ad cA k M H.size rr M1 a) (va_A (xw ad cA (xsj k) M) H.size) → pc' = pc + 3 → W p l e (xrm (d + 1)) s m args below meth c H locs 0 0 Q (F0 m pc ls st0) := by
      intro st0 a hs hrun hpc
      refine x_goon hrun hS (by rw [hs]; exact hFc) (by rw [hs]; exact hFc) (fun H1 locs1 hP1 hS1 => ?_)
      have := kk H1 locs1 ⟨by rw [← hs]; exact hP1, xw_D M1 hD, hS1, hK⟩
      rw [hrest, hpc] at this
      exact this
    have hsum : (r.map xct).sum ≤ 8 → (((r.map (cv ad)).map fun v => v.category).sum) ≤ 8 := fun h => by
      have := cv_sum8 ad r
      omega
    have hroom : k < xms.length → (xrm d).frames + 1 ≤ (xrm (d + 1)).frames ∧ 8 + (xmL k + 11) + (xrm d).locals ≤ (xrm (d + 1)).locals := fun hk => by
      have h1 : xmL k ≤ 19 := (xmd_own _ (xmd_mem hk)).2.2.2
      refine ⟨Nat.le_refl _, ?_⟩
      show 8 + (xmL k + 11) + 38 * d ≤ 38 * (d + 1)
      omega
    cases i with
    | invokevirtual x =>
      have hd := xd1 hd hn (k := 3) rfl (by decide)
      obtain ⟨kd, t, e', hk, hkd, hlen, hst, hmt, he', has, hpc, hL, hMM, hxl, hr4⟩ := iv_cv (kd := 0) h
      obtain ⟨hkl, hs⟩ := hstat hk
      refine ⟨hMM, hL, ?_⟩
      subst hpc
      have hM := hM hkl hxl
      have hmem := xmd_mem hkl
      obtain ⟨ho1, ho2, ho3, ho4⟩ := xmd_own _ hmem
      have hlink := x_mem_pos _ xml_w _ (List.mem_map.mpr ⟨_, x_lookup hk, rfl⟩)
      have hinst : Cond.instanceMethod (xmy k) ∈ lw_tbl := by
        have := x_mem_pos _ xin_w _ (List.mem_map.mpr ⟨_, hmem, rfl⟩)
        unfold xinW at this
        rw [if_neg (by rw [show (xmd k).2.2.2.2.2.1 = t + 1 from hmt]; omega)] at this
        exact this
      have hsel : Cond.selects (xmy k).cls (xmy k) (xmy k) ∈ lw_tbl := by
        have h9 : xseW (xmd k) ∈ (xms.filter (fun q => q.2.2.2.2.2.1 != 0)).map xseW := List.mem_map.mpr ⟨_, List.mem_filter.mpr ⟨hmem, by rw [show (xmd k).2.2.2.2.2.1 = t + 1 from hmt]; rfl⟩, rfl⟩
        rw [xse_w] at h9
        obtain ⟨q, -, hq⟩ := List.mem_filterMap.mp h9
        exact List.mem_of_getElem? hq
      have hini : Cond.initialized (xmy k).cls ∈ lw_tbl := x_mem_pos _ xii_w _ (List.mem_map.mpr ⟨_, hmem, rfl⟩)
      obtain ⟨q0, hq0⟩ := xcs_at he'
      have hrc := xrc_ok _ hmem (by rw [show (xmd k).2.2.2.2.2.1 = t + 1 from hmt]; omega)
      rw [show (xmd k).2.2.2.2.2.1 = t + 1 from hmt, Nat.add_sub_cancel] at hrc
      have hrecv : ∃ cellB : Cell, H[ad t e']? = some cellB ∧ cellB.vm.isStatics = false ∧ s.vm.findClass (xmy k).cls = some cellB.cls := by
        cases hob : xob t with
        | none => rw [hob] at hrc; cases hrc
        | some ci =>
          rw [hob] at hrc
          cases hci : vwCl[ci]? with
          | none => simp [hci] at hrc
          | some rc =>
            simp only [Option.bind_some, hci, Option.map_some, Option.some.injEq] at hrc
            have hw := xw_at (ad := ad) (cA := cA) M hq0
            have hcell : xcell ad cA M t e' = .inr (ci, xfs ad M t e') := by unfold xcell; rw [hob]
            rw [hcell] at hw
            have := va_recv hK hP hci hw
            rw [hrc] at this
            exact this
      have hPV : PreV s H (xmy k).cls (ad t e') (xPc D ad cA k as M H.size) ((st.take (xmn k)).reverse.map (cv ad)) := by
        refine ⟨xPc_blind, hrecv, fun U hU hW => ?_⟩
        have := hPc U hU hW hs
        rw [has] at this ⊢
        exact this
      have hAl : ((st.take (xmn k)).reverse.map (cv ad)).length = xmn k := by simp; omega
      have hstk : (F0 m pc ls (st.map (cv ad))).stack = ((st.take (xmn k)).reverse.map (cv ad)).reverse ++ .ref (ad t e') :: r.map (cv ad) := by
        show st.map (cv ad) = _
        rw [← List.map_reverse, List.reverse_reverse]
        conv => lhs; rw [hst]
        rw [List.map_append]
        rfl
      by_cases hk1 : kd = 1
      · have hl2 : Cond.methodLinkNest (xon (xmo j)) x (xmy k) RX2 ∈ lw_tbl := by unfold xmlW at hlink; rw [if_pos hk1] at hlink; exact hlink
        exact hgo hs (va_runVN (As := (st.take (xmn k)).reverse.map (cv ad)) ⟨hx, hb, hml, hown, hts⟩ hM ⟨va_cnB (xmn k) hts (xws_good hkl) rfl rfl rfl (hN _ (xn_of hl2 rfl)) (hts _ (xg_of hini rfl)) ho3 (hroom hkl), hts _ (xg_of hinst rfl), hts _ (xg_of hsel rfl)⟩ hPV rfl hAl hl.2.1 hstk (lv_room (hsum hr4)) hd ⟨Nat.zero_le _, Nat.zero_le _⟩) rfl
      · have hl2 : Cond.methodLink (xon (xmo j)) x (xmy k) ∈ lw_tbl := by unfold xmlW at hlink; rw [if_neg hk1] at hlink; exact hlink
        exact hgo hs (va_runV (As := (st.take (xmn k)).reverse.map (cv ad)) ⟨hx, hb, hml, hown, hts⟩ hM ⟨callB_of (xmn k) hts (xws_good hkl) rfl rfl rfl (hts _ (xg_of hini rfl)) (hts _ (xg_of hl2 rfl)) ho3 (hroom hkl), hts _ (xg_of hinst rfl), hts _ (xg_of hsel rfl)⟩ hPV rfl hAl hl.2.1 hstk (lv_room (hsum hr4)) hd ⟨Nat.zero_le _, Nat.zero_le _⟩) rfl
    | invokestatic x =>
      have hd := xd1 hd hn (k := 3) rfl (by decide)
      obtain ⟨kd, hk, hkd, hmt, hlen, hst, has, hpc, hL, hMM, hxl, hr4⟩ := iv_cs h
      obtain ⟨hkl, hs⟩ := hstat hk
      refine ⟨hMM, hL, ?_⟩
      subst hpc
      have hM := hM hkl hxl
      have hmem := xmd_mem hkl
      obtain ⟨ho1, ho2, ho3, ho4⟩ := xmd_own _ hmem
      have hlink := x_mem_pos _ xml_w _ (List.mem_map.mpr ⟨_, x_lookup hk, rfl⟩)
      have hsta : Cond.static (xmy k) ∈ lw_tbl := by
        have := x_mem_pos _ xin_w _ (List.mem_map.mpr ⟨_, hmem, rfl⟩)
        unfold xinW at this
        rw [if_pos (show (xmd k).2.2.2.2.2.1 = 0 from hmt)] at this
        exact this
      have hini : Cond.initialized (xmy k).cls ∈ lw_tbl := x_mem_pos _ xii_w _ (List.mem_map.mpr ⟨_, hmem, rfl⟩)
      have hl2 : Cond.methodLink (xon (xmo j)) x (xmy k) ∈ lw_tbl := by unfold xmlW at hlink; rw [if_neg (show ¬ kd = 1 by omega)] at hlink; exact hlink
      have hPS : PreS s H (xPc D ad cA k as M H.size) ((st.take (xmn k)).reverse.map (cv ad)) := by
        refine ⟨xPc_blind, fun U hU hW => ?_⟩
        have := hPc U hU hW hs
        rw [has] at this ⊢
        exact this
      have hAl : ((st.take (xmn k)).reverse.map (cv ad)).length = xmn k := by simp; omega
      have hstk : (F0 m pc ls (st.map (cv ad))).stack = ((st.take (xmn k)).reverse.map (cv ad)).reverse ++ r.map (cv ad) := by
        show st.map (cv ad) = _
        rw [← List.map_reverse, List.reverse_reverse]
        conv => lhs; rw [hst]
        rw [List.map_append]
      exact hgo hs (va_runS (As := (st.take (xmn k)).reverse.map (cv ad)) ⟨hx, hb, hml, hown, hts⟩ hM ⟨callB_of (xmn k) hts (xws_good hkl) rfl rfl rfl (hts _ (xg_of hini rfl)) (hts _ (xg_of hl2 rfl)) ho3 (hroom hkl), hts _ (xg_of hsta rfl)⟩ hPS rfl hAl hl.2.1 hstk (lv_room (hsum hr4)) hd ⟨Nat.zero_le _, Nat.zero_le _⟩) rfl
    | _ => first | cases h | (simp only [xi, xldI, xldJ, xldA, xstI, xstA, xb2, xj2, xbr, xget, xput, xalI, xalJ, xalA, xasI, xasJ, xasA, xlen, xret, xreA, xsw] at h; (repeat' (split at h)); (all_goals cases h))
end XSD
