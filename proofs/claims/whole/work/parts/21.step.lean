def xgW : List Cond := lw_tbl.filter goodWord
def xisN : Cond → Bool
  | .fieldLinkNest .. => true
  | .methodLinkNest .. => true
  | _ => false
def xnW : List Cond := lw_tbl.filter xisN
def xB (p : Program) (s : State) (m : MethodId) (args : Array Value) (c : Code) (j : Nat) : Prop :=
  p.tables.exec = Jvm.exec ∧ c.code = xmc j ∧ c.maxLocals = xmL j ∧ s.vm.findClass (xon (xmo j)) = some m.cls ∧ (∀ w ∈ xgW, w.before args s = true) ∧ ∀ w ∈ xnW, va_Nw w s
def xWd (D : va_G) (ad : Nat → Nat → Nat) (cA : Nat → ClassId) (sy : Nat) (A : Nat → Prop) (H0 : Heap) (s : State) (M : xM) (H : Heap) (locs : List Loc) : Prop :=
  va_P D vwCl (xw ad cA sy M) H ∧ va_D A (xw ad cA sy M) ∧ va_S A H0 H locs ∧ va_K D vwCl (xty cA) s
def xrm (d : Nat) : Room := { frames := d, cells := 0, slots := 0, locals := 38 * d }
theorem xg_of {w : Cond} (h : w ∈ lw_tbl) (hg : goodWord w = true) : w ∈ xgW := List.mem_filter.mpr ⟨h, hg⟩
theorem xn_of {w : Cond} (h : w ∈ lw_tbl) (hg : xisN w = true) : w ∈ xnW := List.mem_filter.mpr ⟨h, hg⟩
theorem xty_at {cA : Nat → ClassId} {t e : Nat} (h1 : xob t = none) (h2 : e < xcn t) : ∃ t0 : Nat, (xty cA)[t0]? = some (cA t, xat t) := by
  have hm : (cA t, xat t) ∈ xty cA := List.mem_map.mpr ⟨t, List.mem_filter.mpr ⟨List.mem_range.mpr (xcn_lt h2), by simp only [decide_eq_true_eq]; exact ⟨h1, Nat.lt_of_le_of_lt (Nat.zero_le _) h2⟩⟩, rfl⟩
  obtain ⟨i, hi, he⟩ := List.getElem_of_mem hm
  exact ⟨i, by rw [List.getElem?_eq_getElem hi, he]⟩
theorem xat_ok : ∀ t, t < 50 → (xob t = none → (xek t = 0 → xat t = .int) ∧ (xek t = 1 → xat t = .boolean) ∧ (xek t = 2 → xat t = .long) ∧ (10 ≤ xek t → ∃ ci, ci < 4 ∧ ∃ r, vwCl[ci]? = some r ∧ xat t = .object r.1 ∧ (xek t < 100 → xob (xek t - 10) = some ci))) := by
  intro t ht h0
  have h : (List.range 50).all (fun t => decide (xob t = none → (xek t = 0 → xat t = .int) ∧ (xek t = 1 → xat t = .boolean) ∧ (xek t = 2 → xat t = .long))) = true := by decide +kernel
  have h1 := of_decide_eq_true (List.all_eq_true.mp h t (List.mem_range.mpr ht)) h0
  have h2 : (List.range 50).all (fun t => decide (xob t = none ∧ 10 ≤ xek t → (t = 10 ∨ t = 11 ∨ t = 12))) = true := by decide +kernel
  refine ⟨h1.1, h1.2.1, h1.2.2, fun hk => ?_⟩
  rcases of_decide_eq_true (List.all_eq_true.mp h2 t (List.mem_range.mpr ht)) ⟨h0, hk⟩ with rfl | rfl | rfl
  · exact ⟨1, by decide, _, rfl, rfl, fun h => absurd h (by decide)⟩
  · exact ⟨0, by decide, _, rfl, rfl, fun h => absurd h (by decide)⟩
  · exact ⟨0, by decide, _, rfl, rfl, fun _ => rfl⟩
theorem xcls {ci : Nat} {q : vw_C} (h : vwCl[ci]? = some q) : (∀ w ∈ u_ws q.1 q.2.1 q.2.2, w ∈ xgW) ∧ (∃ ty0 : Nat → FieldType, ∀ k, k < q.2.2 → parseFieldDescriptor (q.2.1 k).2.2.1 = some (ty0 k)) ∧ (∀ a, a < q.2.2 → ∀ b, b < q.2.2 → a ≠ b → (q.2.1 a).2.1 ≠ (q.2.1 b).2.1) := by
  match ci, h with
  | 0, h => cases h; exact ⟨fun w hw => xg_of (x_mem_pos _ xlay_0 w hw) (List.all_eq_true.mp xlag_0 w hw), ⟨_, tyX0_ok⟩, nmX0⟩
  | 1, h => cases h; exact ⟨fun w hw => xg_of (x_mem_pos _ xlay_1 w hw) (List.all_eq_true.mp xlag_1 w hw), ⟨_, tyX1_ok⟩, nmX1⟩
  | 2, h => cases h; exact ⟨fun w hw => xg_of (x_mem_pos _ xlay_2 w hw) (List.all_eq_true.mp xlag_2 w hw), ⟨_, tyX2_ok⟩, nmX2⟩
  | 3, h => cases h; exact ⟨fun w hw => xg_of (x_mem_pos _ xlay_3 w hw) (List.all_eq_true.mp xlag_3 w hw), ⟨_, tyX3_ok⟩, nmX3⟩
  | n + 4, h => simp [vwCl] at h
def xisOb (r : Option FieldType) : Bool := match r with
  | some (.object _) => true
  | _ => false
def xfok (t k : Nat) : Bool := match xob t with
  | some ci => (match vwCl[ci]? with
    | some r => (match (xfk t)[k]? with
      | some kd => decide (k < r.2.2) && decide (r.2.2 = (xfk t).length) && decide ((r.2.1 k).2.2.2 = decide (100 ≤ kd)) && decide (kd = 0 → parseFieldDescriptor (r.2.1 k).2.2.1 = some .int) && decide (kd = 1 → parseFieldDescriptor (r.2.1 k).2.2.1 = some .boolean) && decide (kd = 2 → parseFieldDescriptor (r.2.1 k).2.2.1 = some .long) && decide (10 ≤ kd ∧ kd < 100 → xisOb (parseFieldDescriptor (r.2.1 k).2.2.1) = true)
      | none => true)
    | none => false)
  | none => decide (xfk t = [])
set_option maxRecDepth 100000 in
theorem xfok_all : (List.range 50).all (fun t => (List.range 45).all (fun k => xfok t k)) = true := by decide +kernel
theorem xfk_lt : ∀ t k r, (xfk t)[k]? = some r → t < 50 ∧ k < 45 := by
  intro t k r h
  have h50 : t < 50 := by
    rcases Nat.lt_or_ge t 50 with q | q
    · exact q
    · have h0 : xfk t = [] := by unfold xfk; rw [List.getD_eq_getElem?_getD, List.getElem?_eq_none (show xfkL.length ≤ t from q)]; rfl
      rw [h0] at h
      simp at h
  have hl : (List.range 50).all (fun t => decide ((xfk t).length ≤ 45)) = true := by decide +kernel
  have h2 := of_decide_eq_true (List.all_eq_true.mp hl t (List.mem_range.mpr h50))
  exact ⟨h50, Nat.lt_of_lt_of_le (List.getElem?_eq_some_iff.mp h).1 h2⟩
theorem xf_ok {t k kd : Nat} (h : (xfk t)[k]? = some kd) : ∃ (ci : Nat) (r : vw_C), xob t = some ci ∧ vwCl[ci]? = some r ∧ k < r.2.2 ∧ r.2.2 = (xfk t).length ∧ (r.2.1 k).2.2.2 = decide (100 ≤ kd) ∧ (kd = 0 → parseFieldDescriptor (r.2.1 k).2.2.1 = some .int) ∧ (kd = 1 → parseFieldDescriptor (r.2.1 k).2.2.1 = some .boolean) ∧ (kd = 2 → parseFieldDescriptor (r.2.1 k).2.2.1 = some .long) ∧ (10 ≤ kd ∧ kd < 100 → ∃ n, parseFieldDescriptor (r.2.1 k).2.2.1 = some (.object n)) := by
  obtain ⟨h1, h2⟩ := xfk_lt t k kd h
  have ha := List.all_eq_true.mp (List.all_eq_true.mp xfok_all t (List.mem_range.mpr h1)) k (List.mem_range.mpr h2)
  unfold xfok at ha
  cases ho : xob t with
  | none =>
    rw [ho] at ha
    simp only [decide_eq_true_eq] at ha
    rw [ha] at h
    simp at h
  | some ci =>
    rw [ho] at ha
    simp only at ha
    cases hc : vwCl[ci]? with
    | none => rw [hc] at ha; cases ha
    | some r =>
      rw [hc, h] at ha
      simp only [Bool.and_eq_true, decide_eq_true_eq] at ha
      obtain ⟨⟨⟨⟨⟨⟨a1, a2⟩, a3⟩, a4⟩, a5⟩, a6⟩, a7⟩ := ha
      refine ⟨ci, r, rfl, hc, a1, a2, a3, a4, a5, a6, fun hk => ?_⟩
      have := a7 hk
      unfold xisOb at this
      split at this
      · exact ⟨_, ‹_›⟩
      · cases this
theorem xfl_ok {o i t k : Nat} {nb : Bool} (h : xfl o i = some (t, k, nb)) : xflW ((o, i), t, k, nb) ∈ lw_tbl := x_mem_pos _ xfl_w _ (List.mem_map.mpr ⟨_, x_lookup h, rfl⟩)
section XST
variable {p : Program} {l : Launch} {e : Env} {R : Room} {s : State} {m : MethodId} {args : Array Value} {below : List Frame} {meth : Method} {c : Code} {H H0 : Heap} {locs : List Loc} {Q : State → Prop} {D : va_G} {ad : Nat → Nat → Nat} {cA : Nat → ClassId} {A : Nat → Prop} {M : xM} {j pc : Nat} {ls : Array Slot} {rest : List Value}
theorem xgv_cv {t e k r : Nat} {v : xV} (h : (xfk t)[k]? = some r) (hv : xgv M t e k = some v) : xfv ad M t e k r = cv ad v := by
  unfold xgv at hv
  rw [h] at hv
  simp only at hv
  unfold xfv
  by_cases h1 : r ≤ 1
  · rw [if_pos h1] at hv ⊢; cases hv; rfl
  · rw [if_neg h1] at hv ⊢
    by_cases h2 : r = 2
    · rw [if_pos h2] at hv ⊢; cases hv; rfl
    · rw [if_neg h2] at hv ⊢
      by_cases h3 : r < 100
      · rw [if_pos h3] at hv ⊢
        cases hv
        cases M.2.2 t e k <;> rfl
      · rw [if_neg h3] at hv ⊢; cases hv; rfl
theorem xs_get {idx t e' k : Nat} {nb : Bool} {v : xV} (B : xB p s m args c j) (Wd : xWd D ad cA (xsj j) A H0 s M H locs) (hd : decode (xmc j) pc = .ok (.getfield idx, 3)) (hf : xfl (xmo j) idx = some (t, k, nb)) (he : e' < xcm j t) (hv : xgv M t e' k = some v)
    (kk : W p l e R s m args below meth c H locs 0 0 Q (F0 m (pc + 3) ls (cv ad v :: rest))) : W p l e R s m args below meth c H locs 0 0 Q (F0 m pc ls (.ref (ad t e') :: rest)) := by
  obtain ⟨hx, hb, hml, hown, hts, hN⟩ := B
  obtain ⟨hP, hD, hS, hK⟩ := Wd
  obtain ⟨q0, hq0⟩ := xcs_at he
  cases hk : (xfk t)[k]? with
  | none => unfold xgv at hv; rw [hk] at hv; cases hv
  | some r =>
    obtain ⟨ci, rc, ho, hc, hkN, -⟩ := xf_ok hk
    obtain ⟨hin, -, -⟩ := xcls hc
    have hw := xw_at (ad := ad) (cA := cA) M hq0
    have hcell : xcell ad cA M t e' = .inr (ci, xfs ad M t e') := by unfold xcell; rw [ho]
    rw [hcell] at hw
    have hfv : (xfs ad M t e')[k]? = some (cv ad v) := by rw [xfs_at hk, xgv_cv hk hv]
    have hl := xfl_ok hf
    unfold xflW at hl
    rw [ho] at hl
    simp only [Option.getD_some] at hl
    rw [hc] at hl
    cases nb with
    | true =>
      simp only [if_true] at hl
      exact va_getN (D := D) (C := rc.1) (T := rc.2.1) (N := rc.2.2) hx hb hts hin hown hK hP q0 hw hc k hkN (va_Nw.use rfl (hN _ (xn_of hl rfl))) (fun _ h => h) hfv hd kk
    | false =>
      simp only [Bool.false_eq_true, if_false] at hl
      exact va_get (D := D) (C := rc.1) (T := rc.2.1) (N := rc.2.2) hx hb hts hin hown hK hP q0 hw hc k hkN (hts _ (xg_of hl rfl)) (fun _ h => h) hfv hd kk
theorem xpv_I {t e k r : Nat} {x : Int32} {M' : xM} (hk : (xfk t)[k]? = some r) (hv : xpv M t e k (.inl x) = some M') : (r = 0 ∨ r = 1 ∧ (x = 0 ∨ x = 1)) ∧ M' = mI M t e k x := by
  unfold xpv at hv
  rw [hk] at hv
  match r, hv with
  | 0, hv => cases hv; exact ⟨Or.inl rfl, rfl⟩
  | 1, hv =>
    simp only at hv
    split at hv
    · cases hv; exact ⟨Or.inr ⟨rfl, ‹_›⟩, rfl⟩
    · cases hv
  | 2, hv => simp at hv
  | r + 3, hv => simp at hv
theorem xpv_J {t e k r : Nat} {x : Int64} {M' : xM} (hk : (xfk t)[k]? = some r) (hv : xpv M t e k (.inr (.inl x)) = some M') : r = 2 ∧ M' = mJ M t e k x := by
  unfold xpv at hv
  rw [hk] at hv
  match r, hv with
  | 0, hv => simp at hv
  | 1, hv => simp at hv
  | 2, hv => cases hv; exact ⟨rfl, rfl⟩
  | r + 3, hv => simp at hv
theorem xpv_R {t e k r : Nat} {o : Option (Nat × Nat)} {M' : xM} (hk : (xfk t)[k]? = some r) (hv : xpv M t e k (.inr (.inr o)) = some M') : (10 ≤ r ∧ r < 100) ∧ (∀ q, o = some q → q.1 = r - 10) ∧ M' = mR M t e k (o.map fun q => q.2) := by
  unfold xpv at hv
  rw [hk] at hv
  cases o with
  | none =>
    match r, hv with
    | 0, hv => simp at hv
    | 1, hv => simp at hv
    | 2, hv => simp at hv
    | r + 3, hv =>
      simp only at hv
      split at hv
      · cases hv; exact ⟨‹_›, (fun q h => nomatch h), rfl⟩
      · cases hv
  | some q =>
    obtain ⟨t', e'⟩ := q
    match r, hv with
    | 0, hv => simp at hv
    | 1, hv => simp at hv
    | 2, hv => simp at hv
    | r + 3, hv =>
      simp only at hv
      split at hv
      · rename_i hb
        cases hv; exact ⟨⟨hb.1, hb.2.1⟩, fun q h => by cases h; exact hb.2.2, rfl⟩
      · cases hv
theorem xpv_cv {t e k : Nat} {v : xV} {M' : xM} (hv : xpv M t e k v = some M') : ∃ (r : Nat) (ty : FieldType) (ci : Nat) (rc : vw_C), (xfk t)[k]? = some r ∧ xag M M' t e k ∧ xfv ad M' t e k r = cv ad v ∧ xob t = some ci ∧ vwCl[ci]? = some rc ∧ k < rc.2.2 ∧ rc.2.2 = (xfk t).length ∧ (rc.2.1 k).2.2.2 = false ∧ parseFieldDescriptor (rc.2.1 k).2.2.1 = some ty ∧ narrow ty (cv ad v) = cv ad v ∧ fits ty (cv ad v) = true := by
  cases hk : (xfk t)[k]? with
  | none => unfold xpv at hv; rw [hk] at hv; simp at hv
  | some r =>
    obtain ⟨ci, rc, ho, hc, hkN, hlen, hfin, t0, t1, t2, t3⟩ := xf_ok hk
    rcases v with x | x | o
    · obtain ⟨hr, rfl⟩ := xpv_I hk hv
      rcases hr with rfl | ⟨rfl, hb⟩
      · exact ⟨0, .int, ci, rc, rfl, xag_I, by simp [xfv, mI, xu, cv], ho, hc, hkN, hlen, by rw [hfin]; rfl, t0 rfl, rfl, rfl⟩
      · refine ⟨1, .boolean, ci, rc, rfl, xag_I, by simp [xfv, mI, xu, cv], ho, hc, hkN, hlen, by rw [hfin]; rfl, t1 rfl, ?_, ?_⟩
        · rcases hb with rfl | rfl <;> rfl
        · rcases hb with rfl | rfl <;> rfl
    · obtain ⟨rfl, rfl⟩ := xpv_J hk hv
      exact ⟨2, .long, ci, rc, rfl, xag_J, by simp [xfv, mJ, xu, cv], ho, hc, hkN, hlen, by rw [hfin]; rfl, t2 rfl, rfl, rfl⟩
    · obtain ⟨hb, hq, rfl⟩ := xpv_R hk hv
      obtain ⟨n, hn⟩ := t3 hb
      have h1 : ¬ r ≤ 1 := by omega
      have h2 : ¬ r = 2 := by omega
      refine ⟨r, .object n, ci, rc, rfl, xag_R, ?_, ho, hc, hkN, hlen, by rw [hfin]; simp; omega, hn, ?_, ?_⟩
      · cases o with
        | none => simp [xfv, h1, h2, hb.2, mR, xu, cv, va_rf]
        | some q => simp [xfv, h1, h2, hb.2, mR, xu, cv, va_rf, hq q rfl]
      · cases o <;> rfl
      · cases o <;> rfl
theorem xs_put {idx t e' k : Nat} {nb : Bool} {v : xV} {M' : xM} (B : xB p s m args c j) (Wd : xWd D ad cA (xsj j) A H0 s M H locs) (hd : decode (xmc j) pc = .ok (.putfield idx, 3)) (hf : xfl (xmo j) idx = some (t, k, nb)) (he : e' < xcm j t) (hv : xpv M t e' k v = some M')
    (kk : ∀ (H1 : Heap) (locs1 : List Loc), xWd D ad cA (xsj j) A H0 s M' H1 locs1 → W p l e R s m args below meth c H1 locs1 0 0 Q (F0 m (pc + 3) ls rest)) : W p l e R s m args below meth c H locs 0 0 Q (F0 m pc ls (cv ad v :: .ref (ad t e') :: rest)) := by
  obtain ⟨hx, hb, hml, hown, hts, hN⟩ := B
  obtain ⟨hP, hD, hS, hK⟩ := Wd
  obtain ⟨q0, hq0⟩ := xcs_at he
  obtain ⟨r, ty, ci, rc, hk, hag, hfv, ho, hc, hkN, hlen, hfin, hty, hnar, hfit⟩ := xpv_cv (ad := ad) hv
  obtain ⟨hin, ⟨ty0, hty0⟩, hnm⟩ := xcls hc
  have hw := xw_at (ad := ad) (cA := cA) M hq0
  have hcell : ∀ N : xM, xcell ad cA N t e' = .inr (ci, xfs ad N t e') := fun N => by unfold xcell; rw [ho]
  rw [hcell] at hw
  have hset : (xw ad cA (xsj j) M).set q0 (ad t e', .inr (ci, (xfs ad M t e').set k (cv ad v))) = xw ad cA (xsj j) M' := xw_set hD hq0 (by rw [hcell, ← hfv, xfs_set hk hag]) (fun t' e'' hne => xag_cell hag t' e'' hne)
  have hl := xfl_ok hf
  unfold xflW at hl
  rw [ho] at hl
  simp only [Option.getD_some] at hl
  rw [hc] at hl
  have hkl : k < (xfs ad M t e').length := by rw [xfs_len, ← hlen]; exact hkN
  cases nb with
  | true =>
    simp only [if_true] at hl
    refine va_putN (D := D) (C := rc.1) (T := rc.2.1) (N := rc.2.2) hx hb hts hin ty0 hty0 hnm hown hK hP hD hS q0 hw hc k hkN (va_Nw.use rfl (hN _ (xn_of hl rfl))) (fun _ h => h) hfin hty hnar hfit hkl hd (fun H1 locs1 hP1 hD1 hS1 => ?_)
    rw [hset] at hP1 hD1
    exact kk H1 locs1 ⟨hP1, hD1, hS1, hK⟩
  | false =>
    simp only [Bool.false_eq_true, if_false] at hl
    refine va_put (D := D) (C := rc.1) (T := rc.2.1) (N := rc.2.2) hx hb hts hin ty0 hty0 hnm hown hK hP hD hS q0 hw hc k hkN (hts _ (xg_of hl rfl)) (fun _ h => h) hfin hty hnar hfit hkl hd (fun H1 locs1 hP1 hD1 hS1 => ?_)
    rw [hset] at hP1 hD1
    exact kk H1 locs1 ⟨hP1, hD1, hS1, hK⟩
end XST
