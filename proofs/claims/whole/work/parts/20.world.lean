def cv (ad : Nat → Nat → Nat) : xV → Value
  | .inl x => .int x
  | .inr (.inl x) => .long x
  | .inr (.inr none) => .null
  | .inr (.inr (some q)) => .ref (ad q.1 q.2)
theorem cv_o (ad : Nat → Nat → Nat) (o : Option (Nat × Nat)) : cv ad (.inr (.inr o)) = va_rf (o.map fun q => ad q.1 q.2) := by cases o <;> rfl
def xfv (ad : Nat → Nat → Nat) (M : xM) (t e k r : Nat) : Value := if r ≤ 1 then .int (M.1 t e k) else if r = 2 then .long (M.2.1 t e k) else if r < 100 then va_rf ((M.2.2 t e k).map (ad (r - 10))) else .ref (ad (r - 100) e)
def xfs (ad : Nat → Nat → Nat) (M : xM) (t e : Nat) : List Value := (xfk t).zipIdx.map (fun q => xfv ad M t e q.2 q.1)
def xar (ad : Nat → Nat → Nat) (M : xM) (t e : Nat) : vp_A := (xal t, if xek t ≤ 1 then .inl (M.1 t e) else if xek t = 2 then .inr (.inl (M.2.1 t e)) else .inr (.inr (.inr (.inr (fun j => if xek t < 100 then (M.2.2 t e j).map (ad (xek t - 10)) else some (ad (xek t - 100) j))))))
def xcell (ad : Nat → Nat → Nat) (cA : Nat → ClassId) (M : xM) (t e : Nat) : va_E := match xob t with
  | some ci => .inr (ci, xfs ad M t e)
  | none => .inl (cA t, xar ad M t e)
def xcs (sy : Nat) : List (Nat × Nat) := ((List.range 50).filter (fun t => decide (xsy t = sy))).flatMap (fun t => (List.range (xcn t)).map (fun e => (t, e)))
def xw (ad : Nat → Nat → Nat) (cA : Nat → ClassId) (sy : Nat) (M : xM) : va_W := (xcs sy).map (fun q => (ad q.1 q.2, xcell ad cA M q.1 q.2))
def xty (cA : Nat → ClassId) : List (ClassId × FieldType) := ((List.range 50).filter (fun t => decide (xob t = none ∧ 0 < xcn t))).map (fun t => (cA t, xat t))
theorem xcn_lt {t e : Nat} (h : e < xcn t) : t < 50 := by
  rcases Nat.lt_or_ge t 50 with q | q
  · exact q
  · unfold xcn at h
    rw [List.getD_eq_getElem?_getD, List.getElem?_eq_none q] at h
    exact absurd h (Nat.not_lt_zero _)
theorem xcm_lt {j t e : Nat} (h : e < xcm j t) : xsy t = xsj j ∧ e < xcn t := by
  unfold xcm at h
  split at h
  · exact ⟨‹_›, h⟩
  · exact absurd h (Nat.not_lt_zero _)
theorem xcs_mem {sy t e : Nat} (h1 : xsy t = sy) (h2 : e < xcn t) : (t, e) ∈ xcs sy := by
  unfold xcs
  rw [List.mem_flatMap]
  exact ⟨t, List.mem_filter.mpr ⟨List.mem_range.mpr (xcn_lt h2), by simpa using h1⟩, List.mem_map.mpr ⟨e, List.mem_range.mpr h2, rfl⟩⟩
theorem xcs_of {sy t e : Nat} (h : (t, e) ∈ xcs sy) : xsy t = sy ∧ e < xcn t := by
  unfold xcs at h
  rw [List.mem_flatMap] at h
  obtain ⟨t', h1, h2⟩ := h
  obtain ⟨e', h3, h4⟩ := List.mem_map.mp h2
  cases h4
  exact ⟨by simpa using (List.mem_filter.mp h1).2, List.mem_range.mp h3⟩
theorem xcs_at {j t e : Nat} (h : e < xcm j t) : ∃ q0 : Nat, (xcs (xsj j))[q0]? = some (t, e) := by
  obtain ⟨h1, h2⟩ := xcm_lt h
  obtain ⟨i, hi, he⟩ := List.getElem_of_mem (xcs_mem h1 h2)
  exact ⟨i, by rw [List.getElem?_eq_getElem hi, he]⟩
theorem xw_at {ad : Nat → Nat → Nat} {cA : Nat → ClassId} {sy t e q0 : Nat} (M : xM) (h : (xcs sy)[q0]? = some (t, e)) : (xw ad cA sy M)[q0]? = some (ad t e, xcell ad cA M t e) := by
  unfold xw
  rw [List.getElem?_map, h]
  rfl
theorem xw_len {ad : Nat → Nat → Nat} {cA : Nat → ClassId} {sy : Nat} (M : xM) : (xw ad cA sy M).length = (xcs sy).length := by unfold xw; exact List.length_map _
theorem xw_D {ad : Nat → Nat → Nat} {cA : Nat → ClassId} {sy : Nat} {A : Nat → Prop} {M : xM} (M' : xM) (h : va_D A (xw ad cA sy M)) : va_D A (xw ad cA sy M') := by
  have at' : ∀ (N N' : xM) (i : Nat) (q : Nat × va_E), (xw ad cA sy N)[i]? = some q → ∃ q' : Nat × va_E, (xw ad cA sy N')[i]? = some q' ∧ q'.1 = q.1 := by
    intro N N' i q hq
    unfold xw at hq ⊢
    rw [List.getElem?_map] at hq ⊢
    cases hx : (xcs sy)[i]? with
    | none => rw [hx] at hq; cases hq
    | some x =>
      rw [hx] at hq
      cases hq
      exact ⟨_, rfl, rfl⟩
  refine ⟨fun i j p q hp hq hpq => ?_, fun k q hq => ?_⟩
  · obtain ⟨p', hp', e1⟩ := at' M' M i p hp
    obtain ⟨q', hq', e2⟩ := at' M' M j q hq
    exact h.1 i j p' q' hp' hq' (by rw [e1, e2, hpq])
  · obtain ⟨q', hq', e2⟩ := at' M' M k q hq
    rw [← e2]
    exact h.2 k q' hq'
theorem xw_set {ad : Nat → Nat → Nat} {cA : Nat → ClassId} {sy t e q0 : Nat} {A : Nat → Prop} {M M' : xM} {y : va_E} (hD : va_D A (xw ad cA sy M)) (hq : (xcs sy)[q0]? = some (t, e)) (hs : xcell ad cA M' t e = y) (ho : ∀ t' e', ¬ (t' = t ∧ e' = e) → xcell ad cA M' t' e' = xcell ad cA M t' e') : (xw ad cA sy M).set q0 (ad t e, y) = xw ad cA sy M' := by
  apply List.ext_getElem?
  intro i
  rw [List.getElem?_set]
  have hl : q0 < (xw ad cA sy M).length := by rw [xw_len]; exact (List.getElem?_eq_some_iff.mp hq).1
  by_cases hi : q0 = i
  · subst hi
    rw [if_pos rfl, if_pos hl, xw_at M' hq, hs]
  · rw [if_neg hi]
    cases hx : (xcs sy)[i]? with
    | none =>
      have : (xcs sy).length ≤ i := List.getElem?_eq_none_iff.mp hx
      rw [List.getElem?_eq_none (by rw [xw_len]; exact this), List.getElem?_eq_none (by rw [xw_len]; exact this)]
    | some x =>
      obtain ⟨t', e'⟩ := x
      rw [xw_at M hx, xw_at M' hx, ho t' e' (fun h => hi (hD.1 q0 i _ _ (xw_at M hq) (xw_at M hx) (by rw [h.1, h.2])))]
def xag (M M' : xM) (t e k : Nat) : Prop := ∀ t' e' k', ¬ (t' = t ∧ e' = e ∧ k' = k) → M'.1 t' e' k' = M.1 t' e' k' ∧ M'.2.1 t' e' k' = M.2.1 t' e' k' ∧ M'.2.2 t' e' k' = M.2.2 t' e' k'
theorem xag_I {M : xM} {t e k : Nat} {v : Int32} : xag M (mI M t e k v) t e k := fun t' e' k' h => ⟨by simp only [mI, xu, if_neg h], rfl, rfl⟩
theorem xag_J {M : xM} {t e k : Nat} {v : Int64} : xag M (mJ M t e k v) t e k := fun t' e' k' h => ⟨rfl, by simp only [mJ, xu, if_neg h], rfl⟩
theorem xag_R {M : xM} {t e k : Nat} {v : Option Nat} : xag M (mR M t e k v) t e k := fun t' e' k' h => ⟨rfl, rfl, by simp only [mR, xu, if_neg h]⟩
theorem xag_cell {ad : Nat → Nat → Nat} {cA : Nat → ClassId} {M M' : xM} {t e k : Nat} (h : xag M M' t e k) (t' e' : Nat) (hn : ¬ (t' = t ∧ e' = e)) : xcell ad cA M' t' e' = xcell ad cA M t' e' := by
  have hh : ∀ k', M'.1 t' e' k' = M.1 t' e' k' ∧ M'.2.1 t' e' k' = M.2.1 t' e' k' ∧ M'.2.2 t' e' k' = M.2.2 t' e' k' := fun k' => h t' e' k' (fun q => hn ⟨q.1, q.2.1⟩)
  have h1 : M'.1 t' e' = M.1 t' e' := funext fun k' => (hh k').1
  have h2 : M'.2.1 t' e' = M.2.1 t' e' := funext fun k' => (hh k').2.1
  have h3 : M'.2.2 t' e' = M.2.2 t' e' := funext fun k' => (hh k').2.2
  unfold xcell xar xfs xfv
  rw [h1, h2, h3]
theorem xfs_at {ad : Nat → Nat → Nat} {M : xM} {t e k r : Nat} (h : (xfk t)[k]? = some r) : (xfs ad M t e)[k]? = some (xfv ad M t e k r) := by
  unfold xfs
  rw [List.getElem?_map, List.getElem?_zipIdx, h]
  simp
theorem xfs_len {ad : Nat → Nat → Nat} {M : xM} {t e : Nat} : (xfs ad M t e).length = (xfk t).length := by unfold xfs; simp
theorem xfs_set {ad : Nat → Nat → Nat} {M M' : xM} {t e k r : Nat} (h : (xfk t)[k]? = some r) (ha : xag M M' t e k) : (xfs ad M t e).set k (xfv ad M' t e k r) = xfs ad M' t e := by
  apply List.ext_getElem?
  intro i
  rw [List.getElem?_set]
  have hl : k < (xfs ad M t e).length := by rw [xfs_len]; exact (List.getElem?_eq_some_iff.mp h).1
  by_cases hi : k = i
  · subst hi
    rw [if_pos rfl, if_pos hl, xfs_at h]
  · rw [if_neg hi]
    cases hx : (xfk t)[i]? with
    | none =>
      have : (xfk t).length ≤ i := List.getElem?_eq_none_iff.mp hx
      rw [List.getElem?_eq_none (by rw [xfs_len]; exact this), List.getElem?_eq_none (by rw [xfs_len]; exact this)]
    | some x =>
      rw [xfs_at hx, xfs_at hx]
      obtain ⟨h1, h2, h3⟩ := ha t e i (fun q => hi q.2.2.symm)
      unfold xfv
      rw [h1, h2, h3]
def xlv (ad : Nat → Nat → Nat) (L : xLs) : List (Nat × Value) := (List.range L.length).filterMap (fun i => match L[i]? with
  | some (some v) => some (i, cv ad v)
  | _ => none)
theorem xlv_mem {ad : Nat → Nat → Nat} {L : xLs} {i : Nat} {w : Value} : (i, w) ∈ xlv ad L ↔ ∃ v, L[i]? = some (some v) ∧ w = cv ad v := by
  unfold xlv
  rw [List.mem_filterMap]
  constructor
  · rintro ⟨k, -, hk⟩
    split at hk
    · cases hk
      exact ⟨_, ‹_›, rfl⟩
    · cases hk
  · rintro ⟨v, hv, rfl⟩
    refine ⟨i, List.mem_range.mpr (List.getElem?_eq_some_iff.mp hv).1, ?_⟩
    rw [hv]
def xlh (ad : Nat → Nat → Nat) (ls : Array Slot) (n : Nat) (L : xLs) : Prop := L.length = n ∧ lv_has ls n (xlv ad L)
theorem xlh_at {ad : Nat → Nat → Nat} {ls : Array Slot} {n i : Nat} {L : xLs} {v : xV} (h : xlh ad ls n L) (hv : L[i]? = some (some v)) : ls[i]? = some (.val (cv ad v)) := h.2.2.2 (i, cv ad v) (xlv_mem.mpr ⟨v, hv, rfl⟩)
theorem xlh_set {ad : Nat → Nat → Nat} {ls' : Array Slot} {n i : Nat} {L : xLs} {v : xV} (hn : L.length = n) (h : lv_has ls' n ((i, cv ad v) :: (xlv ad L).filter (fun q => !(q.1 == i) && !(q.1 + 1 == i && q.2.category == 2)))) (hs : xns L i = true) (hi : i < L.length) : xlh ad ls' n (L.set i (some v)) := by
  refine ⟨by rw [List.length_set]; exact hn, h.1, h.2.1, fun q hq => h.2.2 q ?_⟩
  obtain ⟨k, w⟩ := q
  obtain ⟨v', hv', rfl⟩ := xlv_mem.mp hq
  rw [List.getElem?_set] at hv'
  by_cases hk : i = k
  · subst hk
    rw [if_pos rfl, if_pos hi] at hv'
    cases hv'
    exact List.mem_cons_self
  · rw [if_neg hk] at hv'
    refine List.mem_cons_of_mem _ (List.mem_filter.mpr ⟨xlv_mem.mpr ⟨v', hv', rfl⟩, ?_⟩)
    by_cases hk1 : k + 1 = i
    · subst hk1
      simp only [xns] at hs
      rw [hv'] at hs
      rcases v' with x | x | x
      · simp [cv, Value.category]
      · simp at hs
      · cases x <;> simp [cv, Value.category]
    · simp only [Bool.and_eq_true, Bool.not_eq_true', beq_eq_false_iff_ne, ne_eq]
      exact ⟨fun q => hk q.symm, by simp [hk1]⟩
theorem cv_cat (ad : Nat → Nat → Nat) (v : xV) : (cv ad v).category ≤ 2 := by
  rcases v with x | x | x
  · simp [cv, Value.category]
  · simp [cv, Value.category]
  · cases x <;> simp [cv, Value.category]
theorem cv_ct (ad : Nat → Nat → Nat) (v : xV) : (cv ad v).category ≤ xct v := by
  match v with
  | .inl x => exact Nat.le_of_eq rfl
  | .inr (.inl x) => exact Nat.le_of_eq rfl
  | .inr (.inr none) => exact Nat.le_of_eq rfl
  | .inr (.inr (some q)) => exact Nat.le_of_eq rfl
theorem cv_sum8 (ad : Nat → Nat → Nat) (r : List xV) : ((r.map (cv ad)).map fun v => v.category).sum ≤ (r.map xct).sum := by
  induction r with
  | nil => simp
  | cons v r ih =>
    have := cv_ct ad v
    simp only [List.map_cons, List.sum_cons]
    omega
theorem cv_sum (ad : Nat → Nat → Nat) (r : List xV) : ((r.map (cv ad)).map fun v => v.category).sum ≤ 2 * r.length := by
  induction r with
  | nil => simp
  | cons v r ih =>
    have := cv_cat ad v
    simp only [List.map_cons, List.sum_cons, List.length_cons]
    omega
