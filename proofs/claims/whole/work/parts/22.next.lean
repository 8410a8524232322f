section XNX
variable {M M' : xM} {pc pc' j d i : Nat} {L L' : xLs} {st st' : List xV}
theorem iv_ldI (h : xldI pc i L st M = some (.inl (pc', L', st', M'))) : ∃ x, L[i]? = some (some (vI x)) ∧ pc' = pc ∧ L' = L ∧ st' = vI x :: st ∧ M' = M := by
  unfold xldI at h
  split at h
  · cases h; exact ⟨_, ‹_›, rfl, rfl, rfl, rfl⟩
  · cases h
theorem iv_ldJ (h : xldJ pc i L st M = some (.inl (pc', L', st', M'))) : ∃ x, L[i]? = some (some (vL x)) ∧ pc' = pc ∧ L' = L ∧ st' = vL x :: st ∧ M' = M := by
  unfold xldJ at h
  split at h
  · cases h; exact ⟨_, ‹_›, rfl, rfl, rfl, rfl⟩
  · cases h
theorem iv_ldA (h : xldA pc i L st M = some (.inl (pc', L', st', M'))) : ∃ o, L[i]? = some (some (.inr (.inr o))) ∧ pc' = pc ∧ L' = L ∧ st' = .inr (.inr o) :: st ∧ M' = M := by
  unfold xldA at h
  split at h
  · cases h; exact ⟨_, ‹_›, rfl, rfl, rfl, rfl⟩
  · cases h
theorem iv_st {v : xV} (h : xst L i v = some L') : xns L i = true ∧ i < L.length ∧ L' = L.set i (some v) := by
  unfold xst at h
  split at h
  · rename_i hb
    cases h; exact ⟨hb.1, hb.2, rfl⟩
  · cases h
theorem iv_stI (h : xstI pc i L st M = some (.inl (pc', L', st', M'))) : ∃ x r, st = vI x :: r ∧ (xns L i = true ∧ i < L.length ∧ L' = L.set i (some (vI x))) ∧ pc' = pc ∧ st' = r ∧ M' = M := by
  unfold xstI at h
  split at h
  · split at h
    · cases h; exact ⟨_, _, rfl, iv_st ‹_›, rfl, rfl, rfl⟩
    · cases h
  · cases h
theorem iv_stA (h : xstA pc i L st M = some (.inl (pc', L', st', M'))) : ∃ o r, st = .inr (.inr o) :: r ∧ (xns L i = true ∧ i < L.length ∧ L' = L.set i (some (.inr (.inr o)))) ∧ pc' = pc ∧ st' = r ∧ M' = M := by
  unfold xstA at h
  split at h
  · split at h
    · cases h; exact ⟨_, _, rfl, iv_st ‹_›, rfl, rfl, rfl⟩
    · cases h
  · cases h
theorem iv_b2 {f : Int32 → Int32 → Int32} (h : xb2 f pc L st M = some (.inl (pc', L', st', M'))) : ∃ x y r, st = vI y :: vI x :: r ∧ pc' = pc + 1 ∧ L' = L ∧ st' = vI (f x y) :: r ∧ M' = M := by
  unfold xb2 at h
  split at h
  · cases h; exact ⟨_, _, _, rfl, rfl, rfl, rfl, rfl⟩
  · cases h
theorem iv_j2 {f : Int64 → Int64 → Int64} (h : xj2 f pc L st M = some (.inl (pc', L', st', M'))) : ∃ x y r, st = vL y :: vL x :: r ∧ pc' = pc + 1 ∧ L' = L ∧ st' = vL (f x y) :: r ∧ M' = M := by
  unfold xj2 at h
  split at h
  · cases h; exact ⟨_, _, _, rfl, rfl, rfl, rfl, rfl⟩
  · cases h
theorem iv_tg {off : Int} {t : Nat} (h : xtg pc off = some t) : (pc : Int) + off = (t : Int) := by
  unfold xtg at h
  split at h
  · cases h; omega
  · cases h
theorem iv_br {off : Int} {q : Prop} {dq : Decidable q} (h : xbr pc off q dq L st M = some (.inl (pc', L', st', M'))) : ∃ t : Nat, (pc : Int) + off = (t : Int) ∧ ((q ∧ pc' = t) ∨ (¬ q ∧ pc' = pc + 3)) ∧ L' = L ∧ st' = st ∧ M' = M := by
  unfold xbr at h
  split at h
  · rename_i t ht
    split at h
    · cases h; exact ⟨_, iv_tg ht, Or.inl ⟨‹_›, rfl⟩, rfl, rfl, rfl⟩
    · cases h; exact ⟨_, iv_tg ht, Or.inr ⟨‹_›, rfl⟩, rfl, rfl, rfl⟩
  · cases h
theorem iv_get {idx : Nat} (h : xget j idx pc L st M = some (.inl (pc', L', st', M'))) : ∃ t e r k nb v, st = vR t e :: r ∧ xfl (xmo j) idx = some (t, k, nb) ∧ e < xcm j t ∧ xgv M t e k = some v ∧ pc' = pc + 3 ∧ L' = L ∧ st' = v :: r ∧ M' = M := by
  unfold xget at h
  split at h
  · split at h
    · split at h
      · rename_i hb
        obtain ⟨rfl, he⟩ := hb
        split at h
        · cases h; exact ⟨_, _, _, _, _, _, rfl, ‹_›, he, ‹_›, rfl, rfl, rfl, rfl⟩
        · cases h
      · cases h
    · cases h
  · cases h
theorem iv_put {idx : Nat} (h : xput j idx pc L st M = some (.inl (pc', L', st', M'))) : ∃ t e r k nb v, st = v :: vR t e :: r ∧ xfl (xmo j) idx = some (t, k, nb) ∧ e < xcm j t ∧ xpv M t e k v = some M' ∧ pc' = pc + 3 ∧ L' = L ∧ st' = r := by
  unfold xput at h
  split at h
  · split at h
    · split at h
      · rename_i hb
        obtain ⟨rfl, he⟩ := hb
        split at h
        · cases h; exact ⟨_, _, _, _, _, _, rfl, ‹_›, he, ‹_›, rfl, rfl, rfl⟩
        · cases h
      · cases h
    · cases h
  · cases h
theorem iv_alI {ek : Nat} (h : xalI j ek pc L st M = some (.inl (pc', L', st', M'))) : ∃ i t e r, st = vI i :: vR t e :: r ∧ (xob t = none ∧ xek t = ek ∧ e < xcm j t ∧ xinb i (xal t) = true) ∧ pc' = pc + 1 ∧ L' = L ∧ st' = vI (M.1 t e i.toNatClampNeg) :: r ∧ M' = M := by
  unfold xalI at h
  split at h
  · split at h
    · cases h; exact ⟨_, _, _, _, rfl, ‹_›, rfl, rfl, rfl, rfl⟩
    · cases h
  · cases h
theorem iv_alJ (h : xalJ j pc L st M = some (.inl (pc', L', st', M'))) : ∃ i t e r, st = vI i :: vR t e :: r ∧ (xob t = none ∧ xek t = 2 ∧ e < xcm j t ∧ xinb i (xal t) = true) ∧ pc' = pc + 1 ∧ L' = L ∧ st' = vL (M.2.1 t e i.toNatClampNeg) :: r ∧ M' = M := by
  unfold xalJ at h
  split at h
  · split at h
    · cases h; exact ⟨_, _, _, _, rfl, ‹_›, rfl, rfl, rfl, rfl⟩
    · cases h
  · cases h
theorem iv_alA (h : xalA j pc L st M = some (.inl (pc', L', st', M'))) : ∃ i t e r, st = vI i :: vR t e :: r ∧ (xob t = none ∧ 10 ≤ xek t ∧ e < xcm j t ∧ xinb i (xal t) = true) ∧ pc' = pc + 1 ∧ L' = L ∧ st' = (if xek t < 100 then vO (xek t - 10) (M.2.2 t e i.toNatClampNeg) else vR (xek t - 100) i.toNatClampNeg) :: r ∧ M' = M := by
  unfold xalA at h
  split at h
  · split at h
    · cases h; exact ⟨_, _, _, _, rfl, ‹_›, rfl, rfl, rfl, rfl⟩
    · cases h
  · cases h
theorem iv_asI {ek : Nat} (h : xasI j ek pc L st M = some (.inl (pc', L', st', M'))) : ∃ x i t e r, st = vI x :: vI i :: vR t e :: r ∧ (xob t = none ∧ xek t = ek ∧ e < xcm j t ∧ xinb i (xal t) = true ∧ (ek = 1 → x = 0 ∨ x = 1)) ∧ pc' = pc + 1 ∧ L' = L ∧ st' = r ∧ M' = mI M t e i.toNatClampNeg x := by
  unfold xasI at h
  split at h
  · split at h
    · cases h; exact ⟨_, _, _, _, _, rfl, ‹_›, rfl, rfl, rfl, rfl⟩
    · cases h
  · cases h
theorem iv_asJ (h : xasJ j pc L st M = some (.inl (pc', L', st', M'))) : ∃ x i t e r, st = vL x :: vI i :: vR t e :: r ∧ (xob t = none ∧ xek t = 2 ∧ e < xcm j t ∧ xinb i (xal t) = true) ∧ pc' = pc + 1 ∧ L' = L ∧ st' = r ∧ M' = mJ M t e i.toNatClampNeg x := by
  unfold xasJ at h
  split at h
  · split at h
    · cases h; exact ⟨_, _, _, _, _, rfl, ‹_›, rfl, rfl, rfl, rfl⟩
    · cases h
  · cases h
theorem iv_asA (h : xasA j pc L st M = some (.inl (pc', L', st', M'))) : ∃ o i t e r, st = .inr (.inr o) :: vI i :: vR t e :: r ∧ (xob t = none ∧ 10 ≤ xek t ∧ xek t < 100 ∧ e < xcm j t ∧ xinb i (xal t) = true) ∧ (∀ q, o = some q → q.1 = xek t - 10 ∧ q.2 < xcm j q.1) ∧ pc' = pc + 1 ∧ L' = L ∧ st' = r ∧ M' = mR M t e i.toNatClampNeg (o.map fun q => q.2) := by
  unfold xasA at h
  split at h
  · split at h
    · split at h
      · cases h; exact ⟨_, _, _, _, _, rfl, ‹_›, (fun q h => nomatch h), rfl, rfl, rfl, rfl⟩
      · split at h
        · rename_i hb
          cases h; exact ⟨_, _, _, _, _, rfl, ‹_›, (fun q h => by cases h; exact hb), rfl, rfl, rfl, rfl⟩
        · cases h
    · cases h
  · cases h
theorem iv_len (h : xlen j pc L st M = some (.inl (pc', L', st', M'))) : ∃ t e r, st = vR t e :: r ∧ (xob t = none ∧ e < xcm j t) ∧ pc' = pc + 1 ∧ L' = L ∧ st' = vI (Int32.ofNat (xal t)) :: r ∧ M' = M := by
  unfold xlen at h
  split at h
  · split at h
    · cases h; exact ⟨_, _, _, rfl, ‹_›, rfl, rfl, rfl, rfl⟩
    · cases h
  · cases h
theorem iv_copy (h : xcopy j pc L st M = some (.inl (pc', L', st', M'))) : ∃ n dp t' e' sp t e r, st = vI n :: vI dp :: vR t' e' :: vI sp :: vR t e :: r ∧ ((xob t = none ∧ xek t = 0 ∧ e < xcm j t) ∧ (xob t' = none ∧ xek t' = 0 ∧ e' < xcm j t') ∧ (¬ sp < 0 ∧ ¬ dp < 0 ∧ ¬ n < 0) ∧ sp.toNatClampNeg + n.toNatClampNeg ≤ xal t ∧ dp.toNatClampNeg + n.toNatClampNeg ≤ xal t' ∧ r.length ≤ 4) ∧ pc' = pc + 3 ∧ L' = L ∧ st' = r ∧ M' = mC M t e t' e' sp.toNatClampNeg dp.toNatClampNeg n.toNatClampNeg := by
  unfold xcopy at h
  split at h
  · split at h
    · cases h; exact ⟨_, _, _, _, _, _, _, _, rfl, ‹_›, rfl, rfl, rfl, rfl⟩
    · cases h
  · cases h
theorem iv_min (h : xmin pc L st M = some (.inl (pc', L', st', M'))) : ∃ x y r, st = vI y :: vI x :: r ∧ r.length ≤ 4 ∧ pc' = pc + 3 ∧ L' = L ∧ st' = vI (if y < x then y else x) :: r ∧ M' = M := by
  unfold xmin at h
  split at h
  · split at h
    · cases h; exact ⟨_, _, _, rfl, ‹_›, rfl, rfl, rfl, rfl⟩
    · cases h
  · cases h
theorem iv_ins {idx : Nat} (h : xins d j idx pc L st M = some (.inl (pc', L', st', M'))) : 0 < d ∧ (((xmo j, idx) ∈ xacL ∧ xcopy j pc L st M = some (.inl (pc', L', st', M'))) ∨ ((xmo j, idx) ∈ xmmL ∧ xmin pc L st M = some (.inl (pc', L', st', M')))) := by
  unfold xins at h
  split at h
  · split at h
    · unfold xcall at h
      split at h <;> cases h
    · cases h
  · split at h
    · rename_i hb
      exact ⟨hb.1, Or.inl ⟨hb.2, h⟩⟩
    · split at h
      · rename_i hb
        exact ⟨hb.1, Or.inr ⟨hb.2, h⟩⟩
      · cases h
theorem iv_sw {dflt lo hi : Int} {offs : Array Int} (h : xsw pc dflt lo hi offs L st M = some (.inl (pc', L', st', M'))) : ∃ x r, st = vI x :: r ∧ L' = L ∧ st' = r ∧ M' = M ∧ (((x.toInt < lo ∨ hi < x.toInt) ∧ (pc : Int) + dflt = (pc' : Int)) ∨ (¬ x.toInt < lo ∧ ¬ hi < x.toInt ∧ ∃ off, offs[(x.toInt - lo).toNat]? = some off ∧ (pc : Int) + off = (pc' : Int))) := by
  unfold xsw at h
  split at h
  · split at h
    · split at h
      · cases h; exact ⟨_, _, rfl, rfl, rfl, rfl, Or.inl ⟨‹_›, iv_tg ‹_›⟩⟩
      · cases h
    · rename_i hb
      split at h
      · split at h
        · cases h; exact ⟨_, _, rfl, rfl, rfl, rfl, Or.inr ⟨fun q => hb (Or.inl q), fun q => hb (Or.inr q), _, ‹_›, iv_tg ‹_›⟩⟩
        · cases h
      · cases h
  · cases h
theorem xinb_in {i : Int32} {n : Nat} (h : xinb i n = true) : vp_in i n := by
  unfold xinb at h
  simp only [Bool.and_eq_true, decide_eq_true_eq] at h
  intro q
  rcases q with q | q
  · exact h.1 q
  · exact absurd q (Nat.not_le.mpr h.2)
end XNX
