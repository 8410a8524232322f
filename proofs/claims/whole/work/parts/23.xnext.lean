section XNW
variable {p : Program} {l : Launch} {e : Env} {R : Room} {s : State} {m : MethodId} {args : Array Value} {below : List Frame} {meth : Method} {c : Code} {H H0 : Heap} {locs : List Loc} {Q : State → Prop} {D : va_G} {ad : Nat → Nat → Nat} {cA : Nat → ClassId} {A : Nat → Prop} {M : xM} {j pc : Nat} {ls : Array Slot} {rest : List Value}
theorem xar_at {t e' q0 : Nat} (h0 : xob t = none) (hq : (xcs (xsj j))[q0]? = some (t, e')) : (xw ad cA (xsj j) M)[q0]? = some (ad t e', .inl (cA t, xar ad M t e')) := by
  rw [xw_at M hq]
  unfold xcell
  rw [h0]
theorem xarI {t e' : Nat} (h : xek t ≤ 1) : xar ad M t e' = (xal t, .inl (M.1 t e')) := by unfold xar; rw [if_pos h]
theorem xarJ {t e' : Nat} (h : xek t = 2) : xar ad M t e' = (xal t, .inr (.inl (M.2.1 t e'))) := by unfold xar; rw [if_neg (by omega), if_pos h]
theorem xarA {t e' : Nat} (h : 10 ≤ xek t) : xar ad M t e' = (xal t, .inr (.inr (.inr (.inr (fun j => if xek t < 100 then (M.2.2 t e' j).map (ad (xek t - 10)) else some (ad (xek t - 100) j)))))) := by unfold xar; rw [if_neg (by omega), if_neg (by omega)]
theorem xw_setA {t e' q0 k : Nat} {M' : xM} (h0 : xob t = none) (hD : va_D A (xw ad cA (xsj j) M)) (hq : (xcs (xsj j))[q0]? = some (t, e')) (hag : xag M M' t e' k) : (xw ad cA (xsj j) M).set q0 (ad t e', .inl (cA t, xar ad M' t e')) = xw ad cA (xsj j) M' :=
  xw_set hD hq (by unfold xcell; rw [h0]) (fun t' e'' hne => xag_cell hag t' e'' hne)
theorem mI_row (M : xM) (t e' k : Nat) (x : Int32) : (mI M t e' k x).1 t e' = upd (M.1 t e') k x := by
  funext q
  simp only [mI, xu, upd, true_and]
theorem mJ_row (M : xM) (t e' k : Nat) (x : Int64) : (mJ M t e' k x).2.1 t e' = vp_updL (M.2.1 t e') k x := by
  funext q
  simp only [mJ, xu, vp_updL, true_and]
theorem mR_row (M : xM) (t e' k : Nat) (x : Option Nat) : (mR M t e' k x).2.2 t e' = va_up (M.2.2 t e') k x := by
  funext q
  by_cases h : q = k
  · subst h
    simp [mR, xu, va_up]
  · simp [mR, xu, va_up, h]
theorem xs_alI {t e' : Nat} {i : Int32} {ins : Instr} (hins : (xek t = 0 ∧ ins = .iaload) ∨ (xek t = 1 ∧ ins = .baload)) (B : xB p s m args c j) (Wd : xWd D ad cA (xsj j) A H0 s M H locs) (hd : decode (xmc j) pc = .ok (ins, 1)) (h0 : xob t = none) (he : e' < xcm j t) (hi : xinb i (xal t) = true)
    (kk : W p l e R s m args below meth c H locs 0 0 Q (F0 m (pc + 1) ls (.int (M.1 t e' i.toNatClampNeg) :: rest))) : W p l e R s m args below meth c H locs 0 0 Q (F0 m pc ls (.int i :: .ref (ad t e') :: rest)) := by
  obtain ⟨hx, hb, hml, hown, hts, hN⟩ := B
  obtain ⟨hP, hD, hS, hK⟩ := Wd
  obtain ⟨q0, hq0⟩ := xcs_at he
  have hcn := (xcm_lt he).2
  obtain ⟨t0, ht0⟩ := xty_at (cA := cA) h0 hcn
  have hw := xar_at (ad := ad) (cA := cA) (M := M) h0 hq0
  obtain ⟨a0, a1, -⟩ := xat_ok t (xcn_lt hcn) h0
  rcases hins with ⟨hk, rfl⟩ | ⟨hk, rfl⟩
  · rw [xarI (by omega)] at hw
    rw [a0 hk] at ht0
    exact va_iald hx hb hK hP q0 t0 hw ht0 (xinb_in hi) hd kk
  · rw [xarI (by omega)] at hw
    rw [a1 hk] at ht0
    exact va_zald hx hb hK hP q0 t0 hw ht0 (xinb_in hi) hd kk
theorem xs_alJ {t e' : Nat} {i : Int32} (B : xB p s m args c j) (Wd : xWd D ad cA (xsj j) A H0 s M H locs) (hd : decode (xmc j) pc = .ok (.laload, 1)) (h0 : xob t = none) (hk : xek t = 2) (he : e' < xcm j t) (hi : xinb i (xal t) = true)
    (kk : W p l e R s m args below meth c H locs 0 0 Q (F0 m (pc + 1) ls (.long (M.2.1 t e' i.toNatClampNeg) :: rest))) : W p l e R s m args below meth c H locs 0 0 Q (F0 m pc ls (.int i :: .ref (ad t e') :: rest)) := by
  obtain ⟨hx, hb, hml, hown, hts, hN⟩ := B
  obtain ⟨hP, hD, hS, hK⟩ := Wd
  obtain ⟨q0, hq0⟩ := xcs_at he
  have hcn := (xcm_lt he).2
  obtain ⟨t0, ht0⟩ := xty_at (cA := cA) h0 hcn
  have hw := xar_at (ad := ad) (cA := cA) (M := M) h0 hq0
  obtain ⟨-, -, a2, -⟩ := xat_ok t (xcn_lt hcn) h0
  rw [xarJ hk] at hw
  rw [a2 hk] at ht0
  exact va_lald hx hb hK hP q0 t0 hw ht0 (xinb_in hi) hd kk
theorem xs_alA {t e' : Nat} {i : Int32} (B : xB p s m args c j) (Wd : xWd D ad cA (xsj j) A H0 s M H locs) (hd : decode (xmc j) pc = .ok (.aaload, 1)) (h0 : xob t = none) (hk : 10 ≤ xek t) (he : e' < xcm j t) (hi : xinb i (xal t) = true)
    (kk : W p l e R s m args below meth c H locs 0 0 Q (F0 m (pc + 1) ls (cv ad (if xek t < 100 then vO (xek t - 10) (M.2.2 t e' i.toNatClampNeg) else vR (xek t - 100) i.toNatClampNeg) :: rest))) : W p l e R s m args below meth c H locs 0 0 Q (F0 m pc ls (.int i :: .ref (ad t e') :: rest)) := by
  obtain ⟨hx, hb, hml, hown, hts, hN⟩ := B
  obtain ⟨hP, hD, hS, hK⟩ := Wd
  obtain ⟨q0, hq0⟩ := xcs_at he
  have hcn := (xcm_lt he).2
  obtain ⟨t0, ht0⟩ := xty_at (cA := cA) h0 hcn
  have hw := xar_at (ad := ad) (cA := cA) (M := M) h0 hq0
  obtain ⟨-, -, -, a3⟩ := xat_ok t (xcn_lt hcn) h0
  obtain ⟨ci, -, rc, hc, hty, -⟩ := a3 hk
  rw [xarA hk] at hw
  rw [hty] at ht0
  refine va_aldq hx hb hK hP q0 t0 hw ht0 (xinb_in hi) hd ?_
  have e1 : va_rf (if xek t < 100 then (M.2.2 t e' i.toNatClampNeg).map (ad (xek t - 10)) else some (ad (xek t - 100) i.toNatClampNeg)) = cv ad (if xek t < 100 then vO (xek t - 10) (M.2.2 t e' i.toNatClampNeg) else vR (xek t - 100) i.toNatClampNeg) := by
    by_cases h : xek t < 100
    · rw [if_pos h, if_pos h]
      cases M.2.2 t e' i.toNatClampNeg <;> rfl
    · rw [if_neg h, if_neg h]; rfl
  rw [e1]
  exact kk
theorem xs_asI {t e' : Nat} {i x : Int32} {ins : Instr} (hins : (xek t = 0 ∧ ins = .iastore) ∨ (xek t = 1 ∧ ins = .bastore ∧ (x = 0 ∨ x = 1))) (B : xB p s m args c j) (Wd : xWd D ad cA (xsj j) A H0 s M H locs) (hd : decode (xmc j) pc = .ok (ins, 1)) (h0 : xob t = none) (he : e' < xcm j t) (hi : xinb i (xal t) = true)
    (kk : ∀ (H1 : Heap) (locs1 : List Loc), xWd D ad cA (xsj j) A H0 s (mI M t e' i.toNatClampNeg x) H1 locs1 → W p l e R s m args below meth c H1 locs1 0 0 Q (F0 m (pc + 1) ls rest)) : W p l e R s m args below meth c H locs 0 0 Q (F0 m pc ls (.int x :: .int i :: .ref (ad t e') :: rest)) := by
  obtain ⟨hx, hb, hml, hown, hts, hN⟩ := B
  obtain ⟨hP, hD, hS, hK⟩ := Wd
  obtain ⟨q0, hq0⟩ := xcs_at he
  have hcn := (xcm_lt he).2
  obtain ⟨t0, ht0⟩ := xty_at (cA := cA) h0 hcn
  have hw := xar_at (ad := ad) (cA := cA) (M := M) h0 hq0
  have hset := xw_setA (cA := cA) (M' := mI M t e' i.toNatClampNeg x) h0 hD hq0 xag_I
  obtain ⟨a0, a1, -⟩ := xat_ok t (xcn_lt hcn) h0
  rcases hins with ⟨hk, rfl⟩ | ⟨hk, rfl, hx01⟩
  · rw [xarI (by omega)] at hw hset
    rw [mI_row] at hset
    rw [a0 hk] at ht0
    refine va_iast hx hb hK hP hD hS q0 t0 hw ht0 (xinb_in hi) hd (fun H1 locs1 hP1 hD1 hS1 => ?_)
    rw [hset] at hP1 hD1
    exact kk H1 locs1 ⟨hP1, hD1, hS1, hK⟩
  · rw [xarI (by omega)] at hw hset
    rw [mI_row] at hset
    rw [a1 hk] at ht0
    refine va_zast hx hb hK hP hD hS q0 t0 hw ht0 (xinb_in hi) hd (fun H1 locs1 hP1 hD1 hS1 => ?_)
    have e1 : vp_nar .boolean x = x := by rcases hx01 with rfl | rfl <;> rfl
    rw [e1, hset] at hP1 hD1
    exact kk H1 locs1 ⟨hP1, hD1, hS1, hK⟩
theorem xs_asJ {t e' : Nat} {i : Int32} {x : Int64} (B : xB p s m args c j) (Wd : xWd D ad cA (xsj j) A H0 s M H locs) (hd : decode (xmc j) pc = .ok (.lastore, 1)) (h0 : xob t = none) (hk : xek t = 2) (he : e' < xcm j t) (hi : xinb i (xal t) = true)
    (kk : ∀ (H1 : Heap) (locs1 : List Loc), xWd D ad cA (xsj j) A H0 s (mJ M t e' i.toNatClampNeg x) H1 locs1 → W p l e R s m args below meth c H1 locs1 0 0 Q (F0 m (pc + 1) ls rest)) : W p l e R s m args below meth c H locs 0 0 Q (F0 m pc ls (.long x :: .int i :: .ref (ad t e') :: rest)) := by
  obtain ⟨hx, hb, hml, hown, hts, hN⟩ := B
  obtain ⟨hP, hD, hS, hK⟩ := Wd
  obtain ⟨q0, hq0⟩ := xcs_at he
  have hcn := (xcm_lt he).2
  obtain ⟨t0, ht0⟩ := xty_at (cA := cA) h0 hcn
  have hw := xar_at (ad := ad) (cA := cA) (M := M) h0 hq0
  have hset := xw_setA (cA := cA) (M' := mJ M t e' i.toNatClampNeg x) h0 hD hq0 xag_J
  obtain ⟨-, -, a2, -⟩ := xat_ok t (xcn_lt hcn) h0
  rw [xarJ hk] at hw hset
  rw [mJ_row] at hset
  rw [a2 hk] at ht0
  refine va_last hx hb hK hP hD hS q0 t0 hw ht0 (xinb_in hi) hd (fun H1 locs1 hP1 hD1 hS1 => ?_)
  rw [hset] at hP1 hD1
  exact kk H1 locs1 ⟨hP1, hD1, hS1, hK⟩
theorem xs_asA {t e' : Nat} {i : Int32} {o : Option (Nat × Nat)} (B : xB p s m args c j) (Wd : xWd D ad cA (xsj j) A H0 s M H locs) (hd : decode (xmc j) pc = .ok (.aastore, 1)) (h0 : xob t = none) (hk : 10 ≤ xek t) (hk2 : xek t < 100) (he : e' < xcm j t) (hi : xinb i (xal t) = true) (ho : ∀ q, o = some q → q.1 = xek t - 10 ∧ q.2 < xcm j q.1)
    (kk : ∀ (H1 : Heap) (locs1 : List Loc), xWd D ad cA (xsj j) A H0 s (mR M t e' i.toNatClampNeg (o.map fun q => q.2)) H1 locs1 → W p l e R s m args below meth c H1 locs1 0 0 Q (F0 m (pc + 1) ls rest)) : W p l e R s m args below meth c H locs 0 0 Q (F0 m pc ls (cv ad (.inr (.inr o)) :: .int i :: .ref (ad t e') :: rest)) := by
  obtain ⟨hx, hb, hml, hown, hts, hN⟩ := B
  obtain ⟨hP, hD, hS, hK⟩ := Wd
  obtain ⟨q0, hq0⟩ := xcs_at he
  have hcn := (xcm_lt he).2
  obtain ⟨t0, ht0⟩ := xty_at (cA := cA) h0 hcn
  have hw := xar_at (ad := ad) (cA := cA) (M := M) h0 hq0
  have hset := xw_setA (cA := cA) (M' := mR M t e' i.toNatClampNeg (o.map fun q => q.2)) h0 hD hq0 xag_R
  obtain ⟨-, -, -, a3⟩ := xat_ok t (xcn_lt hcn) h0
  obtain ⟨ci, -, rc, hc, hty, hob⟩ := a3 hk
  rw [xarA hk] at hw hset
  rw [mR_row] at hset
  simp only [if_pos hk2] at hw hset
  rw [hty] at ht0
  have hup : ∀ v : Option Nat, (fun k => (va_up (M.2.2 t e') i.toNatClampNeg v k).map (ad (xek t - 10))) = va_up (fun k => (M.2.2 t e' k).map (ad (xek t - 10))) i.toNatClampNeg (v.map (ad (xek t - 10))) := by
    intro v
    funext k
    unfold va_up
    split <;> rfl
  rw [hup] at hset
  cases o with
  | none =>
    refine va_astqN hx hb hK hP hD hS q0 t0 hw ht0 (xinb_in hi) hd (fun H1 locs1 hP1 hD1 hS1 => ?_)
    have hset : (xw ad cA (xsj j) M).set q0 (ad t e', .inl (cA t, xal t, .inr (.inr (.inr (.inr (va_up (fun k => (M.2.2 t e' k).map (ad (xek t - 10))) i.toNatClampNeg none)))))) = _ := hset
    rw [hset] at hP1 hD1
    exact kk H1 locs1 ⟨hP1, hD1, hS1, hK⟩
  | some q =>
    obtain ⟨h1, h2⟩ := ho q rfl
    obtain ⟨qk, hqk⟩ := xcs_at h2
    have hwk := xw_at (ad := ad) (cA := cA) M hqk
    have hck : xcell ad cA M q.1 q.2 = .inr (ci, xfs ad M q.1 q.2) := by unfold xcell; rw [h1, hob hk2]
    rw [hck] at hwk
    refine va_astq hx hb hK hP hD hS q0 t0 qk ci hw ht0 hwk hc (xinb_in hi) hd (fun H1 locs1 hP1 hD1 hS1 => ?_)
    have hset : (xw ad cA (xsj j) M).set q0 (ad t e', .inl (cA t, xal t, .inr (.inr (.inr (.inr (va_up (fun k => (M.2.2 t e' k).map (ad (xek t - 10))) i.toNatClampNeg (some (ad (xek t - 10) q.2)))))))) = _ := hset
    rw [h1, hset] at hP1 hD1
    exact kk H1 locs1 ⟨hP1, hD1, hS1, hK⟩
theorem xs_len {t e' : Nat} (B : xB p s m args c j) (Wd : xWd D ad cA (xsj j) A H0 s M H locs) (hd : decode (xmc j) pc = .ok (.arraylength, 1)) (h0 : xob t = none) (he : e' < xcm j t)
    (kk : W p l e R s m args below meth c H locs 0 0 Q (F0 m (pc + 1) ls (.int (Int32.ofNat (xal t)) :: rest))) : W p l e R s m args below meth c H locs 0 0 Q (F0 m pc ls (.ref (ad t e') :: rest)) := by
  obtain ⟨hx, hb, hml, hown, hts, hN⟩ := B
  obtain ⟨hP, hD, hS, hK⟩ := Wd
  obtain ⟨q0, hq0⟩ := xcs_at he
  obtain ⟨t0, ht0⟩ := xty_at (cA := cA) h0 (xcm_lt he).2
  exact va_alen hx hb hK hP q0 t0 (xar_at (ad := ad) (cA := cA) (M := M) h0 hq0) ht0 (v := Int32.ofNat (xal t)) rfl hd kk
theorem xs_copy {idx d t e' t2 e2 : Nat} {n dp sp : Int32} {r : List xV} (hR : R = xrm d) (hd0 : 0 < d) (hsz : ls.size = xmL j) (hac : (xmo j, idx) ∈ xacL) (B : xB p s m args c j) (Wd : xWd D ad cA (xsj j) A H0 s M H locs) (hd : decode (xmc j) pc = .ok (.invokestatic idx, 3))
    (h1 : xob t = none ∧ xek t = 0 ∧ e' < xcm j t) (h2 : xob t2 = none ∧ xek t2 = 0 ∧ e2 < xcm j t2) (h3 : ¬ sp < 0 ∧ ¬ dp < 0 ∧ ¬ n < 0) (h4 : sp.toNatClampNeg + n.toNatClampNeg ≤ xal t) (h5 : dp.toNatClampNeg + n.toNatClampNeg ≤ xal t2) (h6 : r.length ≤ 4)
    (kk : ∀ (H1 : Heap) (locs1 : List Loc), xWd D ad cA (xsj j) A H0 s (mC M t e' t2 e2 sp.toNatClampNeg dp.toNatClampNeg n.toNatClampNeg) H1 locs1 → W p l e R s m args below meth c H1 locs1 0 0 Q (F0 m (pc + 3) ls (r.map (cv ad)))) : W p l e R s m args below meth c H locs 0 0 Q (F0 m pc ls (.int n :: .int dp :: .ref (ad t2 e2) :: .int sp :: .ref (ad t e') :: r.map (cv ad))) := by
  obtain ⟨hx, hb, hml, hown, hts, hN⟩ := B
  obtain ⟨hP, hD, hS, hK⟩ := Wd
  obtain ⟨q0, hq0⟩ := xcs_at h1.2.2
  obtain ⟨q1, hq1⟩ := xcs_at h2.2.2
  obtain ⟨t0, ht0⟩ := xty_at (cA := cA) h1.1 (xcm_lt h1.2.2).2
  obtain ⟨t1, ht1⟩ := xty_at (cA := cA) h2.1 (xcm_lt h2.2.2).2
  rw [(xat_ok t (xcn_lt (xcm_lt h1.2.2).2) h1.1).1 h1.2.1] at ht0
  rw [(xat_ok t2 (xcn_lt (xcm_lt h2.2.2).2) h2.1).1 h2.2.1] at ht1
  have hw0 := xar_at (ad := ad) (cA := cA) (M := M) h1.1 hq0
  have hw1 := xar_at (ad := ad) (cA := cA) (M := M) h2.1 hq1
  rw [xarI (by omega)] at hw0 hw1
  have hset : (xw ad cA (xsj j) M).set q1 (ad t2 e2, .inl (cA t2, xal t2, .inl (va_cpy (M.1 t e') (M.1 t2 e2) sp.toNatClampNeg dp.toNatClampNeg n.toNatClampNeg))) = xw ad cA (xsj j) (mC M t e' t2 e2 sp.toNatClampNeg dp.toNatClampNeg n.toNatClampNeg) := by
    refine xw_set hD hq1 ?_ ?_
    · unfold xcell
      rw [h2.1]
      simp only [xarI (show xek t2 ≤ 1 by omega)]
      congr 3
      simp only [Sum.inl.injEq]
      funext k
      simp [mC]
    · intro t' e'' hne
      have e1 : (mC M t e' t2 e2 sp.toNatClampNeg dp.toNatClampNeg n.toNatClampNeg).1 t' e'' = M.1 t' e'' := by
        funext k
        simp only [mC, if_neg hne]
      unfold xcell xar xfs xfv
      rw [e1]
      rfl
  have hl := x_mem_pos _ xac_w _ (List.mem_map.mpr ⟨_, hac, rfl⟩)
  have hsum := cv_sum ad r
  subst hR
  refine va_copyi (D := D) hx hb (by rw [hml, hsz]) hown (hts _ (xg_of hl rfl)) (hts _ (xg_of xac_nat rfl)) (hts _ (xg_of xac_sta rfl)) (hts _ (xg_of xac_ini rfl)) hK hP hD hS q0 q1 t0 t1 (ty := .int) hw0 hw1 ht0 ht1 rfl h3.1 h3.2.1 h3.2.2 h4 h5 (fun _ _ => rfl) (show 1 ≤ d from hd0) ?_ hd (fun H1 locs1 hP1 hD1 hS1 => ?_)
  · have : nativeFrameWords "java/lang/System" "arraycopy" 5 = 7 := by decide
    rw [this]
    show _ ≤ 38 * d
    omega
  · rw [hset] at hP1 hD1
    exact kk H1 locs1 ⟨hP1, hD1, hS1, hK⟩
theorem xs_min {idx d : Nat} {x y : Int32} {r : List xV} (hR : R = xrm d) (hd0 : 0 < d) (hsz : ls.size = xmL j) (hmm : (xmo j, idx) ∈ xmmL) (B : xB p s m args c j) (hd : decode (xmc j) pc = .ok (.invokestatic idx, 3)) (h6 : r.length ≤ 4)
    (kk : W p l e R s m args below meth c H locs 0 0 Q (F0 m (pc + 3) ls (.int (if y < x then y else x) :: r.map (cv ad)))) : W p l e R s m args below meth c H locs 0 0 Q (F0 m pc ls (.int y :: .int x :: r.map (cv ad))) := by
  obtain ⟨hx, hb, hml, hown, hts, hN⟩ := B
  have hl := x_mem_pos _ xmm_w _ (List.mem_map.mpr ⟨_, hmm, rfl⟩)
  have hsum := cv_sum ad r
  subst hR
  refine va_mmin hx hb (by rw [hml, hsz]) hown (hts _ (xg_of hl rfl)) (hts _ (xg_of xmm_sta rfl)) (hts _ (xg_of xmm_ini rfl)) (hts _ (xg_of xmm_cod rfl)) (show 1 ≤ d from hd0) ?_ (Nat.zero_le _) (Nat.zero_le _) hd kk
  show _ ≤ 38 * d
  omega
end XNW
