section LC
variable {p : Program} {l : Launch} {e : Env} {R : Room} {s : State} {m : MethodId} {args : Array Value} {below : List Frame} {meth : Method} {c : Code} {H H0 : Heap} {locs : List Loc} {cells slots : Nat} {Q : State → Prop} {D : va_G} {ad : Nat → Nat → Nat} {cA : Nat → ClassId} {A : Nat → Prop} {ls : Array Slot} {cc : ByteArray}
theorem l_goon {pc k : Nat} {M M' : xM} {st0 rest : List Value} {a : Array Value} {free : Addr → Prop} {r : Option xV} (hr : va_Run p l e R s m args below meth c H locs cells slots 0 0 (F0 m pc ls st0) rest (xQc D ad cA k M H.size r M' a) free) (hS : va_S A H0 H locs) (hA : ∀ q, va_A (xw ad cA (xsj k) M) H.size q → A q) (hf : ∀ q, free q → A q)
    (kk : ∀ (H1 : Heap) (locs1 : List Loc), va_P D vwCl (xw ad cA (xsj k) M') H1 → (∀ q : Nat, q < H.size → ¬ va_A (xw ad cA (xsj k) M) H.size q → H1[q]? = H[q]?) → va_S A H0 H1 locs1 → W p l e R s m args below meth c H1 locs1 cells slots Q (F0 m (pc + 3) ls ((r.map (cv ad)).toList ++ rest))) : W p l e R s m args below meth c H locs cells slots Q (F0 m pc ls st0) := by
  intro T hT X
  obtain ⟨v, st₀, t, T', L, h0, X', hL, e1, e2, ⟨⟨hv, hp, hk9⟩, hz, hk⟩, st⟩ := hr T hT X
  cases hv
  rw [h0] at hz hk
  obtain ⟨t2, a1, b1⟩ := kk T'.heap (locs ++ L) (by rw [e1]; exact hp) (fun q h1 h2 => by rw [e1]; exact hk q h1 h2)
    ⟨Nat.le_trans hS.1 (by rw [e1]; exact hz), fun q h1 h2 => by rw [e1, hk q (Nat.lt_of_lt_of_le h1 hS.1) (fun z => h2 (hA q z))]; exact hS.2.1 q h1 h2, fun q hq => by
      rcases List.mem_append.mp hq with h | h
      · exact hS.2.2 q h
      · exact hf _ (hL q h)⟩ T' rfl X'
  exact ⟨t2, st t2 a1, b1⟩
theorem l_call {k d pc ix t nL : Nat} {own : String} {M : xM} {ints : List Int32} {rest : List Value} {Z : Option xV → xM → Prop} (hx : p.tables.exec = Jvm.exec) (hb : c.code = cc) (hml : c.maxLocals = nL) (hown : s.vm.findClass own = some m.cls) (hts : ∀ w ∈ xgW, w.before args s = true) (hN : ∀ w ∈ xnW, va_Nw w s) (hK : va_K D vwCl (xty cA) s) (hP : va_P D vwCl (xw ad cA (xsj k) M) H) (hD : va_D A (xw ad cA (xsj k) M)) (hS : va_S A H0 H locs) (hA : ∀ q, H0.size ≤ q → A q)
    (hkl : k < xms.length) (hmt : xmt k = t + 1) (he : 0 < xcm k t) (hlink : Cond.methodLink own ix (xmy k) ∈ xgW) (hn : xmn k = ints.length) (hRn : Rn d k (0, xen k (vR t 0 :: ints.map vI), [], M) Z) (hxl : (xsl (vR t 0 :: ints.map vI)).length ≤ xmL k) (hroom : d + 1 ≤ R.frames ∧ 8 + (19 + 11) + 38 * d ≤ R.locals) (hcs : cells ≤ R.cells ∧ slots ≤ R.slots) (hls : ls.size = nL) (hrest : (rest.map fun v => v.category).sum ≤ 8) (hdg : decode cc pc = .ok (.invokevirtual ix, 3))
    (kk : ∀ (r : Option xV) (M' : xM) (H1 : Heap) (locs1 : List Loc), Z r M' → va_P D vwCl (xw ad cA (xsj k) M') H1 → (∀ q : Nat, q < H.size → ¬ va_A (xw ad cA (xsj k) M) H.size q → H1[q]? = H[q]?) → va_S A H0 H1 locs1 → W p l e R s m args below meth c H1 locs1 cells slots Q (F0 m (pc + 3) ls ((r.map (cv ad)).toList ++ rest))) :
    W p l e R s m args below meth c H locs cells slots Q (F0 m pc ls ((ints.map Value.int).reverse ++ .ref (ad t 0) :: rest)) := by
  obtain ⟨r, M', hZ, hM⟩ := Rn.met l hkl hxl hRn
  have hM := hM D ad cA H.size
  have hmem := xmd_mem hkl
  obtain ⟨ho1, ho2, ho3, ho4⟩ := xmd_own _ hmem
  have hcv : (ints.map vI).map (cv ad) = ints.map Value.int := by rw [List.map_map]; rfl
  have hFc : ∀ q, va_A (xw ad cA (xsj k) M) H.size q → A q := by
    intro q hq
    rcases hq with ⟨k9, e9, h9⟩ | h9
    · exact hD.2 k9 _ h9
    · exact hA q (Nat.le_trans hS.1 h9)
  have hinst : Cond.instanceMethod (xmy k) ∈ lw_tbl := by
    have := x_mem_pos _ xin_w _ (List.mem_map.mpr ⟨_, hmem, rfl⟩)
    unfold xinW at this
    rw [if_neg (by rw [show (xmd k).2.2.2.2.2.1 = t + 1 from hmt]; omega)] at this
    exact this
  have hsel : Cond.selects (xmy k).cls (xmy k) (xmy k) ∈ lw_tbl := by
    have h9 : xseW (xmd k) ∈ (xms.filter (fun q => q.2.2.2.2.2.1 != 0)).map xseW := List.mem_map.mpr ⟨_, List.mem_filter.mpr ⟨hmem, by rw [show (xmd k).2.2.2.2.2.1 = t + 1 from hmt]; rfl⟩, rfl⟩
    rw [xse_w] at h9
    obtain ⟨q, -, hq⟩ := List.mem_filterMap.mp h9
    exact List.mem_of_getElem? hq
  have hini : Cond.initialized (xmy k).cls ∈ lw_tbl := x_mem_pos _ xii_w _ (List.mem_map.mpr ⟨_, hmem, rfl⟩)
  obtain ⟨q0, hq0⟩ := xcs_at he
  have hrc := xrc_ok _ hmem (by rw [show (xmd k).2.2.2.2.2.1 = t + 1 from hmt]; omega)
  rw [show (xmd k).2.2.2.2.2.1 = t + 1 from hmt, Nat.add_sub_cancel] at hrc
  have hrecv : ∃ cellB : Cell, H[ad t 0]? = some cellB ∧ cellB.vm.isStatics = false ∧ s.vm.findClass (xmy k).cls = some cellB.cls := by
    cases hob : xob t with
    | none => rw [hob] at hrc; cases hrc
    | some ci =>
      rw [hob] at hrc
      cases hci : vwCl[ci]? with
      | none => simp [hci] at hrc
      | some rc =>
        simp only [Option.bind_some, hci, Option.map_some, Option.some.injEq] at hrc
        have hw := xw_at (ad := ad) (cA := cA) M hq0
        have hcell : xcell ad cA M t 0 = .inr (ci, xfs ad M t 0) := by unfold xcell; rw [hob]
        rw [hcell] at hw
        have := va_recv hK hP hci hw
        rw [hrc] at this
        exact this
  have hPV : PreV s H (xmy k).cls (ad t 0) (xPc D ad cA k (vR t 0 :: ints.map vI) M H.size) (ints.map Value.int) := by
    refine ⟨xPc_blind, hrecv, fun U hU hW => ⟨?_, by rw [hU], by rw [hU]; exact hP, va_K.moved hW.alike hK, hD.weaken (fun _ _ _ _ => trivial), xnW_moved hW hN⟩⟩
    rw [List.map_cons, hcv]
    rfl
  have hroom' : (xrm d).frames + 1 ≤ R.frames ∧ 8 + (xmL k + 11) + (xrm d).locals ≤ R.locals := by
    have h1 : xmL k ≤ 19 := ho4
    refine ⟨hroom.1, ?_⟩
    show 8 + (xmL k + 11) + 38 * d ≤ R.locals
    omega
  have hAl : (ints.map Value.int).length = xmn k := by rw [List.length_map, hn]
  exact l_goon (k := k) (va_runV (As := ints.map Value.int) (rest := rest) ⟨hx, hb, hml, hown, hts⟩ hM ⟨callB_of (xmn k) hts (xws_good hkl) rfl rfl rfl (hts _ (xg_of hini rfl)) (hts _ hlink) ho3 hroom', hts _ (xg_of hinst rfl), hts _ (xg_of hsel rfl)⟩ hPV rfl hAl hls rfl (lv_room hrest) hdg ⟨hcs.1, hcs.2⟩) hS hFc hFc (fun H1 locs1 hP1 hk1 hS1 => kk r M' H1 locs1 hZ hP1 hk1 hS1)
def LW (D : va_G) (ad : Nat → Nat → Nat) (cA : Nat → ClassId) (A : Nat → Prop) (H0 : Heap) (C N : xM) (H : Heap) (locs : List Loc) : Prop := va_P D vwCl (xw ad cA 0 C ++ xw ad cA 1 N) H ∧ va_D A (xw ad cA 0 C ++ xw ad cA 1 N) ∧ va_S A H0 H locs
theorem lc_C {k pc ix nL : Nat} {own : String} {C N : xM} {ints : List Int32} {rest : List Value} {v : Int32} {G : xM → Prop} (hx : p.tables.exec = Jvm.exec) (hb : c.code = cc) (hml : c.maxLocals = nL) (hown : s.vm.findClass own = some m.cls) (hts : ∀ w ∈ xgW, w.before args s = true) (hN : ∀ w ∈ xnW, va_Nw w s) (hK : va_K D vwCl (xty cA) s) (hA : ∀ q, H0.size ≤ q → A q) (hW : LW D ad cA A H0 C N H locs)
    (hRn : Rn 7 k (0, xen k (vR 9 0 :: ints.map vI), [], C) (fun r C' => r = some (vI v) ∧ G C')) (hkl : k < xms.length) (hmt : xmt k = 10) (hsj : xsj k = 0) (hlink : Cond.methodLink own ix (xmy k) ∈ xgW) (hn : xmn k = ints.length) (hxl : (xsl (vR 9 0 :: ints.map vI)).length ≤ xmL k) (hroom : 8 ≤ R.frames ∧ 304 ≤ R.locals) (hcs : cells ≤ R.cells ∧ slots ≤ R.slots) (hls : ls.size = nL) (hrest : (rest.map fun v => v.category).sum ≤ 8) (hdg : decode cc pc = .ok (.invokevirtual ix, 3))
    (kk : ∀ (C' : xM) (H1 : Heap) (locs1 : List Loc), G C' → LW D ad cA A H0 C' N H1 locs1 → W p l e R s m args below meth c H1 locs1 cells slots Q (F0 m (pc + 3) ls (.int v :: rest))) :
    W p l e R s m args below meth c H locs cells slots Q (F0 m pc ls ((ints.map Value.int).reverse ++ .ref (ad 9 0) :: rest)) := by
  obtain ⟨hP, hD, hS⟩ := hW
  obtain ⟨⟨p1, d1⟩, ⟨p2, d2⟩, hdis⟩ := kt_parts hP hD
  obtain ⟨hPs, hDs⟩ := kt_swap hP hD
  have hFc : ∀ q, va_A (xw ad cA 0 C) H.size q → A q := by
    intro q hq
    rcases hq with ⟨k9, e9, h9⟩ | h9
    · exact d1.2 k9 _ h9
    · exact hA q (Nat.le_trans hS.1 h9)
  refine l_call (k := k) (d := 7) (t := 9) (M := C) hx hb hml hown hts hN hK (by rw [hsj]; exact p1) (by rw [hsj]; exact d1) hS hA hkl hmt ?_ hlink hn hRn hxl hroom hcs hls hrest hdg (fun r C' H1 locs1 hZ hP1 hk1 hS1 => ?_)
  · unfold xcm
    rw [hsj]
    decide
  · rw [hsj] at hP1 hk1
    obtain ⟨hr, hg⟩ := hZ
    subst hr
    obtain ⟨a1, a2⟩ := kt_join hPs hDs hk1 hFc hP1 (xw_D C' (d1.self (sz := H.size)))
    obtain ⟨b1, b2⟩ := kt_swap a1 a2
    exact kk C' H1 locs1 hg ⟨b1, b2, hS1⟩
theorem lc_R {k pc ix nL : Nat} {own : String} {C N F : xM} {ints : List Int32} {rest : List Value} {v : Int32} (hx : p.tables.exec = Jvm.exec) (hb : c.code = cc) (hml : c.maxLocals = nL) (hown : s.vm.findClass own = some m.cls) (hts : ∀ w ∈ xgW, w.before args s = true) (hN : ∀ w ∈ xnW, va_Nw w s) (hK : va_K D vwCl (xty cA) s) (hA : ∀ q, H0.size ≤ q → A q) (hW : LW D ad cA A H0 C N H locs)
    (hRn : Rn 6 k (0, xen k (vR 20 0 :: ints.map vI), [], N) (fun r M' => r = some (vI v) ∧ M' = F)) (hkl : k < xms.length) (hmt : xmt k = 21) (hsj : xsj k = 1) (hlink : Cond.methodLink own ix (xmy k) ∈ xgW) (hn : xmn k = ints.length) (hxl : (xsl (vR 20 0 :: ints.map vI)).length ≤ xmL k) (hroom : 8 ≤ R.frames ∧ 304 ≤ R.locals) (hcs : cells ≤ R.cells ∧ slots ≤ R.slots) (hls : ls.size = nL) (hrest : (rest.map fun v => v.category).sum ≤ 8) (hdg : decode cc pc = .ok (.invokevirtual ix, 3))
    (kk : ∀ (H1 : Heap) (locs1 : List Loc), LW D ad cA A H0 C F H1 locs1 → W p l e R s m args below meth c H1 locs1 cells slots Q (F0 m (pc + 3) ls (.int v :: rest))) :
    W p l e R s m args below meth c H locs cells slots Q (F0 m pc ls ((ints.map Value.int).reverse ++ .ref (ad 20 0) :: rest)) := by
  obtain ⟨hP, hD, hS⟩ := hW
  obtain ⟨⟨p1, d1⟩, ⟨p2, d2⟩, hdis⟩ := kt_parts hP hD
  have hFc : ∀ q, va_A (xw ad cA 1 N) H.size q → A q := by
    intro q hq
    rcases hq with ⟨k9, e9, h9⟩ | h9
    · exact d2.2 k9 _ h9
    · exact hA q (Nat.le_trans hS.1 h9)
  refine l_call (k := k) (d := 6) (t := 20) (M := N) hx hb hml hown hts hN hK (by rw [hsj]; exact p2) (by rw [hsj]; exact d2) hS hA hkl hmt ?_ hlink hn hRn hxl ⟨by omega, by omega⟩ hcs hls hrest hdg (fun r M' H1 locs1 hZ hP1 hk1 hS1 => ?_)
  · unfold xcm
    rw [hsj]
    decide
  · rw [hsj] at hP1 hk1
    obtain ⟨hr, hg⟩ := hZ
    subst hr
    obtain ⟨a1, a2⟩ := kt_join hP hD hk1 hFc hP1 (xw_D M' (d2.self (sz := H.size)))
    rw [hg] at a1 a2
    exact kk H1 locs1 ⟨a1, a2, hS1⟩
end LC
