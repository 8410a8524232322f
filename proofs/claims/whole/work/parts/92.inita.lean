theorem iW_good {y : MethodName} {cc : ByteArray} {mL : Nat} (h : Cond.code y cc mL none ∈ xgW) : GoodIn xgW (iW y cc mL) := by
  intro w hw
  rcases List.mem_cons.mp hw with rfl | hw
  · exact ⟨h, good_of_word (List.mem_filter.mp h).2⟩
  · exact ⟨hw, good_of_word (List.mem_filter.mp hw).2⟩
def pgW (cA : Nat → ClassId) (a : Nat → Nat → Nat) (j : Nat) : va_W := mkd1 cA (a 5 j) (a 6 j, a 7 j, a 8 j)
def pcW (cA : Nat → ClassId) (a : Nat → Nat → Nat) (j : Nat) : va_W := mkd0 cA (a 0 j) (a 1 j, a 2 j, a 3 j, a 4 j)
def wA (cA : Nat → ClassId) (h0 : Nat) (fs : List Value) (q10 : Nat) (w0 : va_W) (a : Nat → Nat → Nat) (i : Nat) : va_W := (h0, .inr (2, fs)) :: (q10, .inl (cA 10, 16, .inr (.inr (.inr (.inr (fun j => if j < i then some (a 5 j) else none)))))) :: (w0 ++ (List.range i).flatMap (pgW cA a))
def wB (cA : Nat → ClassId) (h0 : Nat) (fs : List Value) (x10 : Nat × va_E) (q11 : Nat) (w0 : va_W) (a : Nat → Nat → Nat) (i : Nat) : va_W := (h0, .inr (2, fs)) :: x10 :: (q11, .inl (cA 11, 24, .inr (.inr (.inr (.inr (fun j => if j < i then some (a 0 j) else none)))))) :: (w0 ++ (List.range i).flatMap (pcW cA a))
def ext1 (a : Nat → Nat → Nat) (i q : Nat) (u : Nat × Nat × Nat) : Nat → Nat → Nat := fun t j => if j = i then (if t = 5 then q else if t = 6 then u.1 else if t = 7 then u.2.1 else u.2.2) else a t j
def ext0 (a : Nat → Nat → Nat) (i q : Nat) (u : Nat × Nat × Nat × Nat) : Nat → Nat → Nat := fun t j => if j = i then (if t = 0 then q else if t = 1 then u.1 else if t = 2 then u.2.1 else if t = 3 then u.2.2.1 else u.2.2.2) else a t j
theorem flat_ext {α β : Type} {f g : Nat → List β} {i : Nat} {w : List β} (h1 : ∀ j, j < i → f j = g j) (h2 : f i = w) : (List.range (i + 1)).flatMap f = (List.range i).flatMap g ++ w := by
  rw [List.range_succ, List.flatMap_append, List.flatMap_def, List.flatMap_def, List.flatMap_def, List.map_congr_left (fun j hj => h1 j (List.mem_range.mp hj))]
  simp [h2]
theorem wA_step {cA : Nat → ClassId} {h0 q10 q i : Nat} {fs : List Value} {w0 : va_W} {a : Nat → Nat → Nat} {u : Nat × Nat × Nat} (hi : i < 2 ^ 31) : ((wA cA h0 fs q10 w0 a i) ++ mkd1 cA q u).set 1 (q10, .inl (cA 10, 16, .inr (.inr (.inr (.inr (va_up (fun j => if j < i then some (a 5 j) else none) (nI i).toNatClampNeg (some q))))))) = wA cA h0 fs q10 w0 (ext1 a i q u) (i + 1) := by
  have e1 : va_up (fun j => if j < i then some (a 5 j) else none) (nI i).toNatClampNeg (some q) = fun j => if j < i + 1 then some (ext1 a i q u 5 j) else none := by
    funext j
    rw [nI_clamp hi]
    unfold va_up ext1
    by_cases h : j = i
    · subst h; simp
    · by_cases h2 : j < i
      · simp [h, h2, show j < i + 1 by omega]
      · simp [h, h2, show ¬ j < i + 1 by omega]
  have e2 : (List.range (i + 1)).flatMap (pgW cA (ext1 a i q u)) = (List.range i).flatMap (pgW cA a) ++ mkd1 cA q u := by
    refine flat_ext (α := Nat) (fun j hj => ?_) ?_
    · have hne : ¬ j = i := by omega
      unfold pgW ext1
      simp [hne]
    · unfold pgW ext1
      simp
  rw [e1]
  unfold wA
  rw [e2, ← List.append_assoc]
  rfl
theorem wB_step {cA : Nat → ClassId} {h0 q11 q i : Nat} {fs : List Value} {x10 : Nat × va_E} {w0 : va_W} {a : Nat → Nat → Nat} {u : Nat × Nat × Nat × Nat} (hi : i < 2 ^ 31) : ((wB cA h0 fs x10 q11 w0 a i) ++ mkd0 cA q u).set 2 (q11, .inl (cA 11, 24, .inr (.inr (.inr (.inr (va_up (fun j => if j < i then some (a 0 j) else none) (nI i).toNatClampNeg (some q))))))) = wB cA h0 fs x10 q11 w0 (ext0 a i q u) (i + 1) := by
  have e1 : va_up (fun j => if j < i then some (a 0 j) else none) (nI i).toNatClampNeg (some q) = fun j => if j < i + 1 then some (ext0 a i q u 0 j) else none := by
    funext j
    rw [nI_clamp hi]
    unfold va_up ext0
    by_cases h : j = i
    · subst h; simp
    · by_cases h2 : j < i
      · simp [h, h2, show j < i + 1 by omega]
      · simp [h, h2, show ¬ j < i + 1 by omega]
  have e2 : (List.range (i + 1)).flatMap (pcW cA (ext0 a i q u)) = (List.range i).flatMap (pcW cA a) ++ mkd0 cA q u := by
    refine flat_ext (α := Nat) (fun j hj => ?_) ?_
    · have hne : ¬ j = i := by omega
      unfold pcW ext0
      simp [hne]
    · unfold pcW ext0
      simp
  rw [e1]
  unfold wB
  rw [e2, ← List.append_assoc]
  rfl
section LP
variable {p : Program} {l : Launch} {e : Env} {R : Room} {s : State} {m : MethodId} {args : Array Value} {below : List Frame} {meth : Method} {c : Code} {H0 : Heap} {Q : State → Prop} {D : va_G} {cA : Nat → ClassId} {A : Nat → Prop}
set_option maxHeartbeats 4000000 in
set_option maxRecDepth 100000 in
theorem ilp1 (hx : p.tables.exec = Jvm.exec) (hb : c.code = cX2_init) (hml : c.maxLocals = 2) (hown : s.vm.findClass RX2 = some m.cls) (hts : ∀ w ∈ xgW, w.before args s = true) (hN : ∀ w ∈ xnW, va_Nw w s) (hK : va_K D vwCl (xty cA) s) (hA : ∀ q, H0.size ≤ q → A q) (hRc : R.cells = 191) (hRs : R.slots = 6880) (hRf : 2 ≤ R.frames) (hRl : 32 ≤ R.locals) {h0 q10 : Nat} {fs : List Value} (hf0 : fs[0]? = some (.ref q10)) {w0 : va_W}
    (kk : ∀ (a : Nat → Nat → Nat) (H : Heap) (locs : List Loc) (ls : Array Slot), va_P D vwCl (wA cA h0 fs q10 w0 a 16) H → va_D A (wA cA h0 fs q10 w0 a 16) → va_S A H0 H locs → lv_has ls 2 [(1, .int (nI 16)), (0, .ref h0)] → W p l e R s m args below meth c H locs 71 5536 Q (F0 m 98 ls [])) :
    ∀ (n i : Nat) (a : Nat → Nat → Nat) (H : Heap) (locs : List Loc) (ls : Array Slot), i + n = 16 → va_P D vwCl (wA cA h0 fs q10 w0 a i) H → va_D A (wA cA h0 fs q10 w0 a i) → va_S A H0 H locs → lv_has ls 2 [(1, .int (nI i)), (0, .ref h0)] → W p l e R s m args below meth c H locs (7 + 4 * i) (2592 + 184 * i) Q (F0 m 73 ls []) := by
  intro n
  induction n with
  | zero =>
    intro i a H locs ls hi hP hD hS hl
    obtain rfl : i = 16 := by omega
    refine lv_iload_n hx hb dX2_init_73 rfl (lv_at hl 0 rfl) ?_
    refine lv_bipush (v := 16) hx hb dX2_init_74 (by decide) ?_
    refine lv_icmp_ge (tgt := 98) hx hb dX2_init_76 (by decide) (fun c1 => ?_) (fun c1 => ?_)
    · exact kk a H locs ls hP hD hS hl
    · exact absurd (by decide) c1
  | succ n ih =>
    intro i a H locs ls hi hP hD hS hl
    have hi16 : i < 16 := by omega
    refine lv_iload_n hx hb dX2_init_73 rfl (lv_at hl 0 rfl) ?_
    refine lv_bipush (v := 16) hx hb dX2_init_74 (by decide) ?_
    refine lv_icmp_ge (tgt := 98) hx hb dX2_init_76 (by decide) (fun c1 => ?_) (fun c1 => ?_)
    · exact absurd ((nI_ltI (a := i) (b := 16) (by omega) (by decide)).mpr hi16) (Int32.not_lt.mpr c1)
    refine lv_aload_n hx hb dX2_init_79 rfl (lv_at hl 1 rfl) ?_
    refine va_get (D := D) (ci := 2) (v := .ref q10) (C := RX2) (T := TX2) (N := 19) hx hb hts (xcls (ci := 2) rfl).1 hown hK hP 0 rfl rfl 0 (by decide) (hts _ k_f2_11) (fun _ h9 => h9) hf0 dX2_init_80 ?_
    refine lv_iload_n hx hb dX2_init_83 rfl (lv_at hl 0 rfl) ?_
    refine va_new (ci := 1) (fs := in1) (C := RX1) (T := TX1) (N := 4) hx hb hts (xcls (ci := 1) rfl).1 tyX1 tyX1_ok hown (hts _ k_cl1) (hts _ k_inst1) (hts _ k_ini1) hK hP hD hS hA rfl (fun j hj => by rcases (show j = 0 ∨ j = 1 ∨ j = 2 ∨ j = 3 by omega) with rfl | rfl | rfl | rfl <;> rfl) (by rw [hRc]; omega) (by rw [hRs]; omega) dX2_init_84 (fun q H1 hP hD hS => ?_)
    refine lv_dup hx hb dX2_init_87 rfl ?_
    obtain ⟨-, ⟨hPc, hDc⟩, -⟩ := kt_parts hP hD
    have hFc : ∀ x, va_A [(q, .inr (1, in1))] H1.size x → A x := by
      rintro x (⟨k9, e9, h9⟩ | h9)
      · exact hDc.2 k9 _ h9
      · exact hA x (Nat.le_trans hS.1 h9)
    refine va_callv (va_runIN (As := []) (rest := [.ref q, .int (nI i), .ref q10]) ⟨hx, hb, hml, hown, hts⟩ (c_init1 l D cA q H1.size) ⟨va_cnB 0 hts (iW_good k_code1) rfl rfl rfl (hN _ k_ni1) (hts _ k_ini1) ⟨by decide +kernel, by decide +kernel, by decide +kernel⟩ ⟨hRf, hRl⟩, rfl, hts _ k_im1⟩ ⟨fun a U g mk q => by obtain ⟨q0, q1, qP, qK, qD⟩ := q; exact ⟨q0, q1, qP, va_K.moved (u := U) (U := U.calling g mk a) (Vm.Alike.refl U.vm) qK, qD⟩, fun U hU hW => ⟨rfl, by rw [hU], by rw [hU]; exact hPc, va_K.moved hW.alike hK, hDc.weaken (fun _ _ _ _ => trivial)⟩⟩ rfl rfl hl.1 rfl (lv_room (Nat.le_of_ble_eq_true rfl)) dX2_init_88 ⟨by rw [hRc]; omega, by rw [hRs]; omega⟩) hS (fun x _ h => hFc x h) hFc (fun u t H2 locs2 ht hvm hw hB hz1 hk1 hS => ?_)
    obtain ⟨hP1, hD1⟩ := hB
    rw [ht] at hP1
    obtain ⟨hP, hD⟩ := kt_join hP hD hk1 hFc hP1 hD1
    obtain ⟨t0, ht0⟩ := xty_at (cA := cA) (t := 10) (e := 0) rfl (Nat.le_of_ble_eq_true rfl)
    refine va_astq hx hb hK hP hD hS 1 t0 ((wA cA h0 fs q10 w0 a i).length + 0) 1 (cA := cA 10) (r := (RX1, TX1, 4)) (vs := [.ref u.1, .ref u.2.1, .ref u.2.2, .int 0]) (n := 16) (f := fun j => if j < i then some (a 5 j) else none) rfl ht0 (kt_ir (k := 0) rfl) rfl (vp_in_nI hi16 (by decide)) dX2_init_91 (fun H3 locs3 hP hD hS => ?_)
    have e9 := wA_step (cA := cA) (h0 := h0) (q10 := q10) (q := q) (i := i) (fs := fs) (w0 := w0) (a := a) (u := u) (by omega)
    rw [e9] at hP hD
    refine lv_iinc (v := nI (i + 1)) (lv' := [(1, .int (nI (i + 1))), (0, .ref h0)]) hx hb dX2_init_92 hl (k := 0) rfl (nI_inc i) (by decide) rfl (fun ls hl => ?_)
    refine lv_goto (tgt := 73) hx hb dX2_init_95 (by decide) ?_
    refine W.widen (k := 7 + 4 * (i + 1)) (n := 2592 + 184 * (i + 1)) (by omega) (by omega) ?_
    exact ih (i + 1) _ _ _ ls (by omega) hP hD hS hl
set_option maxHeartbeats 4000000 in
set_option maxRecDepth 100000 in
theorem ilp2 (hx : p.tables.exec = Jvm.exec) (hb : c.code = cX2_init) (hml : c.maxLocals = 2) (hown : s.vm.findClass RX2 = some m.cls) (hts : ∀ w ∈ xgW, w.before args s = true) (hN : ∀ w ∈ xnW, va_Nw w s) (hK : va_K D vwCl (xty cA) s) (hA : ∀ q, H0.size ≤ q → A q) (hRc : R.cells = 191) (hRs : R.slots = 6880) (hRf : 2 ≤ R.frames) (hRl : 32 ≤ R.locals) {h0 q11 : Nat} {fs : List Value} (hf1 : fs[1]? = some (.ref q11)) {w0 : va_W} {x10 : Nat × va_E}
    (kk : ∀ (a : Nat → Nat → Nat) (H : Heap) (locs : List Loc) (ls : Array Slot), va_P D vwCl (wB cA h0 fs x10 q11 w0 a 24) H → va_D A (wB cA h0 fs x10 q11 w0 a 24) → va_S A H0 H locs → W p l e R s m args below meth c H locs 191 6880 Q (F0 m 125 ls [])) :
    ∀ (n i : Nat) (a : Nat → Nat → Nat) (H : Heap) (locs : List Loc) (ls : Array Slot), i + n = 24 → va_P D vwCl (wB cA h0 fs x10 q11 w0 a i) H → va_D A (wB cA h0 fs x10 q11 w0 a i) → va_S A H0 H locs → lv_has ls 2 [(1, .int (nI i)), (0, .ref h0)] → W p l e R s m args below meth c H locs (71 + 5 * i) (5536 + 56 * i) Q (F0 m 100 ls []) := by
  intro n
  induction n with
  | zero =>
    intro i a H locs ls hi hP hD hS hl
    obtain rfl : i = 24 := by omega
    refine lv_iload_n hx hb dX2_init_100 rfl (lv_at hl 0 rfl) ?_
    refine lv_bipush (v := 24) hx hb dX2_init_101 (by decide) ?_
    refine lv_icmp_ge (tgt := 125) hx hb dX2_init_103 (by decide) (fun c1 => ?_) (fun c1 => ?_)
    · exact kk a H locs ls hP hD hS
    · exact absurd (by decide) c1
  | succ n ih =>
    intro i a H locs ls hi hP hD hS hl
    have hi24 : i < 24 := by omega
    refine lv_iload_n hx hb dX2_init_100 rfl (lv_at hl 0 rfl) ?_
    refine lv_bipush (v := 24) hx hb dX2_init_101 (by decide) ?_
    refine lv_icmp_ge (tgt := 125) hx hb dX2_init_103 (by decide) (fun c1 => ?_) (fun c1 => ?_)
    · exact absurd ((nI_ltI (a := i) (b := 24) (by omega) (by decide)).mpr hi24) (Int32.not_lt.mpr c1)
    refine lv_aload_n hx hb dX2_init_106 rfl (lv_at hl 1 rfl) ?_
    refine va_get (D := D) (ci := 2) (v := .ref q11) (C := RX2) (T := TX2) (N := 19) hx hb hts (xcls (ci := 2) rfl).1 hown hK hP 0 rfl rfl 1 (by decide) (hts _ k_f2_17) (fun _ h9 => h9) hf1 dX2_init_107 ?_
    refine lv_iload_n hx hb dX2_init_110 rfl (lv_at hl 0 rfl) ?_
    refine va_new (ci := 0) (fs := in0) (C := RX0) (T := TX0) (N := 19) hx hb hts (xcls (ci := 0) rfl).1 tyX0 tyX0_ok hown (hts _ k_cl0) (hts _ k_inst0) (hts _ k_ini0) hK hP hD hS hA rfl (fun j hj => by rcases (show j = 0 ∨ j = 1 ∨ j = 2 ∨ j = 3 ∨ j = 4 ∨ j = 5 ∨ j = 6 ∨ j = 7 ∨ j = 8 ∨ j = 9 ∨ j = 10 ∨ j = 11 ∨ j = 12 ∨ j = 13 ∨ j = 14 ∨ j = 15 ∨ j = 16 ∨ j = 17 ∨ j = 18 by omega) with rfl | rfl | rfl | rfl | rfl | rfl | rfl | rfl | rfl | rfl | rfl | rfl | rfl | rfl | rfl | rfl | rfl | rfl | rfl <;> rfl) (by rw [hRc]; omega) (by rw [hRs]; omega) dX2_init_111 (fun q H1 hP hD hS => ?_)
    refine lv_dup hx hb dX2_init_114 rfl ?_
    obtain ⟨-, ⟨hPc, hDc⟩, -⟩ := kt_parts hP hD
    have hFc : ∀ x, va_A [(q, .inr (0, in0))] H1.size x → A x := by
      rintro x (⟨k9, e9, h9⟩ | h9)
      · exact hDc.2 k9 _ h9
      · exact hA x (Nat.le_trans hS.1 h9)
    refine va_callv (va_runIN (As := []) (rest := [.ref q, .int (nI i), .ref q11]) ⟨hx, hb, hml, hown, hts⟩ (c_init0 l D cA q H1.size) ⟨va_cnB 0 hts (iW_good k_code0) rfl rfl rfl (hN _ k_ni0) (hts _ k_ini0) ⟨by decide +kernel, by decide +kernel, by decide +kernel⟩ ⟨hRf, hRl⟩, rfl, hts _ k_im0⟩ ⟨fun a U g mk q => by obtain ⟨q0, q1, qP, qK, qD⟩ := q; exact ⟨q0, q1, qP, va_K.moved (u := U) (U := U.calling g mk a) (Vm.Alike.refl U.vm) qK, qD⟩, fun U hU hW => ⟨rfl, by rw [hU], by rw [hU]; exact hPc, va_K.moved hW.alike hK, hDc.weaken (fun _ _ _ _ => trivial)⟩⟩ rfl rfl hl.1 rfl (lv_room (Nat.le_of_ble_eq_true rfl)) dX2_init_115 ⟨by rw [hRc]; omega, by rw [hRs]; omega⟩) hS (fun x _ h => hFc x h) hFc (fun u t H2 locs2 ht hvm hw hB hz1 hk1 hS => ?_)
    obtain ⟨hP1, hD1⟩ := hB
    rw [ht] at hP1
    obtain ⟨hP, hD⟩ := kt_join hP hD hk1 hFc hP1 hD1
    obtain ⟨t0, ht0⟩ := xty_at (cA := cA) (t := 11) (e := 0) rfl (Nat.le_of_ble_eq_true rfl)
    refine va_astq hx hb hK hP hD hS 2 t0 ((wB cA h0 fs x10 q11 w0 a i).length + 0) 0 (cA := cA 11) (r := (RX0, TX0, 19)) (n := 24) (f := fun j => if j < i then some (a 0 j) else none) rfl ht0 (kt_ir (k := 0) rfl) rfl (vp_in_nI hi24 (by decide)) dX2_init_118 (fun H3 locs3 hP hD hS => ?_)
    have e9 := wB_step (cA := cA) (h0 := h0) (q11 := q11) (q := q) (i := i) (fs := fs) (x10 := x10) (w0 := w0) (a := a) (u := u) (by omega)
    rw [e9] at hP hD
    refine lv_iinc (v := nI (i + 1)) (lv' := [(1, .int (nI (i + 1))), (0, .ref h0)]) hx hb dX2_init_119 hl (k := 0) rfl (nI_inc i) (by decide) rfl (fun ls hl => ?_)
    refine lv_goto (tgt := 100) hx hb dX2_init_122 (by decide) ?_
    refine W.widen (k := 71 + 5 * (i + 1)) (n := 5536 + 56 * (i + 1)) (by omega) (by omega) ?_
    exact ih (i + 1) _ _ _ ls (by omega) hP hD hS hl
end LP
