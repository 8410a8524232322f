abbrev in0 : List Value := [.int 0, .null, .int 0, .int 0, .int 0, .int 0, .null, .null, .int 0, .int 0, .null, .null, .int 0, .long 0, .int 0, .int 0, .int 0, .int 0, .int 0]
abbrev in1 : List Value := [.null, .null, .null, .int 0]
abbrev in2 : List Value := [.null, .null, .null, .null, .int 0, .null, .null, .null, .int 0, .int 0, .int 0, .int 0, .int 0, .int 0, .int 0, .int 0, .int 0, .int 0, .int 0]
abbrev in3 : List Value := [.null, .null, .null, .null, .null, .null, .null, .null, .null, .null, .null, .null, .null, .null, .null, .null, .null, .null, .null, .null, .null, .null, .null, .null, .int 0, .int 0, .int 0, .null, .null, .int 0, .int 0, .int 0, .null, .null, .int 0, .int 0, .int 0, .int 0, .int 0, .int 0, .null]
def mkd1 (cA : Nat → ClassId) (h0 : Nat) (u : Nat × Nat × Nat) : va_W := [(h0, .inr (1, [.ref u.1, .ref u.2.1, .ref u.2.2, .int 0])), (u.1, .inl (cA 6, 60, .inl (fun _ => 0))), (u.2.1, .inl (cA 7, 60, .inl (fun _ => 0))), (u.2.2, .inl (cA 8, 60, .inl (fun _ => 0)))]
set_option maxHeartbeats 4000000 in
set_option maxRecDepth 100000 in
theorem c_init1 (l : Launch) (D : va_G) (cA : Nat → ClassId) (h0 sz : Nat) : Met l yX1_init (iW yX1_init cX1_init 1) ({ frames := 1, cells := 3, slots := 180, locals := 12 }) (va_Pc [.ref h0] (fun U => U.heap.size = sz ∧ va_P D vwCl [(h0, .inr (1, in1))] U.heap ∧ va_K D vwCl (xty cA) U ∧ va_D (fun _ => True) [(h0, .inr (1, in1))])) (va_Qv (fun _ : Nat × Nat × Nat => True) (fun u t => va_P D vwCl (mkd1 cA h0 u) t.heap ∧ va_D (va_A [(h0, .inr (1, in1))] sz) (mkd1 cA h0 u)) (va_A [(h0, .inr (1, in1))] sz)) 3 180 (va_A [(h0, .inr (1, in1))] sz) := by
  refine Met.ofW (cc := cX1_init) (maxL := 1) (ret := none) (by decide) rfl ?_
  intro p e s m args below meth c s₁ B hml hv
  obtain ⟨rfl, hsz, hP, hK, hD0⟩ := hv
  have hx := B.exec
  have hb := B.bytes
  have hr := B.returns
  have hts0 := atoms_spec (ws := iW yX1_init cX1_init 1) B.pre
  have hts : ∀ w ∈ xgW, w.before ([Value.ref h0] : List Value).toArray s = true := fun w hw => hts0 w (List.mem_cons_of_mem _ hw)
  have hown : s.vm.findClass RX1 = some m.cls := findClass_of_methodNamed B.named
  have hin : meth.name = "<init>" := (name_of_methodNamed B.named B.method).1
  subst hsz
  have hD := hD0.self (sz := s.heap.size)
  generalize hAe : va_A [(h0, .inr (1, in1))] s.heap.size = A at hD ⊢
  have hA : ∀ q : Nat, s.heap.size ≤ q → A q := fun q h => by rw [← hAe]; exact Or.inr h
  have hS : va_S A s.heap s.heap [] := va_S.rf
  have hl := lv_entry ([.ref h0]) (n := 1) (Nat.le_of_ble_eq_true rfl)
  rw [lg_entry_eq]
  generalize (lg_sl ([.ref h0]) ++ List.replicate (1 - (lg_sl ([.ref h0])).length) Slot.unset).toArray = ls at hl ⊢
  have hl : lv_has ls 1 [(0, .ref h0)] := hl
  refine lv_aload_n hx hb dX1_init_0 rfl (lv_at hl 0 rfl) ?_
  refine W.objInit hx hb hown (hts _ k_oi1) (hts _ k_oim) (hts _ k_oic) rfl (by rw [hml]; exact hl.1) rfl dX1_init_1 (Nat.le_of_ble_eq_true rfl) (Nat.le_of_ble_eq_true rfl) ?_
  refine W.eq (g2 := F0 m 4 ls []) rfl ?_
  refine lv_aload_n hx hb dX1_init_4 rfl (lv_at hl 0 rfl) ?_
  refine lv_bipush (v := 60) hx hb dX1_init_5 (by decide) ?_
  refine kt_arr 1 (cA := cA) (t := 6) (k := 0) (a0 := (60, .inl (fun _ => 0))) (atype := .int) (tyF := .array .int) hx hb hts rfl hown hin hK hA hP hD hS rfl (Nat.le_of_ble_eq_true rfl) rfl k_ac_int rfl (fun _ => rfl) (by decide) (by decide) (by decide) (Nat.le_of_ble_eq_true rfl) (Nat.le_of_ble_eq_true rfl) (by decide) rfl k_f1_9 (by decide +kernel) (fun _ => rfl) (fun _ => rfl) (Nat.le_of_ble_eq_true rfl) dX1_init_7 dX1_init_9 (fun q6 H locs hP hD hS => ?_)
  refine lv_aload_n hx hb dX1_init_12 rfl (lv_at hl 0 rfl) ?_
  refine lv_bipush (v := 60) hx hb dX1_init_13 (by decide) ?_
  refine kt_arr 1 (cA := cA) (t := 7) (k := 1) (a0 := (60, .inl (fun _ => 0))) (atype := .int) (tyF := .array .int) hx hb hts rfl hown hin hK hA hP hD hS rfl (Nat.le_of_ble_eq_true rfl) rfl k_ac_int rfl (fun _ => rfl) (by decide) (by decide) (by decide) (Nat.le_of_ble_eq_true rfl) (Nat.le_of_ble_eq_true rfl) (by decide) rfl k_f1_15 (by decide +kernel) (fun _ => rfl) (fun _ => rfl) (Nat.le_of_ble_eq_true rfl) dX1_init_15 dX1_init_17 (fun q7 H locs hP hD hS => ?_)
  refine lv_aload_n hx hb dX1_init_20 rfl (lv_at hl 0 rfl) ?_
  refine lv_bipush (v := 60) hx hb dX1_init_21 (by decide) ?_
  refine kt_arr 1 (cA := cA) (t := 8) (k := 2) (a0 := (60, .inl (fun _ => 0))) (atype := .int) (tyF := .array .int) hx hb hts rfl hown hin hK hA hP hD hS rfl (Nat.le_of_ble_eq_true rfl) rfl k_ac_int rfl (fun _ => rfl) (by decide) (by decide) (by decide) (Nat.le_of_ble_eq_true rfl) (Nat.le_of_ble_eq_true rfl) (by decide) rfl k_f1_18 (by decide +kernel) (fun _ => rfl) (fun _ => rfl) (Nat.le_of_ble_eq_true rfl) dX1_init_23 dX1_init_25 (fun q8 H locs hP hD hS => ?_)
  have hP9 : va_P D vwCl (mkd1 cA h0 (q6, q7, q8)) H := hP
  have hD9 : va_D A (mkd1 cA h0 (q6, q7, q8)) := hD
  refine W.widen (k := 3) (n := 180) (Nat.le_of_ble_eq_true rfl) (Nat.le_of_ble_eq_true rfl) ?_
  exact W.vret hx hb hr (fun t ht hW => ⟨⟨(q6, q7, q8), rfl, trivial, by rw [ht]; exact hP9, hD9⟩, hS.F ht⟩) hS.2.2 dX1_init_28
def mkd0 (cA : Nat → ClassId) (h0 : Nat) (u : Nat × Nat × Nat × Nat) : va_W := [(h0, .inr (0, [.int 0, .null, .int 0, .int 0, .int 0, .int 0, .ref u.1, .ref u.2.1, .int 0, .int 0, .ref u.2.2.1, .ref u.2.2.2, .int 0, .long 0, .int 0, .int 0, .int 0, .int 0, .int 0])), (u.1, .inl (cA 1, 8, .inl (fun _ => 0))), (u.2.1, .inl (cA 2, 21, .inl (fun _ => 0))), (u.2.2.1, .inl (cA 3, 4, .inl (fun _ => 0))), (u.2.2.2, .inl (cA 4, 4, .inl (fun _ => 0)))]
set_option maxHeartbeats 4000000 in
set_option maxRecDepth 100000 in
theorem c_init0 (l : Launch) (D : va_G) (cA : Nat → ClassId) (h0 sz : Nat) : Met l yX0_init (iW yX0_init cX0_init 1) ({ frames := 1, cells := 4, slots := 37, locals := 12 }) (va_Pc [.ref h0] (fun U => U.heap.size = sz ∧ va_P D vwCl [(h0, .inr (0, in0))] U.heap ∧ va_K D vwCl (xty cA) U ∧ va_D (fun _ => True) [(h0, .inr (0, in0))])) (va_Qv (fun _ : Nat × Nat × Nat × Nat => True) (fun u t => va_P D vwCl (mkd0 cA h0 u) t.heap ∧ va_D (va_A [(h0, .inr (0, in0))] sz) (mkd0 cA h0 u)) (va_A [(h0, .inr (0, in0))] sz)) 4 37 (va_A [(h0, .inr (0, in0))] sz) := by
  refine Met.ofW (cc := cX0_init) (maxL := 1) (ret := none) (by decide) rfl ?_
  intro p e s m args below meth c s₁ B hml hv
  obtain ⟨rfl, hsz, hP, hK, hD0⟩ := hv
  have hx := B.exec
  have hb := B.bytes
  have hr := B.returns
  have hts0 := atoms_spec (ws := iW yX0_init cX0_init 1) B.pre
  have hts : ∀ w ∈ xgW, w.before ([Value.ref h0] : List Value).toArray s = true := fun w hw => hts0 w (List.mem_cons_of_mem _ hw)
  have hown : s.vm.findClass RX0 = some m.cls := findClass_of_methodNamed B.named
  have hin : meth.name = "<init>" := (name_of_methodNamed B.named B.method).1
  subst hsz
  have hD := hD0.self (sz := s.heap.size)
  generalize hAe : va_A [(h0, .inr (0, in0))] s.heap.size = A at hD ⊢
  have hA : ∀ q : Nat, s.heap.size ≤ q → A q := fun q h => by rw [← hAe]; exact Or.inr h
  have hS : va_S A s.heap s.heap [] := va_S.rf
  have hl := lv_entry ([.ref h0]) (n := 1) (Nat.le_of_ble_eq_true rfl)
  rw [lg_entry_eq]
  generalize (lg_sl ([.ref h0]) ++ List.replicate (1 - (lg_sl ([.ref h0])).length) Slot.unset).toArray = ls at hl ⊢
  have hl : lv_has ls 1 [(0, .ref h0)] := hl
  refine lv_aload_n hx hb dX0_init_0 rfl (lv_at hl 0 rfl) ?_
  refine W.objInit hx hb hown (hts _ k_oi0) (hts _ k_oim) (hts _ k_oic) rfl (by rw [hml]; exact hl.1) rfl dX0_init_1 (Nat.le_of_ble_eq_true rfl) (Nat.le_of_ble_eq_true rfl) ?_
  refine W.eq (g2 := F0 m 4 ls []) rfl ?_
  refine lv_aload_n hx hb dX0_init_4 rfl (lv_at hl 0 rfl) ?_
  refine lv_bipush (v := 8) hx hb dX0_init_5 (by decide) ?_
  refine kt_arr 0 (cA := cA) (t := 1) (k := 6) (a0 := (8, .inl (fun _ => 0))) (atype := .int) (tyF := .array .int) hx hb hts rfl hown hin hK hA hP hD hS rfl (Nat.le_of_ble_eq_true rfl) rfl k_ac_int rfl (fun _ => rfl) (by decide) (by decide) (by decide) (Nat.le_of_ble_eq_true rfl) (Nat.le_of_ble_eq_true rfl) (by decide) rfl k_f0_9 (by decide +kernel) (fun _ => rfl) (fun _ => rfl) (Nat.le_of_ble_eq_true rfl) dX0_init_7 dX0_init_9 (fun q1 H locs hP hD hS => ?_)
  refine lv_aload_n hx hb dX0_init_12 rfl (lv_at hl 0 rfl) ?_
  refine lv_bipush (v := 21) hx hb dX0_init_13 (by decide) ?_
  refine kt_arr 0 (cA := cA) (t := 2) (k := 7) (a0 := (21, .inl (fun _ => 0))) (atype := .int) (tyF := .array .int) hx hb hts rfl hown hin hK hA hP hD hS rfl (Nat.le_of_ble_eq_true rfl) rfl k_ac_int rfl (fun _ => rfl) (by decide) (by decide) (by decide) (Nat.le_of_ble_eq_true rfl) (Nat.le_of_ble_eq_true rfl) (by decide) rfl k_f0_15 (by decide +kernel) (fun _ => rfl) (fun _ => rfl) (Nat.le_of_ble_eq_true rfl) dX0_init_15 dX0_init_17 (fun q2 H locs hP hD hS => ?_)
  refine lv_aload_n hx hb dX0_init_20 rfl (lv_at hl 0 rfl) ?_
  refine lv_iconst (v := 4) hx hb dX0_init_21 (by decide) ?_
  refine kt_arr 0 (cA := cA) (t := 3) (k := 10) (a0 := (4, .inl (fun _ => 0))) (atype := .int) (tyF := .array .int) hx hb hts rfl hown hin hK hA hP hD hS rfl (Nat.le_of_ble_eq_true rfl) rfl k_ac_int rfl (fun _ => rfl) (by decide) (by decide) (by decide) (Nat.le_of_ble_eq_true rfl) (Nat.le_of_ble_eq_true rfl) (by decide) rfl k_f0_18 (by decide +kernel) (fun _ => rfl) (fun _ => rfl) (Nat.le_of_ble_eq_true rfl) dX0_init_22 dX0_init_24 (fun q3 H locs hP hD hS => ?_)
  refine lv_aload_n hx hb dX0_init_27 rfl (lv_at hl 0 rfl) ?_
  refine lv_iconst (v := 4) hx hb dX0_init_28 (by decide) ?_
  refine kt_arr 0 (cA := cA) (t := 4) (k := 11) (a0 := (4, .inl (fun _ => 0))) (atype := .int) (tyF := .array .int) hx hb hts rfl hown hin hK hA hP hD hS rfl (Nat.le_of_ble_eq_true rfl) rfl k_ac_int rfl (fun _ => rfl) (by decide) (by decide) (by decide) (Nat.le_of_ble_eq_true rfl) (Nat.le_of_ble_eq_true rfl) (by decide) rfl k_f0_21 (by decide +kernel) (fun _ => rfl) (fun _ => rfl) (Nat.le_of_ble_eq_true rfl) dX0_init_29 dX0_init_31 (fun q4 H locs hP hD hS => ?_)
  have hP9 : va_P D vwCl (mkd0 cA h0 (q1, q2, q3, q4)) H := hP
  have hD9 : va_D A (mkd0 cA h0 (q1, q2, q3, q4)) := hD
  refine W.widen (k := 4) (n := 37) (Nat.le_of_ble_eq_true rfl) (Nat.le_of_ble_eq_true rfl) ?_
  exact W.vret hx hb hr (fun t ht hW => ⟨⟨(q1, q2, q3, q4), rfl, trivial, by rw [ht]; exact hP9, hD9⟩, hS.F ht⟩) hS.2.2 dX0_init_34
