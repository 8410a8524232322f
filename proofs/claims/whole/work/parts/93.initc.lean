def C0 : xM := (fun t _ k => if t = 9 ∧ k = 11 then 23 else 0, fun _ _ _ => 0, fun _ _ _ => none)
def xcsB : List (Nat × Nat) := [(9, 0), (10, 0), (11, 0), (12, 0), (13, 0), (14, 0), (15, 0), (16, 0)] ++ ((List.range 16).flatMap (fun i => [(5, i), (6, i), (7, i), (8, i)]) ++ (List.range 24).flatMap (fun j => [(0, j), (1, j), (2, j), (3, j), (4, j)]))
set_option maxRecDepth 100000 in
theorem xcsB_all : ∀ x ∈ xcs 0, x ∈ xcsB := by decide +kernel
set_option maxRecDepth 100000 in
theorem xcs0_nd : (xcs 0).Nodup := by decide +kernel
theorem xar_F {ad : Nat → Nat → Nat} {M : xM} {t e : Nat} (h : 100 ≤ xek t) : xar ad M t e = (xal t, .inr (.inr (.inr (.inr (fun j => some (ad (xek t - 100) j)))))) := by
  unfold xar
  rw [if_neg (by omega), if_neg (by omega)]
  have : (fun j => if xek t < 100 then (M.2.2 t e j).map (ad (xek t - 10)) else some (ad (xek t - 100) j)) = fun j => some (ad (xek t - 100) j) := by
    funext j; rw [if_neg (by omega)]
  rw [this]
theorem xar_V {ad : Nat → Nat → Nat} {M : xM} {t e : Nat} (h : xek t = 10) : xar ad M t e = (xal t, .inr (.inr (.inr (.inr (fun j => (M.2.2 t e j).map (ad 0)))))) := by
  unfold xar
  rw [if_neg (by omega), if_neg (by omega)]
  have : (fun j => if xek t < 100 then (M.2.2 t e j).map (ad (xek t - 10)) else some (ad (xek t - 100) j)) = fun j => (M.2.2 t e j).map (ad 0) := by
    funext j; rw [if_pos (by omega), h]
  rw [this]
theorem er_F {ad : Nat → Nat → Nat} {cA : Nat → ClassId} {M : xM} {t e q n b : Nat} (h1 : ad t e = q) (h : xob t = none) (hk : xek t = b + 100) (hn : xal t = n) : (ad t e, xcell ad cA M t e) = (q, .inl (cA t, n, .inr (.inr (.inr (.inr (fun j => some (ad b j))))))) := by
  rw [xc_none h, xar_F (by omega), h1, hn, show xek t - 100 = b by omega]
theorem er_V {ad : Nat → Nat → Nat} {cA : Nat → ClassId} {M : xM} {t e q n : Nat} (h1 : ad t e = q) (h : xob t = none) (hk : xek t = 10) (hn : xal t = n) (hz : M.2.2 t e = fun _ => none) : (ad t e, xcell ad cA M t e) = (q, .inl (cA t, n, .inr (.inr (.inr (.inr (fun _ => none)))))) := by
  rw [xc_none h, xar_V hk, h1, hn, hz]; rfl
theorem kt_cell {cA : ClassId} {n : Nat} {f g : Nat → Option Nat} (h : ∀ j, j < n → f j = g j) : vp_cell cA (n, .inr (.inr (.inr (.inr f)))) = vp_cell cA (n, .inr (.inr (.inr (.inr g)))) := by
  show arrV cA n (fun j => va_rf (f j)) = arrV cA n (fun j => va_rf (g j))
  unfold arrV
  have : (fun j : Fin n => va_rf (f j.val)) = fun j : Fin n => va_rf (g j.val) := by
    funext j; rw [h j.val j.isLt]
  rw [this]
theorem kt_setP {D : va_G} {cl : List vw_C} {L : va_W} {k : Nat} {x y : Nat × va_E} {H : Heap} (hP : va_P D cl L H) (hk : L[k]? = some x) (hx : va_at D cl x H → va_at D cl y H) : va_P D cl (L.set k y) H := by
  intro i q hq
  rw [List.getElem?_set] at hq
  split at hq
  · split at hq
    · cases hq; exact hx (hP k x hk)
    · cases hq
  · exact hP i q hq
theorem kt_setD {A : Nat → Prop} {L : va_W} {k : Nat} {x y : Nat × va_E} (hD : va_D A L) (hk : L[k]? = some x) (hx : y.1 = x.1) : va_D A (L.set k y) := by
  have key : ∀ (i : Nat) (q : Nat × va_E), (L.set k y)[i]? = some q → ∃ q' : Nat × va_E, L[i]? = some q' ∧ q'.1 = q.1 := by
    intro i q hq
    rw [List.getElem?_set] at hq
    split at hq
    · rename_i hki
      split at hq
      · cases hq; subst hki; exact ⟨x, hk, hx.symm⟩
      · cases hq
    · exact ⟨q, hq, rfl⟩
  refine ⟨fun i j p q hp hq h => ?_, fun i q hq => ?_⟩
  · obtain ⟨p', p1, p2⟩ := key i p hp
    obtain ⟨q', q1, q2⟩ := key j q hq
    exact hD.1 i j p' q' p1 q1 (by rw [p2, q2, h])
  · obtain ⟨q', q1, q2⟩ := key i q hq
    rw [← q2]; exact hD.2 i q' q1
def adC (h0 q10 q11 q12 q13 q14 q15 q16 : Nat) (a b : Nat → Nat → Nat) : Nat → Nat → Nat := fun t e => if t < 5 then b t e else if t < 9 then a t e else if t = 9 then h0 else if t = 10 then q10 else if t = 11 then q11 else if t = 12 then q12 else if t = 13 then q13 else if t = 14 then q14 else if t = 15 then q15 else q16
set_option maxHeartbeats 4000000 in
set_option maxRecDepth 100000 in
theorem wd_pg (cA : Nat → ClassId) (h0 q10 q11 q12 q13 q14 q15 q16 : Nat) (a b : Nat → Nat → Nat) (i : Nat) : [(5, i), (6, i), (7, i), (8, i)].map (fun q : Nat × Nat => ((adC h0 q10 q11 q12 q13 q14 q15 q16 a b) q.1 q.2, xcell (adC h0 q10 q11 q12 q13 q14 q15 q16 a b) cA C0 q.1 q.2)) = pgW cA a i :=
  congr (congrArg List.cons (er_O rfl rfl (xfs_5 _ _ _))) (congr (congrArg List.cons (er_I (t := 6) rfl rfl (by decide) rfl rfl)) (congr (congrArg List.cons (er_I (t := 7) rfl rfl (by decide) rfl rfl)) (congr (congrArg List.cons (er_I (t := 8) rfl rfl (by decide) rfl rfl)) rfl)))
set_option maxHeartbeats 4000000 in
set_option maxRecDepth 100000 in
theorem wd_pc (cA : Nat → ClassId) (h0 q10 q11 q12 q13 q14 q15 q16 : Nat) (a b : Nat → Nat → Nat) (i : Nat) : [(0, i), (1, i), (2, i), (3, i), (4, i)].map (fun q : Nat × Nat => ((adC h0 q10 q11 q12 q13 q14 q15 q16 a b) q.1 q.2, xcell (adC h0 q10 q11 q12 q13 q14 q15 q16 a b) cA C0 q.1 q.2)) = pcW cA b i :=
  congr (congrArg List.cons (er_O rfl rfl (xfs_0 _ _ _))) (congr (congrArg List.cons (er_I (t := 1) rfl rfl (by decide) rfl rfl)) (congr (congrArg List.cons (er_I (t := 2) rfl rfl (by decide) rfl rfl)) (congr (congrArg List.cons (er_I (t := 3) rfl rfl (by decide) rfl rfl)) (congr (congrArg List.cons (er_I (t := 4) rfl rfl (by decide) rfl rfl)) rfl))))
set_option maxHeartbeats 4000000 in
set_option maxRecDepth 100000 in
theorem wd_base (cA : Nat → ClassId) (h0 q10 q11 q12 q13 q14 q15 q16 : Nat) (a b : Nat → Nat → Nat) : [(9, 0), (10, 0), (11, 0), (12, 0), (13, 0), (14, 0), (15, 0), (16, 0)].map (fun q : Nat × Nat => ((adC h0 q10 q11 q12 q13 q14 q15 q16 a b) q.1 q.2, xcell (adC h0 q10 q11 q12 q13 q14 q15 q16 a b) cA C0 q.1 q.2)) = [(h0, .inr (2, [.ref q10, .ref q11, .ref q12, .ref q13, .int 0, .ref q14, .ref q15, .ref q16, .int 0, .int 0, .int 0, .int 23, .int 0, .int 0, .int 0, .int 0, .int 0, .int 0, .int 0])), (q10, .inl (cA 10, 16, .inr (.inr (.inr (.inr (fun j => some (a 5 j))))))), (q11, .inl (cA 11, 24, .inr (.inr (.inr (.inr (fun j => some (b 0 j))))))), (q12, .inl (cA 12, 1224, .inr (.inr (.inr (.inr (fun _ => none)))))), (q13, .inl (cA 13, (1224, .inl (fun _ => 0)))), (q14, .inl (cA 14, (24, .inl (fun _ => 0)))), (q15, .inl (cA 15, (40, .inl (fun _ => 0)))), (q16, .inl (cA 16, (40, .inl (fun _ => 0))))] :=
  congr (congrArg List.cons (er_O rfl rfl (xfs_9 _ _ _))) (congr (congrArg List.cons (er_F (t := 10) (b := 5) rfl rfl rfl rfl)) (congr (congrArg List.cons (er_F (t := 11) (b := 0) rfl rfl rfl rfl)) (congr (congrArg List.cons (er_V (t := 12) rfl rfl rfl rfl rfl)) (congr (congrArg List.cons (er_I (t := 13) rfl rfl (by decide) rfl rfl)) (congr (congrArg List.cons (er_I (t := 14) rfl rfl (by decide) rfl rfl)) (congr (congrArg List.cons (er_I (t := 15) rfl rfl (by decide) rfl rfl)) (congr (congrArg List.cons (er_I (t := 16) rfl rfl (by decide) rfl rfl)) rfl)))))))
theorem wd_all (cA : Nat → ClassId) (h0 q10 q11 q12 q13 q14 q15 q16 : Nat) (a b : Nat → Nat → Nat) : xcsB.map (fun q : Nat × Nat => ((adC h0 q10 q11 q12 q13 q14 q15 q16 a b) q.1 q.2, xcell (adC h0 q10 q11 q12 q13 q14 q15 q16 a b) cA C0 q.1 q.2)) = [(h0, .inr (2, [.ref q10, .ref q11, .ref q12, .ref q13, .int 0, .ref q14, .ref q15, .ref q16, .int 0, .int 0, .int 0, .int 23, .int 0, .int 0, .int 0, .int 0, .int 0, .int 0, .int 0])), (q10, .inl (cA 10, 16, .inr (.inr (.inr (.inr (fun j => some (a 5 j))))))), (q11, .inl (cA 11, 24, .inr (.inr (.inr (.inr (fun j => some (b 0 j))))))), (q12, .inl (cA 12, 1224, .inr (.inr (.inr (.inr (fun _ => none)))))), (q13, .inl (cA 13, (1224, .inl (fun _ => 0)))), (q14, .inl (cA 14, (24, .inl (fun _ => 0)))), (q15, .inl (cA 15, (40, .inl (fun _ => 0)))), (q16, .inl (cA 16, (40, .inl (fun _ => 0))))] ++ ((List.range 16).flatMap (pgW cA a) ++ (List.range 24).flatMap (pcW cA b)) := by
  unfold xcsB
  rw [List.map_append, List.map_append, List.map_flatMap, List.map_flatMap, wd_base]
  have e1 : (fun i => [(5, i), (6, i), (7, i), (8, i)].map (fun q : Nat × Nat => ((adC h0 q10 q11 q12 q13 q14 q15 q16 a b) q.1 q.2, xcell (adC h0 q10 q11 q12 q13 q14 q15 q16 a b) cA C0 q.1 q.2))) = pgW cA a := funext fun i => wd_pg cA h0 q10 q11 q12 q13 q14 q15 q16 a b i
  have e2 : (fun i => [(0, i), (1, i), (2, i), (3, i), (4, i)].map (fun q : Nat × Nat => ((adC h0 q10 q11 q12 q13 q14 q15 q16 a b) q.1 q.2, xcell (adC h0 q10 q11 q12 q13 q14 q15 q16 a b) cA C0 q.1 q.2))) = pcW cA b := funext fun i => wd_pc cA h0 q10 q11 q12 q13 q14 q15 q16 a b i
  rw [e1, e2]
set_option maxHeartbeats 4000000 in
set_option maxRecDepth 100000 in
theorem c_init2 (l : Launch) (D : va_G) (cA : Nat → ClassId) (h0 sz : Nat) : Met l yX2_init (iW yX2_init cX2_init 2) ({ frames := 2, cells := 191, slots := 6880, locals := 32 }) (va_Pc [.ref h0] (fun U => U.heap.size = sz ∧ va_P D vwCl [(h0, .inr (2, in2))] U.heap ∧ va_K D vwCl (xty cA) U ∧ va_D (fun _ => True) [(h0, .inr (2, in2))] ∧ (∀ w ∈ xnW, va_Nw w U) ∧ va_AO RX1 U ∧ va_AO RX0 U)) (va_Qv (fun ad : Nat → Nat → Nat => ad 9 0 = h0) (fun ad t => va_P D vwCl (xw ad cA 0 C0) t.heap ∧ va_D (va_A [(h0, .inr (2, in2))] sz) (xw ad cA 0 C0)) (va_A [(h0, .inr (2, in2))] sz)) 191 6880 (va_A [(h0, .inr (2, in2))] sz) := by
  refine Met.ofW (cc := cX2_init) (maxL := 2) (ret := none) (by decide) rfl ?_
  intro p e s m args below meth c s₁ B hml hv
  obtain ⟨rfl, hsz, hP, hK, hD0, hN, hao1, hao0⟩ := hv
  have hx := B.exec
  have hb := B.bytes
  have hr := B.returns
  have hts0 := atoms_spec (ws := iW yX2_init cX2_init 2) B.pre
  have hts : ∀ w ∈ xgW, w.before ([Value.ref h0] : List Value).toArray s = true := fun w hw => hts0 w (List.mem_cons_of_mem _ hw)
  have hown : s.vm.findClass RX2 = some m.cls := findClass_of_methodNamed B.named
  have hin : meth.name = "<init>" := (name_of_methodNamed B.named B.method).1
  subst hsz
  have hD := hD0.self (sz := s.heap.size)
  generalize hAe : va_A [(h0, .inr (2, in2))] s.heap.size = A at hD ⊢
  have hA : ∀ q : Nat, s.heap.size ≤ q → A q := fun q h => by rw [← hAe]; exact Or.inr h
  have hS : va_S A s.heap s.heap [] := va_S.rf
  have hl := lv_entry ([.ref h0]) (n := 2) (Nat.le_of_ble_eq_true rfl)
  rw [lg_entry_eq]
  generalize (lg_sl ([.ref h0]) ++ List.replicate (2 - (lg_sl ([.ref h0])).length) Slot.unset).toArray = ls at hl ⊢
  have hl : lv_has ls 2 [(0, .ref h0)] := hl
  refine lv_aload_n hx hb dX2_init_0 rfl (lv_at hl 0 rfl) ?_
  refine W.objInit hx hb hown (hts _ k_oi2) (hts _ k_oim) (hts _ k_oic) rfl (by rw [hml]; exact hl.1) rfl dX2_init_1 (Nat.le_of_ble_eq_true rfl) (Nat.le_of_ble_eq_true rfl) ?_
  refine W.eq (g2 := F0 m 4 ls []) rfl ?_
  refine lv_aload_n hx hb dX2_init_4 rfl (lv_at hl 0 rfl) ?_
  refine lv_bipush (v := 16) hx hb dX2_init_5 (by decide) ?_
  refine kt_arrq 2 (N' := 16) (cA := cA) (t := 10) (k := 0) (tyF := .array (.object "ProcessTable$Program")) hx hb hts rfl hown hin hK hA hP hD hS rfl (Nat.le_of_ble_eq_true rfl) hao1 k_cl1 rfl (by decide) (by decide) (by decide) (Nat.le_of_ble_eq_true rfl) (Nat.le_of_ble_eq_true rfl) (by decide) rfl k_f2_11 (by decide +kernel) (fun _ => rfl) (fun _ => rfl) (Nat.le_of_ble_eq_true rfl) dX2_init_7 dX2_init_10 (fun q10 H locs hP hD hS => ?_)
  have hP : va_P D vwCl ((h0, .inr (2, [.ref q10, .null, .null, .null, .int 0, .null, .null, .null, .int 0, .int 0, .int 0, .int 0, .int 0, .int 0, .int 0, .int 0, .int 0, .int 0, .int 0])) :: _) H := hP
  have hD : va_D A ((h0, .inr (2, [.ref q10, .null, .null, .null, .int 0, .null, .null, .null, .int 0, .int 0, .int 0, .int 0, .int 0, .int 0, .int 0, .int 0, .int 0, .int 0, .int 0])) :: _) := hD
  refine lv_aload_n hx hb dX2_init_13 rfl (lv_at hl 0 rfl) ?_
  refine lv_bipush (v := 24) hx hb dX2_init_14 (by decide) ?_
  refine kt_arrq 2 (N' := 24) (cA := cA) (t := 11) (k := 1) (tyF := .array (.object "ProcessTable$Proc")) hx hb hts rfl hown hin hK hA hP hD hS rfl (Nat.le_of_ble_eq_true rfl) hao0 k_cl0 rfl (by decide) (by decide) (by decide) (Nat.le_of_ble_eq_true rfl) (Nat.le_of_ble_eq_true rfl) (by decide) rfl k_f2_17 (by decide +kernel) (fun _ => rfl) (fun _ => rfl) (Nat.le_of_ble_eq_true rfl) dX2_init_16 dX2_init_19 (fun q11 H locs hP hD hS => ?_)
  have hP : va_P D vwCl ((h0, .inr (2, [.ref q10, .ref q11, .null, .null, .int 0, .null, .null, .null, .int 0, .int 0, .int 0, .int 0, .int 0, .int 0, .int 0, .int 0, .int 0, .int 0, .int 0])) :: _) H := hP
  have hD : va_D A ((h0, .inr (2, [.ref q10, .ref q11, .null, .null, .int 0, .null, .null, .null, .int 0, .int 0, .int 0, .int 0, .int 0, .int 0, .int 0, .int 0, .int 0, .int 0, .int 0])) :: _) := hD
  refine lv_aload_n hx hb dX2_init_22 rfl (lv_at hl 0 rfl) ?_
  refine lv_sipush (v := 1224) hx hb dX2_init_23 (by decide) ?_
  refine kt_arrq 2 (N' := 1224) (cA := cA) (t := 12) (k := 2) (tyF := .array (.object "ProcessTable$Proc")) hx hb hts rfl hown hin hK hA hP hD hS rfl (Nat.le_of_ble_eq_true rfl) hao0 k_cl0 rfl (by decide) (by decide) (by decide) (Nat.le_of_ble_eq_true rfl) (Nat.le_of_ble_eq_true rfl) (by decide) rfl k_f2_21 (by decide +kernel) (fun _ => rfl) (fun _ => rfl) (Nat.le_of_ble_eq_true rfl) dX2_init_26 dX2_init_29 (fun q12 H locs hP hD hS => ?_)
  have hP : va_P D vwCl ((h0, .inr (2, [.ref q10, .ref q11, .ref q12, .null, .int 0, .null, .null, .null, .int 0, .int 0, .int 0, .int 0, .int 0, .int 0, .int 0, .int 0, .int 0, .int 0, .int 0])) :: _) H := hP
  have hD : va_D A ((h0, .inr (2, [.ref q10, .ref q11, .ref q12, .null, .int 0, .null, .null, .null, .int 0, .int 0, .int 0, .int 0, .int 0, .int 0, .int 0, .int 0, .int 0, .int 0, .int 0])) :: _) := hD
  refine lv_aload_n hx hb dX2_init_32 rfl (lv_at hl 0 rfl) ?_
  refine lv_sipush (v := 1224) hx hb dX2_init_33 (by decide) ?_
  refine kt_arr 2 (cA := cA) (t := 13) (k := 3) (a0 := (1224, .inl (fun _ => 0))) (atype := .int) (tyF := .array .int) hx hb hts rfl hown hin hK hA hP hD hS rfl (Nat.le_of_ble_eq_true rfl) rfl k_ac_int rfl (fun _ => rfl) (by decide) (by decide) (by decide) (Nat.le_of_ble_eq_true rfl) (Nat.le_of_ble_eq_true rfl) (by decide) rfl k_f2_24 (by decide +kernel) (fun _ => rfl) (fun _ => rfl) (Nat.le_of_ble_eq_true rfl) dX2_init_36 dX2_init_38 (fun q13 H locs hP hD hS => ?_)
  have hP : va_P D vwCl ((h0, .inr (2, [.ref q10, .ref q11, .ref q12, .ref q13, .int 0, .null, .null, .null, .int 0, .int 0, .int 0, .int 0, .int 0, .int 0, .int 0, .int 0, .int 0, .int 0, .int 0])) :: _) H := hP
  have hD : va_D A ((h0, .inr (2, [.ref q10, .ref q11, .ref q12, .ref q13, .int 0, .null, .null, .null, .int 0, .int 0, .int 0, .int 0, .int 0, .int 0, .int 0, .int 0, .int 0, .int 0, .int 0])) :: _) := hD
  refine lv_aload_n hx hb dX2_init_41 rfl (lv_at hl 0 rfl) ?_
  refine lv_bipush (v := 24) hx hb dX2_init_42 (by decide) ?_
  refine kt_arr 2 (cA := cA) (t := 14) (k := 5) (a0 := (24, .inl (fun _ => 0))) (atype := .boolean) (tyF := .array .boolean) hx hb hts rfl hown hin hK hA hP hD hS rfl (Nat.le_of_ble_eq_true rfl) rfl k_ac_boolean rfl (fun _ => rfl) (by decide) (by decide) (by decide) (Nat.le_of_ble_eq_true rfl) (Nat.le_of_ble_eq_true rfl) (by decide) rfl k_f2_28 (by decide +kernel) (fun _ => rfl) (fun _ => rfl) (Nat.le_of_ble_eq_true rfl) dX2_init_44 dX2_init_46 (fun q14 H locs hP hD hS => ?_)
  have hP : va_P D vwCl ((h0, .inr (2, [.ref q10, .ref q11, .ref q12, .ref q13, .int 0, .ref q14, .null, .null, .int 0, .int 0, .int 0, .int 0, .int 0, .int 0, .int 0, .int 0, .int 0, .int 0, .int 0])) :: _) H := hP
  have hD : va_D A ((h0, .inr (2, [.ref q10, .ref q11, .ref q12, .ref q13, .int 0, .ref q14, .null, .null, .int 0, .int 0, .int 0, .int 0, .int 0, .int 0, .int 0, .int 0, .int 0, .int 0, .int 0])) :: _) := hD
  refine lv_aload_n hx hb dX2_init_49 rfl (lv_at hl 0 rfl) ?_
  refine lv_bipush (v := 40) hx hb dX2_init_50 (by decide) ?_
  refine kt_arr 2 (cA := cA) (t := 15) (k := 6) (a0 := (40, .inl (fun _ => 0))) (atype := .int) (tyF := .array .int) hx hb hts rfl hown hin hK hA hP hD hS rfl (Nat.le_of_ble_eq_true rfl) rfl k_ac_int rfl (fun _ => rfl) (by decide) (by decide) (by decide) (Nat.le_of_ble_eq_true rfl) (Nat.le_of_ble_eq_true rfl) (by decide) rfl k_f2_32 (by decide +kernel) (fun _ => rfl) (fun _ => rfl) (Nat.le_of_ble_eq_true rfl) dX2_init_52 dX2_init_54 (fun q15 H locs hP hD hS => ?_)
  have hP : va_P D vwCl ((h0, .inr (2, [.ref q10, .ref q11, .ref q12, .ref q13, .int 0, .ref q14, .ref q15, .null, .int 0, .int 0, .int 0, .int 0, .int 0, .int 0, .int 0, .int 0, .int 0, .int 0, .int 0])) :: _) H := hP
  have hD : va_D A ((h0, .inr (2, [.ref q10, .ref q11, .ref q12, .ref q13, .int 0, .ref q14, .ref q15, .null, .int 0, .int 0, .int 0, .int 0, .int 0, .int 0, .int 0, .int 0, .int 0, .int 0, .int 0])) :: _) := hD
  refine lv_aload_n hx hb dX2_init_57 rfl (lv_at hl 0 rfl) ?_
  refine lv_bipush (v := 40) hx hb dX2_init_58 (by decide) ?_
  refine kt_arr 2 (cA := cA) (t := 16) (k := 7) (a0 := (40, .inl (fun _ => 0))) (atype := .int) (tyF := .array .int) hx hb hts rfl hown hin hK hA hP hD hS rfl (Nat.le_of_ble_eq_true rfl) rfl k_ac_int rfl (fun _ => rfl) (by decide) (by decide) (by decide) (Nat.le_of_ble_eq_true rfl) (Nat.le_of_ble_eq_true rfl) (by decide) rfl k_f2_35 (by decide +kernel) (fun _ => rfl) (fun _ => rfl) (Nat.le_of_ble_eq_true rfl) dX2_init_60 dX2_init_62 (fun q16 H locs hP hD hS => ?_)
  have hP : va_P D vwCl ((h0, .inr (2, [.ref q10, .ref q11, .ref q12, .ref q13, .int 0, .ref q14, .ref q15, .ref q16, .int 0, .int 0, .int 0, .int 0, .int 0, .int 0, .int 0, .int 0, .int 0, .int 0, .int 0])) :: _) H := hP
  have hD : va_D A ((h0, .inr (2, [.ref q10, .ref q11, .ref q12, .ref q13, .int 0, .ref q14, .ref q15, .ref q16, .int 0, .int 0, .int 0, .int 0, .int 0, .int 0, .int 0, .int 0, .int 0, .int 0, .int 0])) :: _) := hD
  refine lv_aload_n hx hb dX2_init_65 rfl (lv_at hl 0 rfl) ?_
  refine lv_bipush (v := 23) hx hb dX2_init_66 (by decide) ?_
  refine va_put (D := D) (ci := 2) (v := .int 23) (ty := .int) (C := RX2) (T := TX2) (N := 19) hx hb hts (xcls (ci := 2) rfl).1 tyX2 tyX2_ok nmX2 hown hK hP hD hS 0 rfl rfl 11 (by decide) (hts _ k_f2_38) (fun _ h9 => h9) rfl (by decide +kernel) rfl rfl (Nat.le_of_ble_eq_true rfl) dX2_init_68 (fun H locs hP hD hS => ?_)
  have hP : va_P D vwCl ((h0, .inr (2, [.ref q10, .ref q11, .ref q12, .ref q13, .int 0, .ref q14, .ref q15, .ref q16, .int 0, .int 0, .int 0, .int 23, .int 0, .int 0, .int 0, .int 0, .int 0, .int 0, .int 0])) :: _) H := hP
  have hD : va_D A ((h0, .inr (2, [.ref q10, .ref q11, .ref q12, .ref q13, .int 0, .ref q14, .ref q15, .ref q16, .int 0, .int 0, .int 0, .int 23, .int 0, .int 0, .int 0, .int 0, .int 0, .int 0, .int 0])) :: _) := hD
  simp only [List.nil_append, List.cons_append, List.append_assoc] at hP hD
  have e0 : wA cA h0 [.ref q10, .ref q11, .ref q12, .ref q13, .int 0, .ref q14, .ref q15, .ref q16, .int 0, .int 0, .int 0, .int 23, .int 0, .int 0, .int 0, .int 0, .int 0, .int 0, .int 0] q10 [(q11, .inl (cA 11, 24, .inr (.inr (.inr (.inr (fun _ => none)))))), (q12, .inl (cA 12, 1224, .inr (.inr (.inr (.inr (fun _ => none)))))), (q13, .inl (cA 13, (1224, .inl (fun _ => 0)))), (q14, .inl (cA 14, (24, .inl (fun _ => 0)))), (q15, .inl (cA 15, (40, .inl (fun _ => 0)))), (q16, .inl (cA 16, (40, .inl (fun _ => 0))))] (fun _ _ => 0) 0 = [(h0, .inr (2, [.ref q10, .ref q11, .ref q12, .ref q13, .int 0, .ref q14, .ref q15, .ref q16, .int 0, .int 0, .int 0, .int 23, .int 0, .int 0, .int 0, .int 0, .int 0, .int 0, .int 0])), (q10, .inl (cA 10, 16, .inr (.inr (.inr (.inr (fun _ => none)))))), (q11, .inl (cA 11, 24, .inr (.inr (.inr (.inr (fun _ => none)))))), (q12, .inl (cA 12, 1224, .inr (.inr (.inr (.inr (fun _ => none)))))), (q13, .inl (cA 13, (1224, .inl (fun _ => 0)))), (q14, .inl (cA 14, (24, .inl (fun _ => 0)))), (q15, .inl (cA 15, (40, .inl (fun _ => 0)))), (q16, .inl (cA 16, (40, .inl (fun _ => 0))))] := rfl
  have hP : va_P D vwCl (wA cA h0 [.ref q10, .ref q11, .ref q12, .ref q13, .int 0, .ref q14, .ref q15, .ref q16, .int 0, .int 0, .int 0, .int 23, .int 0, .int 0, .int 0, .int 0, .int 0, .int 0, .int 0] q10 [(q11, .inl (cA 11, 24, .inr (.inr (.inr (.inr (fun _ => none)))))), (q12, .inl (cA 12, 1224, .inr (.inr (.inr (.inr (fun _ => none)))))), (q13, .inl (cA 13, (1224, .inl (fun _ => 0)))), (q14, .inl (cA 14, (24, .inl (fun _ => 0)))), (q15, .inl (cA 15, (40, .inl (fun _ => 0)))), (q16, .inl (cA 16, (40, .inl (fun _ => 0))))] (fun _ _ => 0) 0) H := by rw [e0]; exact hP
  have hD : va_D A (wA cA h0 [.ref q10, .ref q11, .ref q12, .ref q13, .int 0, .ref q14, .ref q15, .ref q16, .int 0, .int 0, .int 0, .int 23, .int 0, .int 0, .int 0, .int 0, .int 0, .int 0, .int 0] q10 [(q11, .inl (cA 11, 24, .inr (.inr (.inr (.inr (fun _ => none)))))), (q12, .inl (cA 12, 1224, .inr (.inr (.inr (.inr (fun _ => none)))))), (q13, .inl (cA 13, (1224, .inl (fun _ => 0)))), (q14, .inl (cA 14, (24, .inl (fun _ => 0)))), (q15, .inl (cA 15, (40, .inl (fun _ => 0)))), (q16, .inl (cA 16, (40, .inl (fun _ => 0))))] (fun _ _ => 0) 0) := by rw [e0]; exact hD
  refine lv_iconst (v := nI 0) hx hb dX2_init_71 rfl ?_
  refine lv_istore_n (lv' := [(1, .int (nI 0)), (0, .ref h0)]) hx hb dX2_init_72 rfl hl (by decide) rfl (fun ls hl => ?_)
  refine W.widen (k := 7 + 4 * 0) (n := 2592 + 184 * 0) (Nat.le_of_ble_eq_true rfl) (Nat.le_of_ble_eq_true rfl) ?_
  refine ilp1 hx hb hml hown hts hN hK hA rfl rfl (Nat.le_refl _) (Nat.le_refl _) rfl (fun a H locs ls hP hD hS hl => ?_) 16 0 _ _ _ ls rfl hP hD hS hl
  have e1 : wB cA h0 [.ref q10, .ref q11, .ref q12, .ref q13, .int 0, .ref q14, .ref q15, .ref q16, .int 0, .int 0, .int 0, .int 23, .int 0, .int 0, .int 0, .int 0, .int 0, .int 0, .int 0] (q10, .inl (cA 10, 16, .inr (.inr (.inr (.inr (fun j => if j < 16 then some (a 5 j) else none)))))) q11 ([(q12, .inl (cA 12, 1224, .inr (.inr (.inr (.inr (fun _ => none)))))), (q13, .inl (cA 13, (1224, .inl (fun _ => 0)))), (q14, .inl (cA 14, (24, .inl (fun _ => 0)))), (q15, .inl (cA 15, (40, .inl (fun _ => 0)))), (q16, .inl (cA 16, (40, .inl (fun _ => 0))))] ++ (List.range 16).flatMap (pgW cA a)) (fun _ _ => 0) 0 = wA cA h0 [.ref q10, .ref q11, .ref q12, .ref q13, .int 0, .ref q14, .ref q15, .ref q16, .int 0, .int 0, .int 0, .int 23, .int 0, .int 0, .int 0, .int 0, .int 0, .int 0, .int 0] q10 [(q11, .inl (cA 11, 24, .inr (.inr (.inr (.inr (fun _ => none)))))), (q12, .inl (cA 12, 1224, .inr (.inr (.inr (.inr (fun _ => none)))))), (q13, .inl (cA 13, (1224, .inl (fun _ => 0)))), (q14, .inl (cA 14, (24, .inl (fun _ => 0)))), (q15, .inl (cA 15, (40, .inl (fun _ => 0)))), (q16, .inl (cA 16, (40, .inl (fun _ => 0))))] a 16 := by
    unfold wB wA
    rw [show List.flatMap (pcW cA (fun _ _ => 0)) (List.range 0) = [] from rfl, List.append_nil]
    rfl
  rw [← e1] at hP hD
  refine lv_iconst (v := nI 0) hx hb dX2_init_98 rfl ?_
  refine lv_istore_n (lv' := [(1, .int (nI 0)), (0, .ref h0)]) hx hb dX2_init_99 rfl hl (by decide) rfl (fun ls hl => ?_)
  refine W.widen (k := 71 + 5 * 0) (n := 5536 + 56 * 0) (Nat.le_of_ble_eq_true rfl) (Nat.le_of_ble_eq_true rfl) ?_
  refine ilp2 hx hb hml hown hts hN hK hA rfl rfl (Nat.le_refl _) (Nat.le_refl _) rfl (fun b H locs ls hP hD hS => ?_) 24 0 _ _ _ ls rfl hP hD hS hl
  have hP := kt_setP (k := 1) (y := (q10, .inl (cA 10, 16, .inr (.inr (.inr (.inr (fun j => some (a 5 j)))))))) hP rfl (fun h => h.trans (congrArg some (kt_cell (fun j hj => if_pos hj))))
  have hD := kt_setD (k := 1) (y := (q10, .inl (cA 10, 16, .inr (.inr (.inr (.inr (fun j => some (a 5 j)))))))) hD rfl rfl
  have hP := kt_setP (k := 2) (y := (q11, .inl (cA 11, 24, .inr (.inr (.inr (.inr (fun j => some (b 0 j)))))))) hP rfl (fun h => h.trans (congrArg some (kt_cell (fun j hj => if_pos hj))))
  have hD := kt_setD (k := 2) (y := (q11, .inl (cA 11, 24, .inr (.inr (.inr (.inr (fun j => some (b 0 j)))))))) hD rfl rfl
  have e2 := wd_all cA h0 q10 q11 q12 q13 q14 q15 q16 a b
  unfold wB at hP hD
  simp only [List.set_cons_succ, List.set_cons_zero, List.nil_append, List.cons_append, List.append_assoc] at hP hD e2
  have hP : va_P D vwCl (xcsB.map (fun q : Nat × Nat => ((adC h0 q10 q11 q12 q13 q14 q15 q16 a b) q.1 q.2, xcell (adC h0 q10 q11 q12 q13 q14 q15 q16 a b) cA C0 q.1 q.2))) H := by
    rw [e2]; exact hP
  have hD : va_D A (xcsB.map (fun q : Nat × Nat => ((adC h0 q10 q11 q12 q13 q14 q15 q16 a b) q.1 q.2, xcell (adC h0 q10 q11 q12 q13 q14 q15 q16 a b) cA C0 q.1 q.2))) := by
    rw [e2]; exact hD
  obtain ⟨hP9, hD9⟩ := kt_perm (l2 := xcs 0) xcsB_all xcs0_nd hP hD
  exact W.vret hx hb hr (fun t ht hW => ⟨⟨(adC h0 q10 q11 q12 q13 q14 q15 q16 a b), rfl, rfl, by rw [ht]; exact hP9, hD9⟩, hS.F ht⟩) hS.2.2 dX2_init_125
