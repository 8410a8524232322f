theorem kt_ra {U : State} {a b : ClassId} {ty : FieldType} (h1 : va_RA U a ty) (h2 : va_RA U b ty) : a = b := by
  cases ty with
  | object C =>
    obtain ⟨k1, c1, -, -, -, h1⟩ := h1
    obtain ⟨k2, c2, -, -, -, h2⟩ := h2
    exact Option.some.inj (h1.symm.trans h2)
  | _ =>
    have h1' : U.vm.findClass _ = some a := h1
    have h2' : U.vm.findClass _ = some b := h2
    exact Option.some.inj (h1'.symm.trans h2')
theorem kt_in {α : Type} {w1 w2 : List α} {k : Nat} {q : α} (h : w1[k]? = some q) : (w1 ++ w2)[k]? = some q := by
  rw [List.getElem?_append_left (List.getElem?_eq_some_iff.mp h).1]; exact h
theorem kt_ir {α : Type} {w1 w2 : List α} {k : Nat} {q : α} (h : w2[k]? = some q) : (w1 ++ w2)[w1.length + k]? = some q := by
  rw [List.getElem?_append_right (by omega), Nat.add_sub_cancel_left]; exact h
theorem kt_join {A0 : Nat → Prop} {D : va_G} {cl : List vw_C} {wr wc w1 : va_W} {H H1 : Heap} (hP : va_P D cl (wr ++ wc) H) (hD : va_D A0 (wr ++ wc)) (hk : ∀ q : Nat, q < H.size → ¬ va_A wc H.size q → H1[q]? = H[q]?) (hF : ∀ q, va_A wc H.size q → A0 q) (hP1 : va_P D cl w1 H1) (hD1 : va_D (va_A wc H.size) w1) : va_P D cl (wr ++ w1) H1 ∧ va_D A0 (wr ++ w1) := by
  have apart : ∀ (k : Nat) (q : Nat × va_E), wr[k]? = some q → q.1 < H.size ∧ ¬ va_A wc H.size q.1 := by
    intro k q hq
    have hl := (hP k q (kt_in hq)).lt
    have hk' : k < wr.length := (List.getElem?_eq_some_iff.mp hq).1
    refine ⟨hl, fun h => ?_⟩
    rcases h with ⟨k2, e, h⟩ | h
    · have := hD.1 k _ q (q.1, e) (kt_in hq) (kt_ir h) rfl
      omega
    · omega
  refine ⟨va_P.app (fun k q hq => ?_) hP1, va_D.app ⟨fun i j x y hx hy hxy => ?_, fun k q hq => ?_⟩ (hD1.weaken (fun k q _ h => hF q.1 h)) (fun i j x y hx hy hxy => ?_)⟩
  · obtain ⟨g1, g2⟩ := apart k q hq
    exact (hP k q (kt_in hq)).kept (hk q.1 g1 g2)
  · exact hD.1 i j x y (kt_in hx) (kt_in hy) hxy
  · exact hD.2 k q (kt_in hq)
  · exact (apart i x hx).2 (by rw [hxy]; exact hD1.2 j y hy)
theorem kt_parts {A : Nat → Prop} {D : va_G} {cl : List vw_C} {w1 w2 : va_W} {H : Heap} (hP : va_P D cl (w1 ++ w2) H) (hD : va_D A (w1 ++ w2)) : (va_P D cl w1 H ∧ va_D A w1) ∧ (va_P D cl w2 H ∧ va_D A w2) ∧ ∀ (i j : Nat) (p q : Nat × va_E), w1[i]? = some p → w2[j]? = some q → p.1 ≠ q.1 := by
  refine ⟨⟨fun k q h => hP k q (kt_in h), fun i j x y hx hy h => hD.1 i j x y (kt_in hx) (kt_in hy) h, fun k q h => hD.2 k q (kt_in h)⟩, ⟨fun k q h => hP _ q (kt_ir h), fun i j x y hx hy h => ?_, fun k q h => hD.2 _ q (kt_ir h)⟩, fun i j x y hx hy h => ?_⟩
  · have := hD.1 _ _ x y (kt_ir hx) (kt_ir hy) h
    omega
  · have := hD.1 _ _ x y (kt_in hx) (kt_ir hy) h
    have h2 : i < w1.length := (List.getElem?_eq_some_iff.mp hx).1
    omega
theorem kt_swap {A : Nat → Prop} {D : va_G} {cl : List vw_C} {w1 w2 : va_W} {H : Heap} (hP : va_P D cl (w1 ++ w2) H) (hD : va_D A (w1 ++ w2)) : va_P D cl (w2 ++ w1) H ∧ va_D A (w2 ++ w1) := by
  obtain ⟨⟨p1, d1⟩, ⟨p2, d2⟩, h⟩ := kt_parts hP hD
  exact ⟨va_P.app p2 p1, va_D.app d2 d1 (fun i j x y hx hy e => h j i y x hy hx e.symm)⟩
theorem kt_perm {α : Type} {A : Nat → Prop} {D : va_G} {cl : List vw_C} {l1 l2 : List α} {f : α → Nat × va_E} {H : Heap} (hm : ∀ x ∈ l2, x ∈ l1) (hn : l2.Nodup) (hP : va_P D cl (l1.map f) H) (hD : va_D A (l1.map f)) : va_P D cl (l2.map f) H ∧ va_D A (l2.map f) := by
  have key : ∀ (k : Nat) (q : Nat × va_E), (l2.map f)[k]? = some q → ∃ (x : α) (i : Nat), l2[k]? = some x ∧ l1[i]? = some x ∧ f x = q ∧ (l1.map f)[i]? = some q := by
    intro k q h
    rw [List.getElem?_map] at h
    cases hx : l2[k]? with
    | none => rw [hx] at h; cases h
    | some x =>
      rw [hx] at h
      have h : f x = q := Option.some.inj h
      obtain ⟨i, hi⟩ := List.getElem?_of_mem (hm x (List.mem_of_getElem? hx))
      exact ⟨x, i, rfl, hi, h, by rw [List.getElem?_map, hi]; exact congrArg some h⟩
  refine ⟨fun k q h => ?_, fun i j p q hp hq h => ?_, fun k q h => ?_⟩
  · obtain ⟨x, i, -, -, -, h4⟩ := key k q h
    exact hP i q h4
  · obtain ⟨x, a, x1, x2, x3, x4⟩ := key i p hp
    obtain ⟨y, b, y1, y2, y3, y4⟩ := key j q hq
    have hab := hD.1 a b p q x4 y4 h
    subst hab
    have hxy : x = y := Option.some.inj (x2.symm.trans y2)
    subst hxy
    obtain ⟨hi, ei⟩ := List.getElem?_eq_some_iff.mp x1
    obtain ⟨hj, ej⟩ := List.getElem?_eq_some_iff.mp y1
    exact (List.getElem_inj hn).mp (ei.trans ej.symm)
  · obtain ⟨x, i, -, -, -, h4⟩ := key k q h
    exact hD.2 i q h4
section KT
variable {p : Program} {l : Launch} {e : Env} {R : Room} {s : State} {m : MethodId} {args : Array Value} {below : List Frame} {meth : Method} {c : Code} {H H0 : Heap} {locs : List Loc} {cells slots : Nat} {Q : State → Prop} {D : va_G} {cA : Nat → ClassId} {A : Nat → Prop} {ls : Array Slot} {cc : ByteArray}
theorem kt_arr {C fn fd : String} {T : u_T} {ty : FieldType} {N k t pc index N' h0 : Nat} {ws : va_W} {fs : List Value} {n : Int32} {a0 : vp_A} {atype : ArrayType} {tyF : FieldType} (ci : Nat)
    (hx : p.tables.exec = Jvm.exec) (hb : c.code = cc) (hts : ∀ w ∈ xgW, w.before args s = true) (hc : vwCl[ci]? = some (C, T, N)) (hown : s.vm.findClass C = some m.cls) (hin2 : meth.name = "<init>") (hK : va_K D vwCl (xty cA) s) (hA : ∀ q, H0.size ≤ q → A q)
    (hP : va_P D vwCl ((h0, .inr (ci, fs)) :: ws) H) (hD : va_D A ((h0, .inr (ci, fs)) :: ws)) (hS : va_S A H0 H locs)
    (hob : xob t = none) (hcn : 0 < xcn t) (hat : xat t = ty) (harr : Cond.arrayClass ty ∈ xgW) (hty : newarray.typeOf atype = ty)
    (ha : ∀ cA : ClassId, vp_cell cA a0 = arrV cA N' (fun _ => defaultValue ty)) (hn : ¬ n < 0) (hN : n.toNatClampNeg = N') (hbytes : N' * componentBytes ty ≤ 536870912) (hcells : cells + 1 ≤ R.cells) (hslots : slots + N' ≤ R.slots)
    (hk : k < N) (hT : T k = (C, fn, fd, true)) (hlink : Cond.fieldLink C index C fn fd ∈ xgW) (hd : parseFieldDescriptor fd = some tyF) (hnr : ∀ q : Nat, narrow tyF (.ref q) = .ref q) (hft : ∀ q : Nat, fits tyF (.ref q) = true) (hl : k < fs.length)
    (hdg1 : decode cc pc = .ok (.newarray atype, 2)) (hdg2 : decode cc (pc + 2) = .ok (.putfield index, 3))
    (kk : ∀ (q : Nat) (H1 : Heap) (locs1 : List Loc), va_P D vwCl ((h0, .inr (ci, fs.set k (.ref q))) :: (ws ++ [(q, .inl (cA t, a0))])) H1 → va_D A ((h0, .inr (ci, fs.set k (.ref q))) :: (ws ++ [(q, .inl (cA t, a0))])) → va_S A H0 H1 locs1 → W p l e R s m args below meth c H1 locs1 (cells + 1) (slots + N') Q (F0 m (pc + 2 + 3) ls [])) :
    W p l e R s m args below meth c H locs cells slots Q (F0 m pc ls [.int n, .ref h0]) := by
  obtain ⟨hin, ⟨ty0, hty0⟩, hnm⟩ := xcls hc
  obtain ⟨t0, ht0⟩ := xty_at (cA := cA) hob hcn
  refine va_newa hx hb (by rw [hty]; exact hts _ harr) hty hK hP hD hS hA ha hn hN hbytes hcells hslots hdg1 (fun q cA1 H1 hK1 hP1 hD1 hS1 => ?_)
  have e1 : cA1 = cA t := kt_ra (hK1.2 (xty cA).length (cA1, ty) (by simp)).2 (by have := (hK.2 t0 _ ht0).2; rw [hat] at this; exact this)
  subst e1
  exact va_putF (C := C) (T := T) (N := N) hx hb hts hin ty0 hty0 hnm hown hK hP1 hD1 hS1 0 rfl hc k hk (ref := C) (by rw [hT]; exact hts _ hlink) (fun x h => by rw [hT] at h ⊢; exact h) (by rw [hT]) hin2 (by rw [hT]) (by rw [hT]; exact hd) (hnr q) (hft q) hl hdg2 (fun H2 locs2 hP2 hD2 hS2 => kk q H2 locs2 hP2 hD2 hS2)
theorem kt_arrq {C fn fd C2 : String} {T : u_T} {N k t pc index ix2 N' h0 : Nat} {ws : va_W} {fs : List Value} {n : Int32} {tyF : FieldType} (ci : Nat)
    (hx : p.tables.exec = Jvm.exec) (hb : c.code = cc) (hts : ∀ w ∈ xgW, w.before args s = true) (hc : vwCl[ci]? = some (C, T, N)) (hown : s.vm.findClass C = some m.cls) (hin2 : meth.name = "<init>") (hK : va_K D vwCl (xty cA) s) (hA : ∀ q, H0.size ≤ q → A q)
    (hP : va_P D vwCl ((h0, .inr (ci, fs)) :: ws) H) (hD : va_D A ((h0, .inr (ci, fs)) :: ws)) (hS : va_S A H0 H locs)
    (hob : xob t = none) (hcn : 0 < xcn t) (hover : va_AO C2 s) (hcl : Cond.classLink C ix2 C2 ∈ xgW) (hty : xat t = .object C2)
    (hn : ¬ n < 0) (hN : n.toNatClampNeg = N') (hbytes : N' * 4 ≤ 536870912) (hcells : cells + 1 ≤ R.cells) (hslots : slots + N' ≤ R.slots)
    (hk : k < N) (hT : T k = (C, fn, fd, true)) (hlink : Cond.fieldLink C index C fn fd ∈ xgW) (hd : parseFieldDescriptor fd = some tyF) (hnr : ∀ q : Nat, narrow tyF (.ref q) = .ref q) (hft : ∀ q : Nat, fits tyF (.ref q) = true) (hl : k < fs.length)
    (hdg1 : decode cc pc = .ok (.anewarray ix2, 3)) (hdg2 : decode cc (pc + 3) = .ok (.putfield index, 3))
    (kk : ∀ (q : Nat) (H1 : Heap) (locs1 : List Loc), va_P D vwCl ((h0, .inr (ci, fs.set k (.ref q))) :: (ws ++ [(q, .inl (cA t, N', .inr (.inr (.inr (.inr (fun _ => none))))))])) H1 → va_D A ((h0, .inr (ci, fs.set k (.ref q))) :: (ws ++ [(q, .inl (cA t, N', .inr (.inr (.inr (.inr (fun _ => none))))))])) → va_S A H0 H1 locs1 → W p l e R s m args below meth c H1 locs1 (cells + 1) (slots + N') Q (F0 m (pc + 3 + 3) ls [])) :
    W p l e R s m args below meth c H locs cells slots Q (F0 m pc ls [.int n, .ref h0]) := by
  obtain ⟨hin, ⟨ty0, hty0⟩, hnm⟩ := xcls hc
  obtain ⟨t0, ht0⟩ := xty_at (cA := cA) hob hcn
  refine va_newq hx hb hown (hts _ hcl) hover hK hP hD hS hA hn hN hbytes hcells hslots hdg1 (fun q cA1 H1 hK1 hP1 hD1 hS1 => ?_)
  have e1 : cA1 = cA t := by
    have h1 := (hK1.2 (xty cA).length (cA1, .object C2) (by simp)).2
    have h2 := (hK.2 t0 _ ht0).2
    rw [hty] at h2
    exact kt_ra h1 h2
  subst e1
  exact va_putF (C := C) (T := T) (N := N) hx hb hts hin ty0 hty0 hnm hown hK hP1 hD1 hS1 0 rfl hc k hk (ref := C) (by rw [hT]; exact hts _ hlink) (fun x h => by rw [hT] at h ⊢; exact h) (by rw [hT]) hin2 (by rw [hT]) (by rw [hT]; exact hd) (hnr q) (hft q) hl hdg2 (fun H2 locs2 hP2 hD2 hS2 => kk q H2 locs2 hP2 hD2 hS2)
end KT
