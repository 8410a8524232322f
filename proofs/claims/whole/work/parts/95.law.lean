def R_law : String := "ProcessTableLaw"
def lw_P (b : Addr) (xs : List Int32) (args : Array Value) (s : State) : Prop := args = #[.ref b] ∧ s.IntsAt b xs ∧ xs.length ≤ 2560 ∧ (Jvm.Cond.and given_1 narrow_1).before args s = true
def lw_Q (_ : Array Value) (s : State) (o : Outcome) (t : State) : Prop := o = .returned (some (.int 1)) ∧ Framed s o t [] 600000 7302250
def lw_Z (below : List Frame) (a : Array Value) (s : State) : State → Prop := fun t => ∃ o, t.status = .running ∧ Ended t below o ∧ lw_Q a s o t
theorem lw_ret {p : Program} {l : Launch} {e : Env} {s : State} {m : MethodId} {below : List Frame} {meth : Method} {c : Code} {b : Nat} (hx : p.tables.exec = Jvm.exec) (hb : c.code = code) (hr : meth.sig.returnType = ret) (hlocks : meth.locks = false) {pc : Nat} {H : Heap} {ls : Array Slot} (hdg : decode code pc = .ok (.ireturn, 1)) : W p l e room_1 s m #[Value.ref b] below meth c H [] 600000 7302250 (lw_Z below #[Value.ref b] s) (F0 m pc ls [.int 1]) := by
  intro T hT X
  obtain ⟨fs, hret, hrun, hended, hW, hframe⟩ := X.leave (v := some (.int 1)) (hlocks := hlocks) (fun h => by rw [hr] at h; cases h)
  have hmeth' : T.vm.method? m = some meth := X.method'
  refine ⟨T.setFrames fs, ?_, .returned (some (.int 1)), hrun, hended, rfl, ⟨_, rfl⟩, hW, hframe⟩
  jvm_step X.here [X.here.top, hx, hb, hdg, hmeth', hr, ret, narrow_b1]
  (try refine ⟨rfl, ?_⟩); (try refine ⟨rfl, ?_⟩)
  first | (intro acts; rw [hret _ acts rfl rfl rfl]) | rw [hret _ _ rfl rfl rfl]
  exact Steps.refl _
def lw_At (p : Program) (s : State) (m : MethodId) (meth : Method) (c : Code) (b L : Nat) (xs : Nat → Int32) : Prop :=
  p.tables.exec = Jvm.exec ∧ c.code = code ∧ meth.sig.returnType = ret ∧ c.maxLocals = 4 ∧ s.vm.findClass R_law = some m.cls ∧ (∀ w ∈ lw_tbl, w.before #[Value.ref b] s = true) ∧ va_X b L xs s s.heap ∧ b < s.heap.size ∧ meth.locks = false ∧ (Jvm.Cond.and given_1 narrow_1).before #[Value.ref b] s = true

theorem lw_len {L n : Nat} (hL : L ≤ 2560) (hn : n ≤ 2565) : (Int32.ofNat L - 5 < nI n) ↔ L < n + 5 := by
  have e1 : (Int32.ofNat L - 5).toInt = (L : Int) - 5 := by
    rw [Int32.toInt_sub, show (Int32.ofNat L).toInt = (L : Int) from nI_toInt (by omega), show (5 : Int32).toInt = 5 from by decide, Int.bmod_eq_of_le (by omega) (by omega)]
  rw [Int32.lt_iff_toInt_lt, e1, nI_toInt (by omega)]
  omega
theorem lw_in {L n : Nat} (hL : L ≤ 2560) (h : ¬ L < n + 5) (j : Nat) (hj : j < 5) {x : Int32} (hx : x = nI (n + j)) : vp_in x L := by
  rw [hx]
  exact vp_in_nI (by omega) (by omega)
set_option maxHeartbeats 4000000 in
set_option maxRecDepth 100000 in
theorem law_loop {p : Program} {l : Launch} {e : Env} {s : State} {m : MethodId} {below : List Frame} {meth : Method} {c : Code} {b L : Nat} {xs : Nat → Int32} (hL : L ≤ 2560) (C0 : lw_At p s m meth c b L xs) {D : va_G} {ad : Nat → Nat → Nat} {cA : Nat → ClassId} (hK : va_K D vwCl (xty cA) s) (hN : ∀ w ∈ xnW, va_Nw w s) :
    ∀ (f n t : Nat) (C N : xM) (H : Heap) (locs : List Loc) (ls : Array Slot), L < n + 5 * f → n ≤ 2565 → t ≤ 40 * n → GI t C N → LW D ad cA (fun q : Nat => s.heap.size ≤ q) s.heap C N H locs → lv_has ls 4 [(3, .int (nI n)), (2, .ref (ad 20 0)), (1, .ref (ad 9 0)), (0, .ref b)] → W p l e room_1 s m #[Value.ref b] below meth c H locs 222 20188 (lw_Z below #[Value.ref b] s) (F0 m 18 ls []) := by
  obtain ⟨hx, hb, hr, hml, hown, hts0, hX, hbl, hlocks, hgv⟩ := id C0
  have hown : s.vm.findClass RL = some m.cls := hown
  have hts : ∀ w ∈ xgW, w.before #[Value.ref b] s = true := fun w hw => hts0 w (List.mem_filter.mp hw).1
  have hA : ∀ q : Nat, s.heap.size ≤ q → (fun q : Nat => s.heap.size ≤ q) q := fun _ h => h
  have hbA : ¬ (fun q : Nat => s.heap.size ≤ q) b := Nat.not_le.mpr hbl
  have hcs : 222 ≤ room_1.cells ∧ 20188 ≤ room_1.slots := ⟨Nat.le_of_ble_eq_true rfl, Nat.le_of_ble_eq_true rfl⟩
  have hrm : 8 ≤ room_1.frames ∧ 304 ≤ room_1.locals := ⟨Nat.le_of_ble_eq_true rfl, Nat.le_of_ble_eq_true rfl⟩
  intro f
  induction f with
  | zero =>
    intro n t C N H locs ls hf hn ht hG hW hl
    have hS := hW.2.2
    refine lv_iload_n hx hb dL_law_18 rfl (lv_at hl 0 rfl) ?_
    refine lv_aload_n hx hb dL_law_19 rfl (lv_at hl 3 rfl) ?_
    refine va_slen hx hb hX hbl hbA hS dL_law_20 ?_
    refine lv_iconst (v := 5) hx hb dL_law_21 (by decide) ?_
    refine lv_isub hx hb dL_law_22 ?_
    refine lv_icmp_gt (tgt := 495) hx hb dL_law_23 (by decide) (fun c1 => ?_) (fun c1 => ?_)
    · refine lv_iconst (v := 1) hx hb dL_law_495 (by decide) ?_
      refine va_forget hS.2.2 ?_
      refine W.widen (k := 600000) (n := 7302250) (by omega) (by omega) ?_
      exact lw_ret hx hb hr hlocks dL_law_496
    · exact absurd ((lw_len hL hn).mpr (by omega)) c1
  | succ f ih =>
    intro n t C N H locs ls hf hn ht hG hW hl
    have hS := hW.2.2
    refine lv_iload_n hx hb dL_law_18 rfl (lv_at hl 0 rfl) ?_
    refine lv_aload_n hx hb dL_law_19 rfl (lv_at hl 3 rfl) ?_
    refine va_slen hx hb hX hbl hbA hS dL_law_20 ?_
    refine lv_iconst (v := 5) hx hb dL_law_21 (by decide) ?_
    refine lv_isub hx hb dL_law_22 ?_
    refine lv_icmp_gt (tgt := 495) hx hb dL_law_23 (by decide) (fun c1 => ?_) (fun c1 => ?_)
    · refine lv_iconst (v := 1) hx hb dL_law_495 (by decide) ?_
      refine va_forget hS.2.2 ?_
      refine W.widen (k := 600000) (n := 7302250) (by omega) (by omega) ?_
      exact lw_ret hx hb hr hlocks dL_law_496
    have hnL : ¬ L < n + 5 := fun q => c1 ((lw_len hL hn).mpr q)
    have i0 : vp_in (nI n) L := lw_in hL hnL 0 (by omega) rfl
    have i1 : vp_in (nI n + 1) L := lw_in hL hnL 1 (by omega) (nI_add n 1)
    have i2 : vp_in (nI n + 2) L := lw_in hL hnL 2 (by omega) (nI_add n 2)
    have i3 : vp_in (nI n + 3) L := lw_in hL hnL 3 (by omega) (nI_add n 3)
    have i4 : vp_in (nI n + 4) L := lw_in hL hnL 4 (by omega) (nI_add n 4)
    have nx : ∀ (t' : Nat) (C' N' : xM) (H1 : Heap) (locs1 : List Loc), t' ≤ t + 200 → GI t' C' N' → LW D ad cA (fun q : Nat => s.heap.size ≤ q) s.heap C' N' H1 locs1 → W p l e room_1 s m #[Value.ref b] below meth c H1 locs1 222 20188 (lw_Z below #[Value.ref b] s) (F0 m 489 ls []) := by
      intro t' C' N' H1 locs1 ht' hG' hW'
      refine lv_iinc (v := nI (n + 5)) (lv' := [(3, .int (nI (n + 5))), (2, .ref (ad 20 0)), (1, .ref (ad 9 0)), (0, .ref b)]) hx hb dL_law_489 hl (k := 0) rfl (nI_add n 5) (by decide) rfl (fun ls hl => ?_)
      refine lv_goto (tgt := 18) hx hb dL_law_492 (by decide) ?_
      exact ih (n + 5) t' C' N' H1 locs1 ls (by omega) (by omega) (by omega) hG' hW' hl
    refine lv_aload_n hx hb dL_law_26 rfl (lv_at hl 3 rfl) ?_
    refine lv_iload_n hx hb dL_law_27 rfl (lv_at hl 0 rfl) ?_
    refine va_sld hx hb hX hbl hbA hS i0 dL_law_28 ?_
    refine lv_bipush (v := 15) hx hb dL_law_29 (by decide) ?_
    refine lv_iand hx hb dL_law_31 ?_
    refine lv_topi (fun x ex => ?_)
    clear ex
    rcases x_sw x (0) 13 with hw | ⟨k_, hk_, hw⟩
    · refine lv_tableOut (tgt := 489) hx hb dL_law_32 (by omega) (by decide) ?_
      exact nx t C N H locs (by omega) hG hW
    rcases (show k_ = 0 ∨ k_ = 1 ∨ k_ = 2 ∨ k_ = 3 ∨ k_ = 4 ∨ k_ = 5 ∨ k_ = 6 ∨ k_ = 7 ∨ k_ = 8 ∨ k_ = 9 ∨ k_ = 10 ∨ k_ = 11 ∨ k_ = 12 by omega) with rfl | rfl | rfl | rfl | rfl | rfl | rfl | rfl | rfl | rfl | rfl | rfl | rfl
    · refine lv_tableIn (tgt := 100) hx hb dL_law_32 (by omega) (by omega) (by rw [hw]; rfl) (by decide) ?_
      obtain ⟨v, F, t2, ht2, r1, r2⟩ := same_act (xs (nI n + 1).toNatClampNeg) (xs (nI n + 2).toNatClampNeg) (xs (nI n + 3).toNatClampNeg) (xs (nI n + 4).toNatClampNeg) hG
      refine lv_aload_n hx hb dL_law_100 rfl (lv_at hl 2 rfl) ?_
      refine lv_aload_n hx hb dL_law_101 rfl (lv_at hl 3 rfl) ?_
      refine lv_iload_n hx hb dL_law_102 rfl (lv_at hl 0 rfl) ?_
      refine lv_iconst (v := 1) hx hb dL_law_103 (by decide) ?_
      refine lv_iadd hx hb dL_law_104 ?_
      refine va_sld hx hb hX hbl hbA hS i1 dL_law_105 ?_
      refine lv_aload_n hx hb dL_law_106 rfl (lv_at hl 3 rfl) ?_
      refine lv_iload_n hx hb dL_law_107 rfl (lv_at hl 0 rfl) ?_
      refine lv_iconst (v := 2) hx hb dL_law_108 (by decide) ?_
      refine lv_iadd hx hb dL_law_109 ?_
      refine va_sld hx hb hX hbl hbA hS i2 dL_law_110 ?_
      refine lv_aload_n hx hb dL_law_111 rfl (lv_at hl 3 rfl) ?_
      refine lv_iload_n hx hb dL_law_112 rfl (lv_at hl 0 rfl) ?_
      refine lv_iconst (v := 3) hx hb dL_law_113 (by decide) ?_
      refine lv_iadd hx hb dL_law_114 ?_
      refine va_sld hx hb hX hbl hbA hS i3 dL_law_115 ?_
      refine lv_aload_n hx hb dL_law_116 rfl (lv_at hl 3 rfl) ?_
      refine lv_iload_n hx hb dL_law_117 rfl (lv_at hl 0 rfl) ?_
      refine lv_iconst (v := 4) hx hb dL_law_118 (by decide) ?_
      refine lv_iadd hx hb dL_law_119 ?_
      refine va_sld hx hb hX hbl hbA hS i4 dL_law_120 ?_
      refine lc_C (k := 9) (ix := 13) (ints := [(xs (nI n + 1).toNatClampNeg), (xs (nI n + 2).toNatClampNeg), (xs (nI n + 3).toNatClampNeg), (xs (nI n + 4).toNatClampNeg)]) (rest := []) hx hb hml hown hts hN hK hA hW r2 (Nat.le_of_ble_eq_true rfl) rfl rfl k_l13 rfl (Nat.le_of_ble_eq_true rfl) hrm hcs hl.1 (Nat.le_of_ble_eq_true rfl) dL_law_121 (fun C2 H locs hG2 hW => ?_)
      have hS := hW.2.2
      refine lv_aload_n hx hb dL_law_124 rfl (lv_at hl 1 rfl) ?_
      refine lv_aload_n hx hb dL_law_125 rfl (lv_at hl 3 rfl) ?_
      refine lv_iload_n hx hb dL_law_126 rfl (lv_at hl 0 rfl) ?_
      refine lv_iconst (v := 1) hx hb dL_law_127 (by decide) ?_
      refine lv_iadd hx hb dL_law_128 ?_
      refine va_sld hx hb hX hbl hbA hS i1 dL_law_129 ?_
      refine lv_aload_n hx hb dL_law_130 rfl (lv_at hl 3 rfl) ?_
      refine lv_iload_n hx hb dL_law_131 rfl (lv_at hl 0 rfl) ?_
      refine lv_iconst (v := 2) hx hb dL_law_132 (by decide) ?_
      refine lv_iadd hx hb dL_law_133 ?_
      refine va_sld hx hb hX hbl hbA hS i2 dL_law_134 ?_
      refine lv_aload_n hx hb dL_law_135 rfl (lv_at hl 3 rfl) ?_
      refine lv_iload_n hx hb dL_law_136 rfl (lv_at hl 0 rfl) ?_
      refine lv_iconst (v := 3) hx hb dL_law_137 (by decide) ?_
      refine lv_iadd hx hb dL_law_138 ?_
      refine va_sld hx hb hX hbl hbA hS i3 dL_law_139 ?_
      refine lv_aload_n hx hb dL_law_140 rfl (lv_at hl 3 rfl) ?_
      refine lv_iload_n hx hb dL_law_141 rfl (lv_at hl 0 rfl) ?_
      refine lv_iconst (v := 4) hx hb dL_law_142 (by decide) ?_
      refine lv_iadd hx hb dL_law_143 ?_
      refine va_sld hx hb hX hbl hbA hS i4 dL_law_144 ?_
      refine lc_R (k := 70) (ix := 17) (ints := [(xs (nI n + 1).toNatClampNeg), (xs (nI n + 2).toNatClampNeg), (xs (nI n + 3).toNatClampNeg), (xs (nI n + 4).toNatClampNeg)]) (rest := [.int v]) hx hb hml hown hts hN hK hA hW r1 (Nat.le_of_ble_eq_true rfl) rfl rfl k_l17 rfl (Nat.le_of_ble_eq_true rfl) hrm hcs hl.1 (Nat.le_of_ble_eq_true rfl) dL_law_145 (fun H locs hW => ?_)
      refine lv_icmp_eq (tgt := 489) hx hb dL_law_148 (by decide) (fun c2 => ?_) (fun c2 => ?_)
      · exact nx t2 C2 F H locs ht2 hG2 hW
      · exact absurd rfl c2
    · refine lv_tableIn (tgt := 153) hx hb dL_law_32 (by omega) (by omega) (by rw [hw]; rfl) (by decide) ?_
      obtain ⟨v, F, t2, ht2, r1, r2⟩ := same_wipe (xs (nI n + 1).toNatClampNeg) hG
      refine lv_aload_n hx hb dL_law_153 rfl (lv_at hl 2 rfl) ?_
      refine lv_aload_n hx hb dL_law_154 rfl (lv_at hl 3 rfl) ?_
      refine lv_iload_n hx hb dL_law_155 rfl (lv_at hl 0 rfl) ?_
      refine lv_iconst (v := 1) hx hb dL_law_156 (by decide) ?_
      refine lv_iadd hx hb dL_law_157 ?_
      refine va_sld hx hb hX hbl hbA hS i1 dL_law_158 ?_
      refine lc_C (k := 10) (ix := 18) (ints := [(xs (nI n + 1).toNatClampNeg)]) (rest := []) hx hb hml hown hts hN hK hA hW r2 (Nat.le_of_ble_eq_true rfl) rfl rfl k_l18 rfl (Nat.le_of_ble_eq_true rfl) hrm hcs hl.1 (Nat.le_of_ble_eq_true rfl) dL_law_159 (fun C2 H locs hG2 hW => ?_)
      have hS := hW.2.2
      refine lv_aload_n hx hb dL_law_162 rfl (lv_at hl 1 rfl) ?_
      refine lv_aload_n hx hb dL_law_163 rfl (lv_at hl 3 rfl) ?_
      refine lv_iload_n hx hb dL_law_164 rfl (lv_at hl 0 rfl) ?_
      refine lv_iconst (v := 1) hx hb dL_law_165 (by decide) ?_
      refine lv_iadd hx hb dL_law_166 ?_
      refine va_sld hx hb hX hbl hbA hS i1 dL_law_167 ?_
      refine lc_R (k := 71) (ix := 22) (ints := [(xs (nI n + 1).toNatClampNeg)]) (rest := [.int v]) hx hb hml hown hts hN hK hA hW r1 (Nat.le_of_ble_eq_true rfl) rfl rfl k_l22 rfl (Nat.le_of_ble_eq_true rfl) hrm hcs hl.1 (Nat.le_of_ble_eq_true rfl) dL_law_168 (fun H locs hW => ?_)
      refine lv_icmp_eq (tgt := 489) hx hb dL_law_171 (by decide) (fun c2 => ?_) (fun c2 => ?_)
      · exact nx t2 C2 F H locs ht2 hG2 hW
      · exact absurd rfl c2
    · refine lv_tableIn (tgt := 176) hx hb dL_law_32 (by omega) (by omega) (by rw [hw]; rfl) (by decide) ?_
      obtain ⟨v, F, t2, ht2, r1, r2⟩ := same_boot (xs (nI n + 1).toNatClampNeg) hG
      refine lv_aload_n hx hb dL_law_176 rfl (lv_at hl 2 rfl) ?_
      refine lv_aload_n hx hb dL_law_177 rfl (lv_at hl 3 rfl) ?_
      refine lv_iload_n hx hb dL_law_178 rfl (lv_at hl 0 rfl) ?_
      refine lv_iconst (v := 1) hx hb dL_law_179 (by decide) ?_
      refine lv_iadd hx hb dL_law_180 ?_
      refine va_sld hx hb hX hbl hbA hS i1 dL_law_181 ?_
      refine lc_C (k := 12) (ix := 23) (ints := [(xs (nI n + 1).toNatClampNeg)]) (rest := []) hx hb hml hown hts hN hK hA hW r2 (Nat.le_of_ble_eq_true rfl) rfl rfl k_l23 rfl (Nat.le_of_ble_eq_true rfl) hrm hcs hl.1 (Nat.le_of_ble_eq_true rfl) dL_law_182 (fun C2 H locs hG2 hW => ?_)
      have hS := hW.2.2
      refine lv_aload_n hx hb dL_law_185 rfl (lv_at hl 1 rfl) ?_
      refine lv_aload_n hx hb dL_law_186 rfl (lv_at hl 3 rfl) ?_
      refine lv_iload_n hx hb dL_law_187 rfl (lv_at hl 0 rfl) ?_
      refine lv_iconst (v := 1) hx hb dL_law_188 (by decide) ?_
      refine lv_iadd hx hb dL_law_189 ?_
      refine va_sld hx hb hX hbl hbA hS i1 dL_law_190 ?_
      refine lc_R (k := 76) (ix := 26) (ints := [(xs (nI n + 1).toNatClampNeg)]) (rest := [.int v]) hx hb hml hown hts hN hK hA hW r1 (Nat.le_of_ble_eq_true rfl) rfl rfl k_l26 rfl (Nat.le_of_ble_eq_true rfl) hrm hcs hl.1 (Nat.le_of_ble_eq_true rfl) dL_law_191 (fun H locs hW => ?_)
      refine lv_icmp_eq (tgt := 489) hx hb dL_law_194 (by decide) (fun c2 => ?_) (fun c2 => ?_)
      · exact nx t2 C2 F H locs ht2 hG2 hW
      · exact absurd rfl c2
    · refine lv_tableIn (tgt := 199) hx hb dL_law_32 (by omega) (by omega) (by rw [hw]; rfl) (by decide) ?_
      obtain ⟨v, F, t2, ht2, r1, r2⟩ := same_tick (xs (nI n + 1).toNatClampNeg) hG (by omega)
      refine lv_aload_n hx hb dL_law_199 rfl (lv_at hl 2 rfl) ?_
      refine lv_aload_n hx hb dL_law_200 rfl (lv_at hl 3 rfl) ?_
      refine lv_iload_n hx hb dL_law_201 rfl (lv_at hl 0 rfl) ?_
      refine lv_iconst (v := 1) hx hb dL_law_202 (by decide) ?_
      refine lv_iadd hx hb dL_law_203 ?_
      refine va_sld hx hb hX hbl hbA hS i1 dL_law_204 ?_
      refine lc_C (k := 13) (ix := 27) (ints := [(xs (nI n + 1).toNatClampNeg)]) (rest := []) hx hb hml hown hts hN hK hA hW r2 (Nat.le_of_ble_eq_true rfl) rfl rfl k_l27 rfl (Nat.le_of_ble_eq_true rfl) hrm hcs hl.1 (Nat.le_of_ble_eq_true rfl) dL_law_205 (fun C2 H locs hG2 hW => ?_)
      have hS := hW.2.2
      refine lv_aload_n hx hb dL_law_208 rfl (lv_at hl 1 rfl) ?_
      refine lv_aload_n hx hb dL_law_209 rfl (lv_at hl 3 rfl) ?_
      refine lv_iload_n hx hb dL_law_210 rfl (lv_at hl 0 rfl) ?_
      refine lv_iconst (v := 1) hx hb dL_law_211 (by decide) ?_
      refine lv_iadd hx hb dL_law_212 ?_
      refine va_sld hx hb hX hbl hbA hS i1 dL_law_213 ?_
      refine lc_R (k := 87) (ix := 30) (ints := [(xs (nI n + 1).toNatClampNeg)]) (rest := [.int v]) hx hb hml hown hts hN hK hA hW r1 (Nat.le_of_ble_eq_true rfl) rfl rfl k_l30 rfl (Nat.le_of_ble_eq_true rfl) hrm hcs hl.1 (Nat.le_of_ble_eq_true rfl) dL_law_214 (fun H locs hW => ?_)
      refine lv_icmp_eq (tgt := 489) hx hb dL_law_217 (by decide) (fun c2 => ?_) (fun c2 => ?_)
      · exact nx t2 C2 F H locs ht2 hG2 hW
      · exact absurd rfl c2
    · refine lv_tableIn (tgt := 222) hx hb dL_law_32 (by omega) (by omega) (by rw [hw]; rfl) (by decide) ?_
      obtain ⟨v, F, t2, ht2, r1, r2⟩ := same_kill (xs (nI n + 1).toNatClampNeg) (xs (nI n + 2).toNatClampNeg) hG
      refine lv_aload_n hx hb dL_law_222 rfl (lv_at hl 2 rfl) ?_
      refine lv_aload_n hx hb dL_law_223 rfl (lv_at hl 3 rfl) ?_
      refine lv_iload_n hx hb dL_law_224 rfl (lv_at hl 0 rfl) ?_
      refine lv_iconst (v := 1) hx hb dL_law_225 (by decide) ?_
      refine lv_iadd hx hb dL_law_226 ?_
      refine va_sld hx hb hX hbl hbA hS i1 dL_law_227 ?_
      refine lv_aload_n hx hb dL_law_228 rfl (lv_at hl 3 rfl) ?_
      refine lv_iload_n hx hb dL_law_229 rfl (lv_at hl 0 rfl) ?_
      refine lv_iconst (v := 2) hx hb dL_law_230 (by decide) ?_
      refine lv_iadd hx hb dL_law_231 ?_
      refine va_sld hx hb hX hbl hbA hS i2 dL_law_232 ?_
      refine lc_C (k := 14) (ix := 31) (ints := [(xs (nI n + 1).toNatClampNeg), (xs (nI n + 2).toNatClampNeg)]) (rest := []) hx hb hml hown hts hN hK hA hW r2 (Nat.le_of_ble_eq_true rfl) rfl rfl k_l31 rfl (Nat.le_of_ble_eq_true rfl) hrm hcs hl.1 (Nat.le_of_ble_eq_true rfl) dL_law_233 (fun C2 H locs hG2 hW => ?_)
      have hS := hW.2.2
      refine lv_aload_n hx hb dL_law_236 rfl (lv_at hl 1 rfl) ?_
      refine lv_aload_n hx hb dL_law_237 rfl (lv_at hl 3 rfl) ?_
      refine lv_iload_n hx hb dL_law_238 rfl (lv_at hl 0 rfl) ?_
      refine lv_iconst (v := 1) hx hb dL_law_239 (by decide) ?_
      refine lv_iadd hx hb dL_law_240 ?_
      refine va_sld hx hb hX hbl hbA hS i1 dL_law_241 ?_
      refine lv_aload_n hx hb dL_law_242 rfl (lv_at hl 3 rfl) ?_
      refine lv_iload_n hx hb dL_law_243 rfl (lv_at hl 0 rfl) ?_
      refine lv_iconst (v := 2) hx hb dL_law_244 (by decide) ?_
      refine lv_iadd hx hb dL_law_245 ?_
      refine va_sld hx hb hX hbl hbA hS i2 dL_law_246 ?_
      refine lc_R (k := 99) (ix := 35) (ints := [(xs (nI n + 1).toNatClampNeg), (xs (nI n + 2).toNatClampNeg)]) (rest := [.int v]) hx hb hml hown hts hN hK hA hW r1 (Nat.le_of_ble_eq_true rfl) rfl rfl k_l35 rfl (Nat.le_of_ble_eq_true rfl) hrm hcs hl.1 (Nat.le_of_ble_eq_true rfl) dL_law_247 (fun H locs hW => ?_)
      refine lv_icmp_eq (tgt := 489) hx hb dL_law_250 (by decide) (fun c2 => ?_) (fun c2 => ?_)
      · exact nx t2 C2 F H locs ht2 hG2 hW
      · exact absurd rfl c2
    · refine lv_tableIn (tgt := 255) hx hb dL_law_32 (by omega) (by omega) (by rw [hw]; rfl) (by decide) ?_
      obtain ⟨v, F, t2, ht2, r1, r2⟩ := same_entry (xs (nI n + 1).toNatClampNeg) hG
      refine lv_aload_n hx hb dL_law_255 rfl (lv_at hl 2 rfl) ?_
      refine lv_aload_n hx hb dL_law_256 rfl (lv_at hl 3 rfl) ?_
      refine lv_iload_n hx hb dL_law_257 rfl (lv_at hl 0 rfl) ?_
      refine lv_iconst (v := 1) hx hb dL_law_258 (by decide) ?_
      refine lv_iadd hx hb dL_law_259 ?_
      refine va_sld hx hb hX hbl hbA hS i1 dL_law_260 ?_
      refine lc_C (k := 59) (ix := 36) (ints := [(xs (nI n + 1).toNatClampNeg)]) (rest := []) hx hb hml hown hts hN hK hA hW r2 (Nat.le_of_ble_eq_true rfl) rfl rfl k_l36 rfl (Nat.le_of_ble_eq_true rfl) hrm hcs hl.1 (Nat.le_of_ble_eq_true rfl) dL_law_261 (fun C2 H locs hG2 hW => ?_)
      have hS := hW.2.2
      refine lv_aload_n hx hb dL_law_264 rfl (lv_at hl 1 rfl) ?_
      refine lv_aload_n hx hb dL_law_265 rfl (lv_at hl 3 rfl) ?_
      refine lv_iload_n hx hb dL_law_266 rfl (lv_at hl 0 rfl) ?_
      refine lv_iconst (v := 1) hx hb dL_law_267 (by decide) ?_
      refine lv_iadd hx hb dL_law_268 ?_
      refine va_sld hx hb hX hbl hbA hS i1 dL_law_269 ?_
      refine lc_R (k := 100) (ix := 39) (ints := [(xs (nI n + 1).toNatClampNeg)]) (rest := [.int v]) hx hb hml hown hts hN hK hA hW r1 (Nat.le_of_ble_eq_true rfl) rfl rfl k_l39 rfl (Nat.le_of_ble_eq_true rfl) hrm hcs hl.1 (Nat.le_of_ble_eq_true rfl) dL_law_270 (fun H locs hW => ?_)
      refine lv_icmp_eq (tgt := 489) hx hb dL_law_273 (by decide) (fun c2 => ?_) (fun c2 => ?_)
      · exact nx t2 C2 F H locs ht2 hG2 hW
      · exact absurd rfl c2
    · refine lv_tableIn (tgt := 278) hx hb dL_law_32 (by omega) (by omega) (by rw [hw]; rfl) (by decide) ?_
      obtain ⟨v, F, t2, ht2, r1, r2⟩ := same_told (xs (nI n + 1).toNatClampNeg) (xs (nI n + 2).toNatClampNeg) hG
      refine lv_aload_n hx hb dL_law_278 rfl (lv_at hl 2 rfl) ?_
      refine lv_aload_n hx hb dL_law_279 rfl (lv_at hl 3 rfl) ?_
      refine lv_iload_n hx hb dL_law_280 rfl (lv_at hl 0 rfl) ?_
      refine lv_iconst (v := 1) hx hb dL_law_281 (by decide) ?_
      refine lv_iadd hx hb dL_law_282 ?_
      refine va_sld hx hb hX hbl hbA hS i1 dL_law_283 ?_
      refine lv_aload_n hx hb dL_law_284 rfl (lv_at hl 3 rfl) ?_
      refine lv_iload_n hx hb dL_law_285 rfl (lv_at hl 0 rfl) ?_
      refine lv_iconst (v := 2) hx hb dL_law_286 (by decide) ?_
      refine lv_iadd hx hb dL_law_287 ?_
      refine va_sld hx hb hX hbl hbA hS i2 dL_law_288 ?_
      refine lc_C (k := 60) (ix := 40) (ints := [(xs (nI n + 1).toNatClampNeg), (xs (nI n + 2).toNatClampNeg)]) (rest := []) hx hb hml hown hts hN hK hA hW r2 (Nat.le_of_ble_eq_true rfl) rfl rfl k_l40 rfl (Nat.le_of_ble_eq_true rfl) hrm hcs hl.1 (Nat.le_of_ble_eq_true rfl) dL_law_289 (fun C2 H locs hG2 hW => ?_)
      have hS := hW.2.2
      refine lv_aload_n hx hb dL_law_292 rfl (lv_at hl 1 rfl) ?_
      refine lv_aload_n hx hb dL_law_293 rfl (lv_at hl 3 rfl) ?_
      refine lv_iload_n hx hb dL_law_294 rfl (lv_at hl 0 rfl) ?_
      refine lv_iconst (v := 1) hx hb dL_law_295 (by decide) ?_
      refine lv_iadd hx hb dL_law_296 ?_
      refine va_sld hx hb hX hbl hbA hS i1 dL_law_297 ?_
      refine lv_aload_n hx hb dL_law_298 rfl (lv_at hl 3 rfl) ?_
      refine lv_iload_n hx hb dL_law_299 rfl (lv_at hl 0 rfl) ?_
      refine lv_iconst (v := 2) hx hb dL_law_300 (by decide) ?_
      refine lv_iadd hx hb dL_law_301 ?_
      refine va_sld hx hb hX hbl hbA hS i2 dL_law_302 ?_
      refine lc_R (k := 101) (ix := 43) (ints := [(xs (nI n + 1).toNatClampNeg), (xs (nI n + 2).toNatClampNeg)]) (rest := [.int v]) hx hb hml hown hts hN hK hA hW r1 (Nat.le_of_ble_eq_true rfl) rfl rfl k_l43 rfl (Nat.le_of_ble_eq_true rfl) hrm hcs hl.1 (Nat.le_of_ble_eq_true rfl) dL_law_303 (fun H locs hW => ?_)
      refine lv_icmp_eq (tgt := 489) hx hb dL_law_306 (by decide) (fun c2 => ?_) (fun c2 => ?_)
      · exact nx t2 C2 F H locs ht2 hG2 hW
      · exact absurd rfl c2
    · refine lv_tableIn (tgt := 311) hx hb dL_law_32 (by omega) (by omega) (by rw [hw]; rfl) (by decide) ?_
      obtain ⟨v, F, t2, ht2, r1, r2⟩ := same_register (xs (nI n + 1).toNatClampNeg) (xs (nI n + 2).toNatClampNeg) hG
      refine lv_aload_n hx hb dL_law_311 rfl (lv_at hl 2 rfl) ?_
      refine lv_aload_n hx hb dL_law_312 rfl (lv_at hl 3 rfl) ?_
      refine lv_iload_n hx hb dL_law_313 rfl (lv_at hl 0 rfl) ?_
      refine lv_iconst (v := 1) hx hb dL_law_314 (by decide) ?_
      refine lv_iadd hx hb dL_law_315 ?_
      refine va_sld hx hb hX hbl hbA hS i1 dL_law_316 ?_
      refine lv_aload_n hx hb dL_law_317 rfl (lv_at hl 3 rfl) ?_
      refine lv_iload_n hx hb dL_law_318 rfl (lv_at hl 0 rfl) ?_
      refine lv_iconst (v := 2) hx hb dL_law_319 (by decide) ?_
      refine lv_iadd hx hb dL_law_320 ?_
      refine va_sld hx hb hX hbl hbA hS i2 dL_law_321 ?_
      refine lc_C (k := 61) (ix := 44) (ints := [(xs (nI n + 1).toNatClampNeg), (xs (nI n + 2).toNatClampNeg)]) (rest := []) hx hb hml hown hts hN hK hA hW r2 (Nat.le_of_ble_eq_true rfl) rfl rfl k_l44 rfl (Nat.le_of_ble_eq_true rfl) hrm hcs hl.1 (Nat.le_of_ble_eq_true rfl) dL_law_322 (fun C2 H locs hG2 hW => ?_)
      have hS := hW.2.2
      refine lv_aload_n hx hb dL_law_325 rfl (lv_at hl 1 rfl) ?_
      refine lv_aload_n hx hb dL_law_326 rfl (lv_at hl 3 rfl) ?_
      refine lv_iload_n hx hb dL_law_327 rfl (lv_at hl 0 rfl) ?_
      refine lv_iconst (v := 1) hx hb dL_law_328 (by decide) ?_
      refine lv_iadd hx hb dL_law_329 ?_
      refine va_sld hx hb hX hbl hbA hS i1 dL_law_330 ?_
      refine lv_aload_n hx hb dL_law_331 rfl (lv_at hl 3 rfl) ?_
      refine lv_iload_n hx hb dL_law_332 rfl (lv_at hl 0 rfl) ?_
      refine lv_iconst (v := 2) hx hb dL_law_333 (by decide) ?_
      refine lv_iadd hx hb dL_law_334 ?_
      refine va_sld hx hb hX hbl hbA hS i2 dL_law_335 ?_
      refine lc_R (k := 102) (ix := 47) (ints := [(xs (nI n + 1).toNatClampNeg), (xs (nI n + 2).toNatClampNeg)]) (rest := [.int v]) hx hb hml hown hts hN hK hA hW r1 (Nat.le_of_ble_eq_true rfl) rfl rfl k_l47 rfl (Nat.le_of_ble_eq_true rfl) hrm hcs hl.1 (Nat.le_of_ble_eq_true rfl) dL_law_336 (fun H locs hW => ?_)
      refine lv_icmp_eq (tgt := 489) hx hb dL_law_339 (by decide) (fun c2 => ?_) (fun c2 => ?_)
      · exact nx t2 C2 F H locs ht2 hG2 hW
      · exact absurd rfl c2
    · refine lv_tableIn (tgt := 344) hx hb dL_law_32 (by omega) (by omega) (by rw [hw]; rfl) (by decide) ?_
      obtain ⟨v, F, t2, ht2, r1, r2⟩ := same_action (xs (nI n + 1).toNatClampNeg) (xs (nI n + 2).toNatClampNeg) hG
      refine lv_aload_n hx hb dL_law_344 rfl (lv_at hl 2 rfl) ?_
      refine lv_aload_n hx hb dL_law_345 rfl (lv_at hl 3 rfl) ?_
      refine lv_iload_n hx hb dL_law_346 rfl (lv_at hl 0 rfl) ?_
      refine lv_iconst (v := 1) hx hb dL_law_347 (by decide) ?_
      refine lv_iadd hx hb dL_law_348 ?_
      refine va_sld hx hb hX hbl hbA hS i1 dL_law_349 ?_
      refine lv_aload_n hx hb dL_law_350 rfl (lv_at hl 3 rfl) ?_
      refine lv_iload_n hx hb dL_law_351 rfl (lv_at hl 0 rfl) ?_
      refine lv_iconst (v := 2) hx hb dL_law_352 (by decide) ?_
      refine lv_iadd hx hb dL_law_353 ?_
      refine va_sld hx hb hX hbl hbA hS i2 dL_law_354 ?_
      refine lc_C (k := 62) (ix := 48) (ints := [(xs (nI n + 1).toNatClampNeg), (xs (nI n + 2).toNatClampNeg)]) (rest := []) hx hb hml hown hts hN hK hA hW r2 (Nat.le_of_ble_eq_true rfl) rfl rfl k_l48 rfl (Nat.le_of_ble_eq_true rfl) hrm hcs hl.1 (Nat.le_of_ble_eq_true rfl) dL_law_355 (fun C2 H locs hG2 hW => ?_)
      have hS := hW.2.2
      refine lv_aload_n hx hb dL_law_358 rfl (lv_at hl 1 rfl) ?_
      refine lv_aload_n hx hb dL_law_359 rfl (lv_at hl 3 rfl) ?_
      refine lv_iload_n hx hb dL_law_360 rfl (lv_at hl 0 rfl) ?_
      refine lv_iconst (v := 1) hx hb dL_law_361 (by decide) ?_
      refine lv_iadd hx hb dL_law_362 ?_
      refine va_sld hx hb hX hbl hbA hS i1 dL_law_363 ?_
      refine lv_aload_n hx hb dL_law_364 rfl (lv_at hl 3 rfl) ?_
      refine lv_iload_n hx hb dL_law_365 rfl (lv_at hl 0 rfl) ?_
      refine lv_iconst (v := 2) hx hb dL_law_366 (by decide) ?_
      refine lv_iadd hx hb dL_law_367 ?_
      refine va_sld hx hb hX hbl hbA hS i2 dL_law_368 ?_
      refine lc_R (k := 103) (ix := 51) (ints := [(xs (nI n + 1).toNatClampNeg), (xs (nI n + 2).toNatClampNeg)]) (rest := [.int v]) hx hb hml hown hts hN hK hA hW r1 (Nat.le_of_ble_eq_true rfl) rfl rfl k_l51 rfl (Nat.le_of_ble_eq_true rfl) hrm hcs hl.1 (Nat.le_of_ble_eq_true rfl) dL_law_369 (fun H locs hW => ?_)
      refine lv_icmp_eq (tgt := 489) hx hb dL_law_372 (by decide) (fun c2 => ?_) (fun c2 => ?_)
      · exact nx t2 C2 F H locs ht2 hG2 hW
      · exact absurd rfl c2
    · refine lv_tableIn (tgt := 377) hx hb dL_law_32 (by omega) (by omega) (by rw [hw]; rfl) (by decide) ?_
      obtain ⟨v, F, t2, ht2, r1, r2⟩ := same_child (xs (nI n + 1).toNatClampNeg) (xs (nI n + 2).toNatClampNeg) hG
      refine lv_aload_n hx hb dL_law_377 rfl (lv_at hl 2 rfl) ?_
      refine lv_aload_n hx hb dL_law_378 rfl (lv_at hl 3 rfl) ?_
      refine lv_iload_n hx hb dL_law_379 rfl (lv_at hl 0 rfl) ?_
      refine lv_iconst (v := 1) hx hb dL_law_380 (by decide) ?_
      refine lv_iadd hx hb dL_law_381 ?_
      refine va_sld hx hb hX hbl hbA hS i1 dL_law_382 ?_
      refine lv_aload_n hx hb dL_law_383 rfl (lv_at hl 3 rfl) ?_
      refine lv_iload_n hx hb dL_law_384 rfl (lv_at hl 0 rfl) ?_
      refine lv_iconst (v := 2) hx hb dL_law_385 (by decide) ?_
      refine lv_iadd hx hb dL_law_386 ?_
      refine va_sld hx hb hX hbl hbA hS i2 dL_law_387 ?_
      refine lc_C (k := 63) (ix := 52) (ints := [(xs (nI n + 1).toNatClampNeg), (xs (nI n + 2).toNatClampNeg)]) (rest := []) hx hb hml hown hts hN hK hA hW r2 (Nat.le_of_ble_eq_true rfl) rfl rfl k_l52 rfl (Nat.le_of_ble_eq_true rfl) hrm hcs hl.1 (Nat.le_of_ble_eq_true rfl) dL_law_388 (fun C2 H locs hG2 hW => ?_)
      have hS := hW.2.2
      refine lv_aload_n hx hb dL_law_391 rfl (lv_at hl 1 rfl) ?_
      refine lv_aload_n hx hb dL_law_392 rfl (lv_at hl 3 rfl) ?_
      refine lv_iload_n hx hb dL_law_393 rfl (lv_at hl 0 rfl) ?_
      refine lv_iconst (v := 1) hx hb dL_law_394 (by decide) ?_
      refine lv_iadd hx hb dL_law_395 ?_
      refine va_sld hx hb hX hbl hbA hS i1 dL_law_396 ?_
      refine lv_aload_n hx hb dL_law_397 rfl (lv_at hl 3 rfl) ?_
      refine lv_iload_n hx hb dL_law_398 rfl (lv_at hl 0 rfl) ?_
      refine lv_iconst (v := 2) hx hb dL_law_399 (by decide) ?_
      refine lv_iadd hx hb dL_law_400 ?_
      refine va_sld hx hb hX hbl hbA hS i2 dL_law_401 ?_
      refine lc_R (k := 104) (ix := 55) (ints := [(xs (nI n + 1).toNatClampNeg), (xs (nI n + 2).toNatClampNeg)]) (rest := [.int v]) hx hb hml hown hts hN hK hA hW r1 (Nat.le_of_ble_eq_true rfl) rfl rfl k_l55 rfl (Nat.le_of_ble_eq_true rfl) hrm hcs hl.1 (Nat.le_of_ble_eq_true rfl) dL_law_402 (fun H locs hW => ?_)
      refine lv_icmp_eq (tgt := 489) hx hb dL_law_405 (by decide) (fun c2 => ?_) (fun c2 => ?_)
      · exact nx t2 C2 F H locs ht2 hG2 hW
      · exact absurd rfl c2
    · refine lv_tableIn (tgt := 410) hx hb dL_law_32 (by omega) (by omega) (by rw [hw]; rfl) (by decide) ?_
      obtain ⟨v, F, t2, ht2, r1, r2⟩ := same_members (xs (nI n + 1).toNatClampNeg) hG
      refine lv_aload_n hx hb dL_law_410 rfl (lv_at hl 2 rfl) ?_
      refine lv_aload_n hx hb dL_law_411 rfl (lv_at hl 3 rfl) ?_
      refine lv_iload_n hx hb dL_law_412 rfl (lv_at hl 0 rfl) ?_
      refine lv_iconst (v := 1) hx hb dL_law_413 (by decide) ?_
      refine lv_iadd hx hb dL_law_414 ?_
      refine va_sld hx hb hX hbl hbA hS i1 dL_law_415 ?_
      refine lc_C (k := 64) (ix := 56) (ints := [(xs (nI n + 1).toNatClampNeg)]) (rest := []) hx hb hml hown hts hN hK hA hW r2 (Nat.le_of_ble_eq_true rfl) rfl rfl k_l56 rfl (Nat.le_of_ble_eq_true rfl) hrm hcs hl.1 (Nat.le_of_ble_eq_true rfl) dL_law_416 (fun C2 H locs hG2 hW => ?_)
      have hS := hW.2.2
      refine lv_aload_n hx hb dL_law_419 rfl (lv_at hl 1 rfl) ?_
      refine lv_aload_n hx hb dL_law_420 rfl (lv_at hl 3 rfl) ?_
      refine lv_iload_n hx hb dL_law_421 rfl (lv_at hl 0 rfl) ?_
      refine lv_iconst (v := 1) hx hb dL_law_422 (by decide) ?_
      refine lv_iadd hx hb dL_law_423 ?_
      refine va_sld hx hb hX hbl hbA hS i1 dL_law_424 ?_
      refine lc_R (k := 105) (ix := 59) (ints := [(xs (nI n + 1).toNatClampNeg)]) (rest := [.int v]) hx hb hml hown hts hN hK hA hW r1 (Nat.le_of_ble_eq_true rfl) rfl rfl k_l59 rfl (Nat.le_of_ble_eq_true rfl) hrm hcs hl.1 (Nat.le_of_ble_eq_true rfl) dL_law_425 (fun H locs hW => ?_)
      refine lv_icmp_eq (tgt := 489) hx hb dL_law_428 (by decide) (fun c2 => ?_) (fun c2 => ?_)
      · exact nx t2 C2 F H locs ht2 hG2 hW
      · exact absurd rfl c2
    · refine lv_tableIn (tgt := 433) hx hb dL_law_32 (by omega) (by omega) (by rw [hw]; rfl) (by decide) ?_
      obtain ⟨v, F, t2, ht2, r1, r2⟩ := same_log (xs (nI n + 1).toNatClampNeg) (xs (nI n + 2).toNatClampNeg) hG
      refine lv_aload_n hx hb dL_law_433 rfl (lv_at hl 2 rfl) ?_
      refine lv_aload_n hx hb dL_law_434 rfl (lv_at hl 3 rfl) ?_
      refine lv_iload_n hx hb dL_law_435 rfl (lv_at hl 0 rfl) ?_
      refine lv_iconst (v := 1) hx hb dL_law_436 (by decide) ?_
      refine lv_iadd hx hb dL_law_437 ?_
      refine va_sld hx hb hX hbl hbA hS i1 dL_law_438 ?_
      refine lv_aload_n hx hb dL_law_439 rfl (lv_at hl 3 rfl) ?_
      refine lv_iload_n hx hb dL_law_440 rfl (lv_at hl 0 rfl) ?_
      refine lv_iconst (v := 2) hx hb dL_law_441 (by decide) ?_
      refine lv_iadd hx hb dL_law_442 ?_
      refine va_sld hx hb hX hbl hbA hS i2 dL_law_443 ?_
      refine lc_C (k := 65) (ix := 60) (ints := [(xs (nI n + 1).toNatClampNeg), (xs (nI n + 2).toNatClampNeg)]) (rest := []) hx hb hml hown hts hN hK hA hW r2 (Nat.le_of_ble_eq_true rfl) rfl rfl k_l60 rfl (Nat.le_of_ble_eq_true rfl) hrm hcs hl.1 (Nat.le_of_ble_eq_true rfl) dL_law_444 (fun C2 H locs hG2 hW => ?_)
      have hS := hW.2.2
      refine lv_aload_n hx hb dL_law_447 rfl (lv_at hl 1 rfl) ?_
      refine lv_aload_n hx hb dL_law_448 rfl (lv_at hl 3 rfl) ?_
      refine lv_iload_n hx hb dL_law_449 rfl (lv_at hl 0 rfl) ?_
      refine lv_iconst (v := 1) hx hb dL_law_450 (by decide) ?_
      refine lv_iadd hx hb dL_law_451 ?_
      refine va_sld hx hb hX hbl hbA hS i1 dL_law_452 ?_
      refine lv_aload_n hx hb dL_law_453 rfl (lv_at hl 3 rfl) ?_
      refine lv_iload_n hx hb dL_law_454 rfl (lv_at hl 0 rfl) ?_
      refine lv_iconst (v := 2) hx hb dL_law_455 (by decide) ?_
      refine lv_iadd hx hb dL_law_456 ?_
      refine va_sld hx hb hX hbl hbA hS i2 dL_law_457 ?_
      refine lc_R (k := 106) (ix := 63) (ints := [(xs (nI n + 1).toNatClampNeg), (xs (nI n + 2).toNatClampNeg)]) (rest := [.int v]) hx hb hml hown hts hN hK hA hW r1 (Nat.le_of_ble_eq_true rfl) rfl rfl k_l63 rfl (Nat.le_of_ble_eq_true rfl) hrm hcs hl.1 (Nat.le_of_ble_eq_true rfl) dL_law_458 (fun H locs hW => ?_)
      refine lv_icmp_eq (tgt := 489) hx hb dL_law_461 (by decide) (fun c2 => ?_) (fun c2 => ?_)
      · exact nx t2 C2 F H locs ht2 hG2 hW
      · exact absurd rfl c2
    · refine lv_tableIn (tgt := 466) hx hb dL_law_32 (by omega) (by omega) (by rw [hw]; rfl) (by decide) ?_
      obtain ⟨v, F, t2, ht2, r1, r2⟩ := same_count (xs (nI n + 1).toNatClampNeg) hG
      refine lv_aload_n hx hb dL_law_466 rfl (lv_at hl 2 rfl) ?_
      refine lv_aload_n hx hb dL_law_467 rfl (lv_at hl 3 rfl) ?_
      refine lv_iload_n hx hb dL_law_468 rfl (lv_at hl 0 rfl) ?_
      refine lv_iconst (v := 1) hx hb dL_law_469 (by decide) ?_
      refine lv_iadd hx hb dL_law_470 ?_
      refine va_sld hx hb hX hbl hbA hS i1 dL_law_471 ?_
      refine lc_C (k := 66) (ix := 64) (ints := [(xs (nI n + 1).toNatClampNeg)]) (rest := []) hx hb hml hown hts hN hK hA hW r2 (Nat.le_of_ble_eq_true rfl) rfl rfl k_l64 rfl (Nat.le_of_ble_eq_true rfl) hrm hcs hl.1 (Nat.le_of_ble_eq_true rfl) dL_law_472 (fun C2 H locs hG2 hW => ?_)
      have hS := hW.2.2
      refine lv_aload_n hx hb dL_law_475 rfl (lv_at hl 1 rfl) ?_
      refine lv_aload_n hx hb dL_law_476 rfl (lv_at hl 3 rfl) ?_
      refine lv_iload_n hx hb dL_law_477 rfl (lv_at hl 0 rfl) ?_
      refine lv_iconst (v := 1) hx hb dL_law_478 (by decide) ?_
      refine lv_iadd hx hb dL_law_479 ?_
      refine va_sld hx hb hX hbl hbA hS i1 dL_law_480 ?_
      refine lc_R (k := 108) (ix := 67) (ints := [(xs (nI n + 1).toNatClampNeg)]) (rest := [.int v]) hx hb hml hown hts hN hK hA hW r1 (Nat.le_of_ble_eq_true rfl) rfl rfl k_l67 rfl (Nat.le_of_ble_eq_true rfl) hrm hcs hl.1 (Nat.le_of_ble_eq_true rfl) dL_law_481 (fun H locs hW => ?_)
      refine lv_icmp_eq (tgt := 489) hx hb dL_law_484 (by decide) (fun c2 => ?_) (fun c2 => ?_)
      · exact nx t2 C2 F H locs ht2 hG2 hW
      · exact absurd rfl c2
