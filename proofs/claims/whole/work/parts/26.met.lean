section XMT
variable {p : Program} {l : Launch} {e : Env} {R : Room} {s : State} {m : MethodId} {args : Array Value} {below : List Frame} {meth : Method} {c : Code} {H H0 : Heap} {locs : List Loc} {D : va_G} {ad : Nat → Nat → Nat} {cA : Nat → ClassId} {A : Nat → Prop} {M M' : xM} {j d pc : Nat} {L : xLs} {st : List xV} {ls : Array Slot} {Qc : Array Value → State → Outcome → State → Prop}
theorem x_end {r : Option xV} (B : xB p s m args c j) (hr : meth.sig.returnType = xmr j) (hlk : meth.locks = false) (Wd : xWd D ad cA (xsj j) A s.heap s M H locs) (h : x1 d j (pc, L, st, M) = some (.inr (.inl (r, M'))))
    (hQ : M' = M → ∀ t : State, t.heap = H → s.WarmedH t.vm → Qc args s (.returned (r.map (cv ad))) t) : W p l e R s m args below meth c H locs 0 0 (MQ below Qc args s 0 0 A) (F0 m pc ls (st.map (cv ad))) := by
  unfold x1 at h
  cases hf : xfet j pc with
  | none => rw [hf] at h; cases h
  | some q =>
    obtain ⟨i, n⟩ := q
    rw [hf] at h
    replace h : xi d j i pc L st M = some (.inr (.inl (r, M'))) := h
    obtain ⟨hd, hn⟩ := xfet_spec hf
    have hx := B.1
    have hb := B.2.1
    have hS := Wd.2.2.1
    cases i with
    | ireturn =>
      have hd := xd1 hd hn (k := 1) rfl (by decide)
      simp only [xi, xret] at h
      split at h
      · split at h
        · rename_i x hc
          cases h
          rcases hc with hc | ⟨hc, hv⟩
          · exact W.iret hx hb (by rw [hr, hc]) (hQ rfl) hS.2.2 hd
          · exact W.zret (ty := .boolean) hx hb (by rw [hr, hc]) (by rcases hv with rfl | rfl <;> rfl) (hQ rfl) hS.2.2 hd
        · cases h
      · cases h
    | areturn =>
      have hd := xd1 hd hn (k := 1) rfl (by decide)
      simp only [xi, xreA] at h
      split at h
      · split at h
        · rename_i o hc
          cases h
          cases ho : xmr j with
          | none => rw [ho] at hc; cases hc
          | some rt =>
            rw [ho] at hc
            cases rt with
            | object n =>
              refine W.aret (v := cv ad (.inr (.inr o))) hx hb (hr.trans ho) (Or.inl ⟨_, rfl⟩) ?_ (hQ rfl) hS.2.2 hd
              cases o with
              | none => exact Or.inl rfl
              | some q => exact Or.inr ⟨_, rfl⟩
            | _ => cases hc
        · cases h
      · cases h
    | return_ =>
      have hd := xd1 hd hn (k := 1) rfl (by decide)
      simp only [xi] at h
      split at h
      · split at h
        · rename_i hc
          cases h
          exact W.vret hx hb (hr.trans hc) (hQ rfl) hS.2.2 hd
        · cases h
      · cases h
    | _ => first | cases h | (simp only [xi, xldI, xldJ, xldA, xstI, xstA, xb2, xj2, xbr, xget, xput, xalI, xalJ, xalA, xasI, xasJ, xasA, xlen, xsw, xinv, xins, xcall, xcopy, xmin] at h; (repeat' (split at h)); (all_goals cases h))
end XMT
theorem x_end_same {d j pc : Nat} {L : xLs} {st : List xV} {M M' : xM} {r : Option xV} (h : x1 d j (pc, L, st, M) = some (.inr (.inl (r, M')))) : M' = M := by
  unfold x1 at h
  cases hf : xfet j pc with
  | none => rw [hf] at h; cases h
  | some q =>
    obtain ⟨i, n⟩ := q
    rw [hf] at h
    replace h : xi d j i pc L st M = some (.inr (.inl (r, M'))) := h
    cases i with
    | ireturn =>
      simp only [xi, xret] at h
      split at h
      · split at h
        · cases h; rfl
        · cases h
      · cases h
    | areturn =>
      simp only [xi, xreA] at h
      split at h
      · split at h
        · cases h; rfl
        · cases h
      · cases h
    | return_ =>
      simp only [xi] at h
      split at h
      · split at h
        · cases h; rfl
        · cases h
      · cases h
    | _ => first | cases h | (simp only [xi, xldI, xldJ, xldA, xstI, xstA, xb2, xj2, xbr, xget, xput, xalI, xalJ, xalA, xasI, xasJ, xasA, xlen, xsw, xinv, xins, xcall, xcopy, xmin] at h; (repeat' (split at h)); (all_goals cases h))
theorem iv_callM {d j pc k pc' : Nat} {L L' : xLs} {st r as : List xV} {M M' : xM} (h : x1 d j (pc, L, st, M) = some (.inr (.inr (k, as, pc', L', r, M')))) : M' = M ∧ L' = L := by
  unfold x1 at h
  cases hf : xfet j pc with
  | none => rw [hf] at h; cases h
  | some q =>
    obtain ⟨i, n⟩ := q
    rw [hf] at h
    replace h : xi d j i pc L st M = some (.inr (.inr (k, as, pc', L', r, M'))) := h
    cases i with
    | invokevirtual x =>
      obtain ⟨kd, t, e', hk, hkd, hlen, hst, hmt, he', has, hpc, hL, hMM, hxl, hr4⟩ := iv_cv (kd := 0) h
      exact ⟨hMM, hL⟩
    | invokestatic x =>
      obtain ⟨kd, hk, hkd, hmt, hlen, hst, has, hpc, hL, hMM, hxl, hr4⟩ := iv_cs h
      exact ⟨hMM, hL⟩
    | _ => first | cases h | (simp only [xi, xldI, xldJ, xldA, xstI, xstA, xb2, xj2, xbr, xget, xput, xalI, xalJ, xalA, xasI, xasJ, xasA, xlen, xret, xreA, xsw] at h; (repeat' (split at h)); (all_goals cases h))
def xMet (l : Launch) (n : Nat) : Prop := ∀ (D : va_G) (ad : Nat → Nat → Nat) (cA : Nat → ClassId) (d k : Nat) (as : List xV) (M : xM) (r : Option xV) (M' : xM), k < xms.length → (xsl as).length ≤ xmL k → xr n d k (0, xen k as, [], M) = some (r, M') → ∀ sz : Nat, Met l (xmy k) (xws k) (xrm d) (xPc D ad cA k as M sz) (xQc D ad cA k M sz r M') 0 0 (va_A (xw ad cA (xsj k) M) sz)
theorem x_body (l : Launch) : ∀ n : Nat, (∀ n', n' < n → xMet l n') → ∀ {p : Program} {e : Env} {s : State} {m : MethodId} {args : Array Value} {below : List Frame} {meth : Method} {c : Code} {H : Heap} {locs : List Loc} {D : va_G} {ad : Nat → Nat → Nat} {cA : Nat → ClassId} {A : Nat → Prop} {M M' : xM} {j d pc : Nat} {L : xLs} {st : List xV} {ls : Array Slot} {Qc : Array Value → State → Outcome → State → Prop} {r : Option xV},
    xr n d j (pc, L, st, M) = some (r, M') → xB p s m args c j → meth.sig.returnType = xmr j → meth.locks = false → xWd D ad cA (xsj j) A s.heap s M H locs → (∀ q, s.heap.size ≤ q → A q) → xlh ad ls (xmL j) L →
    (∀ (H1 : Heap) (locs1 : List Loc), xWd D ad cA (xsj j) A s.heap s M' H1 locs1 → ∀ t : State, t.heap = H1 → s.WarmedH t.vm → Qc args s (.returned (r.map (cv ad))) t) → W p l e (xrm d) s m args below meth c H locs 0 0 (MQ below Qc args s 0 0 A) (F0 m pc ls (st.map (cv ad))) := by
  intro n
  induction n with
  | zero => intro _ p e s m args below meth c H locs D ad cA A M M' j d pc L st ls Qc r h; simp [xr] at h
  | succ n ih =>
    intro hmet p e s m args below meth c H locs D ad cA A M M' j d pc L st ls Qc r h B hr hlk Wd hA hl hQ
    have ih := @ih (fun n' h' => hmet n' (Nat.lt_succ_of_lt h'))
    rw [xr] at h
    split at h
    · rename_i c' hc
      obtain ⟨pc', L', st', M1⟩ := c'
      exact x_next rfl B Wd hl hc (fun H1 locs1 ls1 W1 hl1 => ih h B hr hlk W1 hA hl1 hQ)
    · rename_i r' hc
      obtain ⟨r1, M1⟩ := r'
      cases h
      have hsame := x_end_same hc
      subst hsame
      exact x_end B hr hlk Wd hc (fun _ t ht hW => hQ H locs Wd t ht hW)
    · rename_i k as pc' L' st' M1 hc
      cases d with
      | zero => simp at h
      | succ d' =>
        simp only at h
        split at h
        · rename_i r1 M2 hq
          obtain ⟨rfl, rfl⟩ := iv_callM hc
          exact (x_call (Q := MQ below Qc args s 0 0 A) (p := p) (l := l) (e := e) (meth := meth) (below := below) (rr := r1) (M1 := M2) B Wd hA hl hc (fun hk hx => hmet n (Nat.lt_succ_self n) D ad cA d' k as M1 r1 M2 hk hx hq H.size) (fun H1 locs1 W1 => ih h B hr hlk W1 hA hl hQ)).2.2
        · cases h
    · cases h
theorem x_met (l : Launch) : ∀ n : Nat, xMet l n := by
  intro n
  induction n using Nat.strongRecOn with
  | _ n hmet =>
    intro D ad cA d k as M r M' hk hxl h sz
    have hmem := xmd_mem hk
    obtain ⟨ho1, ho2, ho3, ho4⟩ := xmd_own _ hmem
    refine Met.ofW (cc := xmc k) (maxL := xmL k) (ret := xmr k) ho2 rfl ?_
    intro p e s m args below meth c s₁ B hml hv
    obtain ⟨rfl, hsz, hP, hK, hD0, hN⟩ := hv
    have hts := atoms_spec (ws := xws k) B.pre
    have hown : s.vm.findClass (xmy k).cls = some m.cls := findClass_of_methodNamed B.named
    subst hsz
    have hD := hD0.self (sz := s.heap.size)
    have hS : va_S (va_A (xw ad cA (xsj k) M) s.heap.size) s.heap s.heap [] := va_S.rf
    have hB : xB p s m (as.map (cv ad)).toArray c k := ⟨B.exec, B.bytes, hml, by rw [show xon (xmo k) = (xmy k).cls from ho1]; exact hown, fun w hw => hts w (List.mem_cons_of_mem _ hw), hN⟩
    rw [lg_entry_eq]
    exact x_body l n hmet h hB B.returns B.notSynchronized ⟨hP, hD, hS, hK⟩ (fun q hq => Or.inr hq) (xen_has hxl) (fun H1 locs1 W1 t ht hW => ⟨⟨rfl, by rw [ht]; exact W1.1, va_K.moved hW.alike W1.2.2.2⟩, W1.2.2.1.F ht⟩)
theorem Rn.met (l : Launch) {d k : Nat} {as : List xV} {M : xM} {Z : Option xV → xM → Prop} (hk : k < xms.length) (hx : (xsl as).length ≤ xmL k) (h : Rn d k (0, xen k as, [], M) Z) : ∃ r M', Z r M' ∧ ∀ (D : va_G) (ad : Nat → Nat → Nat) (cA : Nat → ClassId) (sz : Nat), Met l (xmy k) (xws k) (xrm d) (xPc D ad cA k as M sz) (xQc D ad cA k M sz r M') 0 0 (va_A (xw ad cA (xsj k) M) sz) := by
  obtain ⟨n, r, M', h1, h2⟩ := h
  exact ⟨r, M', h2, fun D ad cA sz => x_met l n D ad cA d k as M r M' hk hx h1 sz⟩
