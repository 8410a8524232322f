def xcn (t : Nat) : Nat := xcnL.getD t 0
def xob (t : Nat) : Option Nat := xobL.getD t none
def xfk (t : Nat) : List Nat := xfkL.getD t []
def xek (t : Nat) : Nat := xekL.getD t 0
def xal (t : Nat) : Nat := xalL.getD t 0
def xat (t : Nat) : FieldType := xatL.getD t .int
def xmd (j : Nat) : xMd := xms.getD j (0, ⟨"", "", ""⟩, ⟨#[]⟩, 0, none, 0, 0)
def xmo (j : Nat) : Nat := (xmd j).1
def xmy (j : Nat) : MethodName := (xmd j).2.1
def xmc (j : Nat) : ByteArray := (xmd j).2.2.1
def xmL (j : Nat) : Nat := (xmd j).2.2.2.1
def xmr (j : Nat) : Option FieldType := (xmd j).2.2.2.2.1
def xmt (j : Nat) : Nat := (xmd j).2.2.2.2.2.1
def xmn (j : Nat) : Nat := (xmd j).2.2.2.2.2.2
def xfet (j pc : Nat) : Option (Instr × Nat) := (xtbs.getD j []).lookup pc
def xfl (o i : Nat) : Option (Nat × Nat × Bool) := xflL.lookup (o, i)
def xml (o i : Nat) : Option (Nat × Nat) := xmlL.lookup (o, i)
def xkc (o i : Nat) : Option Int32 := xkcL.lookup (o, i)
def xkl (o i : Nat) : Option Int64 := xklL.lookup (o, i)
theorem x_mem_pos {α : Type} {big ws : List α} (ps : List Nat) (h : ws = ps.filterMap (fun i => big[i]?)) : ∀ w ∈ ws, w ∈ big := by
  intro w hw
  rw [h] at hw
  obtain ⟨i, -, hi⟩ := List.mem_filterMap.mp hw
  exact List.mem_of_getElem? hi
theorem x_lookup {α β : Type} [BEq α] [LawfulBEq α] {l : List (α × β)} {k : α} {v : β} (h : l.lookup k = some v) : (k, v) ∈ l := by
  induction l with
  | nil => simp at h
  | cons q l ih =>
    obtain ⟨a, b⟩ := q
    rw [List.lookup_cons] at h
    by_cases hk : (k == a) = true
    · rw [hk] at h
      simp only [beq_iff_eq] at hk
      subst hk
      cases h
      exact List.mem_cons_self
    · simp only [hk] at h
      exact List.mem_cons_of_mem _ (ih h)
def xflW (q : (Nat × Nat) × Nat × Nat × Bool) : Cond :=
  match vwCl[(xob q.2.1).getD 0]? with
  | some r => if q.2.2.2 then .fieldLinkNest (xon q.1.1) q.1.2 (r.2.1 q.2.2.1).1 (r.2.1 q.2.2.1).2.1 (r.2.1 q.2.2.1).2.2.1 RX2 else .fieldLink (xon q.1.1) q.1.2 (r.2.1 q.2.2.1).1 (r.2.1 q.2.2.1).2.1 (r.2.1 q.2.2.1).2.2.1
  | none => .arrayClass .int
set_option maxRecDepth 100000 in
theorem xfl_w : xflL.map xflW = xflP.filterMap (fun i => lw_tbl[i]?) := by decide +kernel
def xmlW (q : (Nat × Nat) × Nat × Nat) : Cond := if q.2.2 = 1 then .methodLinkNest (xon q.1.1) q.1.2 (xmy q.2.1) RX2 else .methodLink (xon q.1.1) q.1.2 (xmy q.2.1)
set_option maxRecDepth 100000 in
theorem xml_w : xmlL.map xmlW = xmlP.filterMap (fun i => lw_tbl[i]?) := by decide +kernel
def xkcW (q : (Nat × Nat) × Int32) : Cond := .constant (xon q.1.1) q.1.2 q.2
set_option maxRecDepth 100000 in
theorem xkc_w : xkcL.map xkcW = xkcP.filterMap (fun i => lw_tbl[i]?) := by decide +kernel
def xklW (q : (Nat × Nat) × Int64) : Cond := .constantLong (xon q.1.1) q.1.2 q.2
set_option maxRecDepth 100000 in
theorem xkl_w : xklL.map xklW = xklP.filterMap (fun i => lw_tbl[i]?) := by decide +kernel
def xacW (q : Nat × Nat) : Cond := .methodLink (xon q.1) q.2 arraycopyName
set_option maxRecDepth 100000 in
theorem xac_w : xacL.map xacW = xacP.filterMap (fun i => lw_tbl[i]?) := by decide +kernel
def xmmW (q : Nat × Nat) : Cond := .methodLink (xon q.1) q.2 Lib.Math.min.name
set_option maxRecDepth 100000 in
theorem xmm_w : xmmL.map xmmW = xmmP.filterMap (fun i => lw_tbl[i]?) := by decide +kernel
def xinW (q : xMd) : Cond := if q.2.2.2.2.2.1 = 0 then .static q.2.1 else .instanceMethod q.2.1
set_option maxRecDepth 100000 in
theorem xin_w : xms.map xinW = xinP.filterMap (fun i => lw_tbl[i]?) := by decide +kernel
def xseW (q : xMd) : Cond := .selects q.2.1.cls q.2.1 q.2.1
set_option maxRecDepth 100000 in
theorem xse_w : (xms.filter (fun q => q.2.2.2.2.2.1 != 0)).map xseW = ((xms.zip xseP).filter (fun q => q.1.2.2.2.2.2.1 != 0)).filterMap (fun q => lw_tbl[q.2]?) := by decide +kernel
def xiiW (q : xMd) : Cond := .initialized q.2.1.cls
set_option maxRecDepth 100000 in
theorem xii_w : xms.map xiiW = xiiP.filterMap (fun i => lw_tbl[i]?) := by decide +kernel
set_option maxRecDepth 100000 in
theorem xmd_own : ∀ q ∈ xms, xon q.1 = q.2.1.cls ∧ plainName q.2.1.cls = true ∧ (q.2.1.cls ≠ "java/lang/invoke/MethodHandle" ∧ q.2.1.cls ≠ "java/lang/invoke/VarHandle" ∧ (parseMethodDescriptor q.2.1.desc).map (fun d => d.parameters.length) = some q.2.2.2.2.2.2) ∧ q.2.2.2.1 ≤ 19 := by decide +kernel
def xchk (t : List (Nat × Instr × Nat)) (b : ByteArray) : Bool := t.all fun q => decide (decode b q.1 = .ok q.2)
