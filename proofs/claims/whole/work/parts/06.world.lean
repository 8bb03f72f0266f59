/-! what the small machine's state says of the heap, and what it is for an op to be sound -/
section MMB
abbrev vwCl : List vw_C := [(RX0, TX0, 5), (RX1, TX1, 14), (RX2, TX2, 3), (RX3, TX3, 3), (RX4, TX4, 5), (RX5, TX5, 4), (RX6, TX6, 6), (RX7, TX7, 3), (RX8, TX8, 7), (RX9, TX9, 2), (RX10, TX10, 4), (RX11, TX11, 37)]
def mm_ty : Nat → Nat → FieldType
  | 0 => tyX0 | 1 => tyX1 | 2 => tyX2 | 3 => tyX3 | 4 => tyX4 | 5 => tyX5 | 6 => tyX6 | 7 => tyX7 | 8 => tyX8 | 9 => tyX9 | 10 => tyX10 | _ => tyX11
/-- is the field a reference -/
def mm_rq (ci k : Nat) : Bool := match mm_ty ci k with
  | .object _ => true
  | .array _ => true
  | _ => false
def mm_nf (ci : Nat) : Nat := match vwCl[ci]? with
  | some q => q.2.2
  | none => 0
def mv (r : Nat → Nat) : Value → Value
  | .ref a => .ref (r a)
  | v => v
def mvl (r : Nat → Nat) (lv : mm_L) : List (Nat × Value) := lv.map (fun q => (q.1, mv r q.2))
def mm_fv (r : Nat → Nat) (u : mm_M) (i ci k : Nat) : Value := if mm_rq ci k = true then va_rf ((mm_rf u i k).map r) else .int (mm_it u i k)
def mm_ar (r : Nat → Nat) (u : mm_M) (i t : Nat) : (Nat → Int32) ⊕ (Nat → Int64) ⊕ (Nat → UInt32) ⊕ (Nat → UInt64) ⊕ (Nat → Option Nat) :=
  if t ≤ 3 then .inl (mm_it u i) else if t = 4 then .inr (.inl (mm_lg u i)) else .inr (.inr (.inr (.inr (fun j => (mm_rf u i j).map r))))
def mm_at (cy : Nat → ClassId) (r : Nat → Nat) (u : mm_M) (i : Nat) (x : Nat × Nat) : va_E :=
  if x.1 = 0 then .inr (x.2, (List.range (mm_nf x.2)).map (mm_fv r u i x.2)) else .inl (cy x.1, x.2, mm_ar r u i x.1)
def mm_wl (cy : Nat → ClassId) (r : Nat → Nat) (u : mm_M) : va_W := (mm_sh u).mapIdx (fun i x => (r i, mm_at cy r u i x))
def mm_W (D : va_G) (cy : Nat → ClassId) (r : Nat → Nat) (bs : Nat) (u : mm_M) (H : Heap) : Prop := va_P D vwCl (mm_wl cy r u) H ∧ ∀ i, i < (mm_sh u).length → r i = bs + i
theorem mm_wl_at {cy : Nat → ClassId} {r : Nat → Nat} {u : mm_M} {i : Nat} {x : Nat × Nat} (h : (mm_sh u)[i]? = some x) : (mm_wl cy r u)[i]? = some (r i, mm_at cy r u i x) := by
  simp [mm_wl, List.getElem?_mapIdx, h]
theorem mm_wl_of {cy : Nat → ClassId} {r : Nat → Nat} {u : mm_M} {i : Nat} {q : Nat × va_E} (h : (mm_wl cy r u)[i]? = some q) : ∃ x, (mm_sh u)[i]? = some x ∧ q = (r i, mm_at cy r u i x) := by
  simp only [mm_wl, List.getElem?_mapIdx] at h
  cases hx : (mm_sh u)[i]? with
  | none => rw [hx] at h; cases h
  | some x => rw [hx] at h; exact ⟨x, rfl, (Option.some.inj h).symm⟩
theorem mm_D {D : va_G} {cy : Nat → ClassId} {r : Nat → Nat} {bs : Nat} {u : mm_M} {H : Heap} (h : mm_W D cy r bs u H) : va_D (fun q => bs ≤ q) (mm_wl cy r u) := by
  refine ⟨fun i j p q hi hj e => ?_, fun k q hk => ?_⟩
  · obtain ⟨x, hx, rfl⟩ := mm_wl_of hi
    obtain ⟨y, hy, rfl⟩ := mm_wl_of hj
    have e' : r i = r j := e
    rw [h.2 i (List.getElem?_eq_some_iff.mp hx).1, h.2 j (List.getElem?_eq_some_iff.mp hy).1] at e'
    omega
  · obtain ⟨x, hx, rfl⟩ := mm_wl_of hk
    show bs ≤ r k
    rw [h.2 k (List.getElem?_eq_some_iff.mp hx).1]
    exact Nat.le_add_right _ _
theorem mm_size {D : va_G} {cy : Nat → ClassId} {r : Nat → Nat} {bs : Nat} {u : mm_M} {H : Heap} (h : mm_W D cy r bs u H) (hb : bs ≤ H.size) : bs + (mm_sh u).length ≤ H.size := by
  rcases Nat.eq_zero_or_pos (mm_sh u).length with e | e
  · rw [e]; exact hb
  · have hl : (mm_sh u).length - 1 < (mm_sh u).length := by omega
    have h1 := (h.1 _ _ (mm_wl_at (List.getElem?_eq_getElem hl))).lt
    have h2 := h.2 _ hl
    dsimp only at h1
    omega
/-- the array classes, by kind: at kind - 1 -/
def mm_tys (cy : Nat → ClassId) : List (ClassId × FieldType) := [(cy 1, .int), (cy 2, .boolean), (cy 3, .char), (cy 4, .long), (cy 5, .object RX1), (cy 6, .object RX8), (cy 7, .object RX9)]
def mm_gw : List Cond := lw_tbl.filter goodWord
/-- words that last, though they are no good ones -/
def mm_nq : Cond → Bool
  | .fieldLinkNest .. => true
  | .methodLinkNest .. => true
  | .declares _ => true
  | .castable .. => true
  | _ => false
theorem mm_nq_on {w : Cond} (h : mm_nq w = true) : w.onTables = true := by
  cases w <;> first | rfl | cases h
theorem mm_nq_warm {w : Cond} {s U : State} (hq : mm_nq w = true) (hW : s.WarmedH U.vm) (h : va_Nw w s) : va_Nw w U := by
  cases w with
  | fieldLinkNest a i b n d h => exact va_Nw.warmF hW ‹_›
  | methodLinkNest a i x h => exact va_Nw.warmM hW ‹_›
  | declares x => exact va_tabs rfl (rfl : (s.setVm U.vm).vm = U.vm) (Cond.before_shiftedFace (State.Shifted.of_warmed hW) (.declares x) rfl h)
  | castable a b => exact va_tabs rfl (rfl : (s.setVm U.vm).vm = U.vm) (Cond.before_shiftedFace (State.Shifted.of_warmed hW) (.castable a b) rfl h)
  | _ => cases hq
/-- the exceptions' classes, by number -/
def mm_ex : Nat → String
  | 1 => "java/util/NoSuchElementException"
  | 2 => "java/lang/IllegalArgumentException"
  | _ => "java/lang/IllegalStateException"
/-- what the tables and the cells that were there say, at a state U with the heap H -/
def mm_S (D : va_G) (cy : Nat → ClassId) (bs : Nat) (sk sv : Nat) (U : State) (H : Heap) : Prop :=
  va_K D vwCl (mm_tys cy) U ∧ (∀ w ∈ lw_tbl, mm_nq w = true → va_Nw w U) ∧
  vx_Zq Bundle.tN "UNASSIGNED_STACK" Bundle.steD (fun q => bs ≤ q) U H ∧ vx_Zq Bundle.tN "SUPPRESSED_SENTINEL" Bundle.listD (fun q => bs ≤ q) U H ∧
  (∀ (o tx : String) (i : Nat), Cond.stringRef o i tx ∈ lw_tbl → ∃ a, vk_R o i tx a U) ∧
  (va_AO RX1 U ∧ va_AO RX8 U ∧ va_AO RX9 U) ∧
  (∀ i j, i < 4 → j < 4 → 0 < i → 0 < j → i ≠ j → va_Nc (mm_ex i) (mm_ex j) U) ∧
  (vk_R RX4 44 "ONNECT " sk U ∧ vk_S 1 [7] [[79, 78, 78, 69, 67, 84, 32]] (fun _ => sk) (fun _ => sv) (fun q => bs ≤ q) U H ∧ va_Z "java/lang/String" "COMPACT_STRINGS" "Z" (.int 1) (fun q => bs ≤ q) U H ∧ va_Zq "jdk/internal/util/Preconditions" "SIOOBE_FORMATTER" "Ljava/util/function/BiFunction;" (fun q => bs ≤ q) U H)
theorem mm_S.moved {D : va_G} {cy : Nat → ClassId} {bs sk sv : Nat} {s U : State} {H0 H : Heap} {locs : List Loc} (h : mm_S D cy bs sk sv s H0) (hW : s.WarmedH U.vm) (hS : va_S (fun q => bs ≤ q) H0 H locs) : mm_S D cy bs sk sv U H := by
  obtain ⟨h1, h2, h3, h4, h5, ⟨h6, h7, h8⟩, h9, h10, h11, h12, h13⟩ := h
  have hk : ∀ a : Nat, a < H0.size → ¬ bs ≤ a → H[a]? = H0[a]? := fun a q1 q2 => hS.2.1 a q1 q2
  exact ⟨va_K.moved hW.alike h1, fun w hw hq => mm_nq_warm hq hW (h2 w hw hq), (h3.moved hW.alike).kept hk, (h4.moved hW.alike).kept hk,
    fun o tx i hm => (h5 o tx i hm).imp fun a ha => ha.warm hW, ⟨h6.moved hW.alike, h7.moved hW.alike, h8.moved hW.alike⟩, fun i j a b c d e => (h9 i j a b c d e).moved hW.alike,
    h10.warm hW, (h11.moved hW.alike).kept hk, (va_Z.moved hW.alike h12).kept hk, (va_Zq.moved hW.alike h13).kept hk⟩
/-- .. with other frames -/
theorem mm_S.frames {D : va_G} {cy : Nat → ClassId} {bs sk sv : Nat} {s U : State} {H : Heap} (h : mm_S D cy bs sk sv s H) (hv : U.vm = s.vm) : mm_S D cy bs sk sv U H := by
  have hal : s.vm.Alike U.vm := by rw [hv]; exact Vm.Alike.refl _
  obtain ⟨h1, h2, h3, h4, h5, ⟨h6, h7, h8⟩, h9, h10, h11, h12, h13⟩ := h
  exact ⟨va_K.moved hal h1, fun w hw hq => va_Nw.same (mm_nq_on hq) hv.symm (h2 w hw hq), h3.moved hal, h4.moved hal,
    fun o tx i hm => (h5 o tx i hm).imp fun a ha => ha.same hv, ⟨h6.moved hal, h7.moved hal, h8.moved hal⟩, fun i j a b c d e => (h9 i j a b c d e).moved hal,
    h10.same hv, h11.moved hal, va_Z.moved hal h12, va_Zq.moved hal h13⟩
/-- a method: its class, code, number of locals, answer, name, table, and what else is known at its entry -/
abbrev mm_I : Type := String × ByteArray × Nat × Option FieldType × String × List ExceptionTableEntry × (State → (Nat → Nat) → Nat → Prop)
/-- an invocation of it -/
def mm_Cx (mi : mm_I) (p : Program) (l : Launch) (R : Room) (s : State) (m : MethodId) (args : Array Value) (meth : Method) (c : Code) (D : va_G) (cy : Nat → ClassId) (r : Nat → Nat) (bs sk sv d cM sM : Nat) : Prop :=
  p.tables.exec = Jvm.exec ∧ c.code = mi.2.1 ∧ c.maxLocals = mi.2.2.1 ∧ meth.sig.returnType = mi.2.2.2.1 ∧ meth.locks = false ∧ s.vm.findClass mi.1 = some m.cls ∧ meth.name = mi.2.2.2.2.1 ∧ c.exceptionTable.toList = mi.2.2.2.2.2.1 ∧ mi.2.2.2.2.2.2 s r bs ∧ (∀ i, i < 100000 → r i = bs + i) ∧ (r 200000 = sk ∧ r 200001 = sv) ∧
  (∀ w ∈ mm_gw, w.before args s = true) ∧ mm_S D cy bs sk sv s s.heap ∧ bs ≤ s.heap.size ∧ l.stackTraces = false ∧ d + 1 ≤ R.frames ∧ 30 * (d + 1) ≤ R.locals ∧ cM ≤ R.cells ∧ sM ≤ R.slots
/-- from this place on the machine comes to its end; c0, s0: how much had been made at the entry; res: the end -/
def mm_G (mi : mm_I) (p : Program) (l : Launch) (e : Env) (R : Room) (s : State) (m : MethodId) (args : Array Value) (below : List Frame) (meth : Method) (c : Code) (D : va_G) (cy : Nat → ClassId) (r : Nat → Nat) (bs c0 s0 : Nat) (Q : State → Prop) (res : mm_R) (pc : Nat) (lv : mm_L) (st : List Value) (u : mm_M) : Prop :=
  (mm_cc u ≤ mm_cc res.2 ∧ mm_ss u ≤ mm_ss res.2) ∧ ∀ (H : Heap) (locs : List Loc) (ls : Array Slot), mm_W D cy r bs u H → va_S (fun q => bs ≤ q) s.heap H locs → lv_has ls mi.2.2.1 (mvl r lv) → c0 ≤ mm_cc u → s0 ≤ mm_ss u → s.heap.size ≤ bs + c0 →
    W p l e R s m args below meth c H locs (mm_cc u - c0) (mm_ss u - s0) Q (F0 m pc ls (st.map (mv r)))
end MMB
