/-! what it is for an op to be sound -/
section MMC
def mm_Rm (d cM sM : Nat) : Room := { frames := d, cells := cM, slots := sM, locals := 30 * d }
def mm_Pc (D : va_G) (cy : Nat → ClassId) (r : Nat → Nat) (bs sk sv : Nat) (as : List Value) (u : mm_M) : Array Value → State → Prop := fun v U => v = (as.map (mv r)).toArray ∧ mm_W D cy r bs u U.heap ∧ mm_S D cy bs sk sv U U.heap ∧ bs ≤ U.heap.size ∧ U.heap.size ≤ bs + mm_cc u
def mm_Qc (D : va_G) (cy : Nat → ClassId) (r : Nat → Nat) (bs : Nat) (res : mm_R) : Array Value → State → Outcome → State → Prop := fun _ st o t => (∃ v, res.1 = .inl v ∧ o = .returned (v.map (mv r))) ∧ mm_W D cy r bs res.2 t.heap ∧ va_F (fun q => bs ≤ q) st t
def mm_XC (D : va_G) (cy : Nat → ClassId) (r : Nat → Nat) (bs : Nat) (res : mm_R) : String → State → State → Prop := fun E st t => (∃ x, res.1 = .inr x ∧ E = mm_ex x) ∧ mm_W D cy r bs res.2 t.heap ∧ va_F (fun q => bs ≤ q) st t
/-- the callees keep their contracts -/
def mm_SF (l : Launch) (F : mm_F) : Prop := ∀ (k : Nat) (as : List Value) (u : mm_M) (res : mm_R), F.2 k as u = some res → (mm_cc u ≤ mm_cc res.2 ∧ mm_ss u ≤ mm_ss res.2) ∧
  ∀ (D : va_G) (cy : Nat → ClassId) (r : Nat → Nat) (bs sk sv : Nat), (∀ i, i < 100000 → r i = bs + i) → (r 200000 = sk ∧ r 200001 = sv) →
    vx_Met l (mm_yh k).1 ((mm_yh k).2 :: mm_gw) (mm_Rm F.1 (mm_cc res.2 - mm_cc u) (mm_ss res.2 - mm_ss u)) (mm_Pc D cy r bs sk sv as u) (mm_Qc D cy r bs res) (mm_XC D cy r bs res) (mm_cc res.2 - mm_cc u) (mm_ss res.2 - mm_ss u) (fun q => bs ≤ q)
/-- 'throw new E("text")' stands at pc -/
def mm_Th (mi : mm_I) (pc x : Nat) : Prop := ∃ (ik is ic : Nat) (text : String), mi.2.2.2.2.2.1 = [] ∧ decode mi.2.1 pc = .ok (.new ik, 3) ∧ decode mi.2.1 (pc + 3) = .ok (.dup, 1) ∧ decode mi.2.1 (pc + 4) = .ok (.ldc is, 2) ∧ decode mi.2.1 (pc + 6) = .ok (.invokespecial ic, 3) ∧ decode mi.2.1 (pc + 9) = .ok (.athrow, 1) ∧
  Bundle.fit (mm_ex x) = true ∧ Cond.classLink mi.1 ik (mm_ex x) ∈ mm_gw ∧ Cond.initialized (mm_ex x) ∈ mm_gw ∧ Cond.stringRef mi.1 is text ∈ lw_tbl ∧ ((∀ w ∈ vx_atS mi.1 ic (mm_ex x) ["java/lang/RuntimeException", "java/lang/Exception"], w ∈ lw_tbl ∧ vx_ot w = true ∧ (goodWord w = true ∨ mm_nq w = true)) ∨
   ∃ (i1 : Nat) (by1 : ByteArray), decode by1 0 = .ok (.aload_n 0, 1) ∧ decode by1 1 = .ok (.aload_n 1, 1) ∧ decode by1 2 = .ok (.invokespecial i1, 3) ∧ decode by1 5 = .ok (.return_, 1) ∧ ∀ w ∈ (mx_w mi.1 ic (mm_ex x) i1 by1).filter vx_no, w ∈ lw_tbl ∧ vx_ot w = true ∧ (goodWord w = true ∨ mm_nq w = true))
/-- the ends -/
def mm_SE (mi : mm_I) (p : Program) (l : Launch) (e : Env) (R : Room) (s : State) (m : MethodId) (args : Array Value) (below : List Frame) (meth : Method) (c : Code) (D : va_G) (cy : Nat → ClassId) (r : Nat → Nat) (bs c0 s0 d : Nat) (Q : State → Prop) (res : mm_R) : Prop :=
  (∀ (pc : Nat) (ls : Array Slot) (H : Heap) (locs : List Loc) (v : Int32), res.1 = .inl (some (.int v)) → (∃ ty, mi.2.2.2.1 = some ty ∧ narrow ty (.int v) = .int v) → decode mi.2.1 pc = .ok (.ireturn, 1) → mm_W D cy r bs res.2 H → va_S (fun q => bs ≤ q) s.heap H locs → W p l e R s m args below meth c H locs (mm_cc res.2 - c0) (mm_ss res.2 - s0) Q (F0 m pc ls [.int v])) ∧
  (∀ (pc : Nat) (ls : Array Slot) (H : Heap) (locs : List Loc) (v : Int64), res.1 = .inl (some (.long v)) → mi.2.2.2.1 = some .long → decode mi.2.1 pc = .ok (.lreturn, 1) → mm_W D cy r bs res.2 H → va_S (fun q => bs ≤ q) s.heap H locs → W p l e R s m args below meth c H locs (mm_cc res.2 - c0) (mm_ss res.2 - s0) Q (F0 m pc ls [.long v])) ∧
  (∀ (pc : Nat) (ls : Array Slot) (H : Heap) (locs : List Loc) (v : UInt32), res.1 = .inl (some (.float v)) → mi.2.2.2.1 = some .float → decode mi.2.1 pc = .ok (.freturn, 1) → mm_W D cy r bs res.2 H → va_S (fun q => bs ≤ q) s.heap H locs → W p l e R s m args below meth c H locs (mm_cc res.2 - c0) (mm_ss res.2 - s0) Q (F0 m pc ls [.float v])) ∧
  (∀ (pc : Nat) (ls : Array Slot) (H : Heap) (locs : List Loc) (v : Nat), res.1 = .inl (some (.ref v)) → (∃ C, mi.2.2.2.1 = some (.object C)) → decode mi.2.1 pc = .ok (.areturn, 1) → mm_W D cy r bs res.2 H → va_S (fun q => bs ≤ q) s.heap H locs → W p l e R s m args below meth c H locs (mm_cc res.2 - c0) (mm_ss res.2 - s0) Q (F0 m pc ls [.ref (r v)])) ∧
  (∀ (pc : Nat) (ls : Array Slot) (H : Heap) (locs : List Loc), res.1 = .inl none → mi.2.2.2.1 = none → decode mi.2.1 pc = .ok (.return_, 1) → mm_W D cy r bs res.2 H → va_S (fun q => bs ≤ q) s.heap H locs → W p l e R s m args below meth c H locs (mm_cc res.2 - c0) (mm_ss res.2 - s0) Q (F0 m pc ls [])) ∧
  (∀ (pc : Nat) (ls : Array Slot) (H : Heap) (locs : List Loc) (rest : List Value) (q : Addr) (ce : Cell) (x : Nat), res.1 = .inr x → mi.2.2.2.2.2.1 = [] → mm_W D cy r bs res.2 H → va_S (fun q => bs ≤ q) s.heap H locs → H[q]? = some ce → ce.vm = .none → s.vm.findClass (mm_ex x) = some ce.cls → vx_W p l e R s m args below meth c H locs (mm_cc res.2 - c0) (mm_ss res.2 - s0) Q (F0 m pc ls rest) q) ∧
  (∀ (pc : Nat) (ls : Array Slot) (H : Heap) (locs : List Loc) (u : mm_M) (x : Nat), res = (.inr x, mm_th u) → mm_Th mi pc x → 5 ≤ d → ls.size = mi.2.2.1 → mm_W D cy r bs u H → va_S (fun q => bs ≤ q) s.heap H locs → c0 ≤ mm_cc u → s0 ≤ mm_ss u → W p l e R s m args below meth c H locs (mm_cc u - c0) (mm_ss u - s0) Q (F0 m pc ls []))
def mm_Snd (mi : mm_I) (pc : Nat) (op : mm_O) : Prop := ∀ (p : Program) (l : Launch) (e : Env) (R : Room) (s : State) (m : MethodId) (args : Array Value) (below : List Frame) (meth : Method) (c : Code) (D : va_G) (cy : Nat → ClassId) (r : Nat → Nat) (bs sk sv c0 s0 : Nat) (Q : State → Prop) (res : mm_R) (K : mm_K) (F : mm_F),
  mm_Cx mi p l R s m args meth c D cy r bs sk sv F.1 (mm_cc res.2 - c0) (mm_ss res.2 - s0) → mm_SF l F → mm_SE mi p l e R s m args below meth c D cy r bs c0 s0 F.1 Q res →
  (∀ pc lv st u, K pc lv st u = some res → mm_G mi p l e R s m args below meth c D cy r bs c0 s0 Q res pc lv st u) →
  ∀ lv st u, op K F pc lv st u = some res → mm_G mi p l e R s m args below meth c D cy r bs c0 s0 Q res pc lv st u
/-- an op that goes on with the same state -/
theorem mm_same {mi : mm_I} {p : Program} {l : Launch} {e : Env} {R : Room} {s : State} {m : MethodId} {args : Array Value} {below : List Frame} {meth : Method} {c : Code} {D : va_G} {cy : Nat → ClassId} {r : Nat → Nat} {bs c0 s0 : Nat} {Q : State → Prop} {res : mm_R} {pc pc' : Nat} {lv lv' : mm_L} {st st' : List Value} {u : mm_M}
    (hK : mm_G mi p l e R s m args below meth c D cy r bs c0 s0 Q res pc' lv' st' u)
    (hstep : ∀ (H : Heap) (locs : List Loc) (cells slots : Nat) (ls : Array Slot), mm_W D cy r bs u H → va_S (fun q => bs ≤ q) s.heap H locs → lv_has ls mi.2.2.1 (mvl r lv) → (∀ ls', lv_has ls' mi.2.2.1 (mvl r lv') → W p l e R s m args below meth c H locs cells slots Q (F0 m pc' ls' (st'.map (mv r)))) → W p l e R s m args below meth c H locs cells slots Q (F0 m pc ls (st.map (mv r)))) :
    mm_G mi p l e R s m args below meth c D cy r bs c0 s0 Q res pc lv st u :=
  ⟨hK.1, fun H locs ls hW hS hl h1 h2 h3 => hstep H locs _ _ ls hW hS hl (fun ls' hl' => hK.2 H locs ls' hW hS hl' h1 h2 h3)⟩
theorem mm_ld_at {ls : Array Slot} {nL : Nat} {r : Nat → Nat} : ∀ {lv : mm_L} {i : Nat} {v : Value}, lv_has ls nL (mvl r lv) → mm_ld lv i = some v → ls[i]? = some (.val (mv r v)) := by
  intro lv
  induction lv with
  | nil => intro i v _ h; cases h
  | cons q t ih =>
    intro i v hl h
    simp only [mm_ld] at h
    cases hb : Nat.beq q.1 i with
    | true =>
      rw [hb] at h
      have e : q.1 = i := Nat.eq_of_beq_eq_true hb
      have h' : some q.2 = some v := h
      cases h'
      rw [← e]
      exact hl.2.2 (q.1, mv r q.2) (List.mem_cons_self)
    | false =>
      rw [hb] at h
      exact ih ⟨hl.1, hl.2.1, fun z hz => hl.2.2 z (List.mem_cons_of_mem _ hz)⟩ h
theorem mv_cat (r : Nat → Nat) (v : Value) : (mv r v).category = v.category := by cases v <;> rfl
theorem mm_s1_map (r : Nat → Nat) (lv : mm_L) (i : Nat) (v : Value) : mvl r (mm_s1 lv i v) = (i, mv r v) :: (mvl r lv).filter (fun q => !(q.1 == i) && !(q.1 + 1 == i && q.2.category == 2)) := by
  simp only [mvl, mm_s1, List.map_cons, List.filter_map]
  congr 3
  funext q
  simp [Function.comp, mv_cat]
theorem mm_s2_map (r : Nat → Nat) (lv : mm_L) (i : Nat) (v : Value) : mvl r (mm_s2 lv i v) = (i, mv r v) :: (mvl r lv).filter (fun q => !(q.1 == i) && (!(q.1 == i + 1) && !(q.1 + 1 == i && q.2.category == 2))) := by
  simp only [mvl, mm_s2, List.map_cons, List.filter_map]
  congr 3
  funext q
  simp [Function.comp, mv_cat]
end MMC
