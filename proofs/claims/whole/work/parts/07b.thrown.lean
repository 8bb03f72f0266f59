/-! own rows: 'throw new X("text")' where X's constructor names its super's by another entry than #7 (NoSuchElementException: #13) -/
section MXB
variable {p : Program} {l : Launch} {e : Env} {R : Room} {s : State} {m : MethodId} {args : Array Value} {below : List Frame} {meth : Method} {c : Code} {locs : List Loc} {cells slots : Nat}
abbrev mx_rt : String := "java/lang/RuntimeException"
/-- the words: Throwable's, the chain's above X, X's own constructor, X's fields -/
def mx_w (own : String) (ic : Nat) (X : String) (i1 : Nat) (by1 : ByteArray) : List Cond :=
  Bundle.throwableAtoms ++ Bundle.throwableSAtoms ++ Bundle.chainSAtoms mx_rt ["java/lang/Exception"] ++ Bundle.passSAtoms X mx_rt i1 by1 ++
  [.methodLink own ic (Bundle.initS X), .instantiable X 6, .selects X Bundle.tFill0 Bundle.tFill0, .selects X Bundle.tFill Bundle.tFill,
   .lays X Bundle.tN "cause" "Ljava/lang/Throwable;", .lays X Bundle.tN "stackTrace" Bundle.steD, .lays X Bundle.tN "suppressedExceptions" Bundle.listD, .lays X Bundle.tN "detailMessage" "Ljava/lang/String;",
   .isRef (.static Bundle.tN "UNASSIGNED_STACK" Bundle.steD), .isRef (.static Bundle.tN "SUPPRESSED_SENTINEL" Bundle.listD),
   .fieldLink Bundle.tN 198 Bundle.tN "backtrace" "Ljava/lang/Object;", .lays Bundle.tN Bundle.tN "backtrace" "Ljava/lang/Object;", .lays X Bundle.tN "backtrace" "Ljava/lang/Object;"]
set_option maxHeartbeats 1000000 in
theorem mx_ctor {W : State} (X : Stand p l e R s m args below meth c W locs cells slots) (hexec : p.tables.exec = Jvm.exec) (htr : e.platform.stackTraces = false) {own cls : String} {ic i1 : Nat} {by1 : ByteArray} (hown : s.vm.findClass own = some m.cls) (hcls : Bundle.fit cls = true)
    (q0 : decode by1 0 = .ok (.aload_n 0, 1)) (q1 : decode by1 1 = .ok (.aload_n 1, 1)) (q2 : decode by1 2 = .ok (.invokespecial i1, 3)) (q5 : decode by1 5 = .ok (.return_, 1))
    (h : ∀ w ∈ mx_w own ic cls i1 by1, w.before args s = true) (hlocs : ∀ x ∈ locs, ∀ cell, s.heap[x.base]? = some cell → cell.vm.isStatics = false)
    {a : Addr} {cX : ClassId} {kX : Class} (hfX : s.vm.findClass cls = some cX) (hkX : s.vm.classes[cX]? = some kX) (hcell : W.heap[a]? = some (freshCell cX kX)) (hnew : s.heap.size ≤ a) {msg : Value} (hmsg : msg.isRef = true)
    {g : JFrame} (hg : g.method = m) (hsize : g.locals.size = c.maxLocals) (hlocked : g.locked = none) (hentered : g.entered = []) {rest : List Value} (hstack : g.stack = msg :: .ref a :: .ref a :: rest)
    (hd6 : decode c.code g.pc = .ok (.invokespecial ic, 3)) (hd9 : decode c.code (g.pc + 3) = .ok (.athrow, 1)) (hout : ∀ x ∈ c.exceptionTable.toList, covers x (g.pc + 3) = false)
    (hRf : 5 < R.frames) (hRl : 2 * g.monitorRoom + ((Value.ref a :: rest).map fun v => v.category).sum + 81 ≤ R.locals) (hlocks : meth.locks = false) :
    ∃ U : State, Steps p.tables e below (W.setTop g) U ∧ U.status = .running ∧ Ended U below (.threw a) ∧ s.WarmedH U.vm ∧ s.sameButNew ({ U with vm := s.vm } : State) locs cells slots ∧ ∃ ce, U.heap[a]? = some ce ∧ ce.vm = .none ∧ s.vm.findClass cls = some ce.cls := by
  have hpl : e.platform.magicAccessors = ({} : Platform).magicAccessors := by rw [X.admits.platform]
  have hw : ∀ w, w ∈ mx_w own ic cls i1 by1 → w.holds args s none s [] = true := fun w hx => h w hx
  -- the chain of constructors
  obtain ⟨T, Z0, L, -, Y⟩ := ThrowableC.of_atoms (args := args) (by rw [X.admits.platform]) (by rw [X.admits.platform]) hpl (fun x hx => h x (by simp [mx_w, hx]))
  obtain ⟨Z, M, LZ, LM, hnZ⟩ := Init0T.ofS_atoms (args := args) hpl L Y (fun x hx => h x (by simp [mx_w, hx]))
  obtain ⟨P1, L1, hP1m, hP1s⟩ := PassC.ofS_atoms (args := args) (s := s) hpl (X := cls) (Y := mx_rt) (Bundle.fit_spec hcls).1 (by decide) q0 q1 q2 q5 (fun x hx => h x (by simp [mx_w, hx]))
  obtain ⟨P2, Ps, hlen, L2, hL, hP2m, hsup2, hpass⟩ := Bundle.chainS (args := args) hpl hnZ ["java/lang/Exception"] mx_rt (by decide +kernel) (by decide +kernel) (fun x hx => h x (by simp [mx_w, hx]))
  have hsup1 : P1.sup = P2.m := Option.some.inj (hP1s.symm.trans hP2m)
  have hcm : s.vm.findClass cls = some P1.m.cls := findClass_of_methodNamed hP1m
  cases Option.some.inj (hfX.symm.trans hcm)
  obtain ⟨c1, kY, hc1, hk, hord, -, -, hn6⟩ := Cond.instantiable_spec (hw (.instantiable cls 6) (by simp [mx_w]))
  cases Option.some.inj (hc1.symm.trans hcm)
  cases Option.some.inj (hkX.symm.trans hk)
  -- which methods are selected
  have hsel0 : selectMethod e.platform s.vm P1.m.cls T.fill0 = .method T.fill0 := by
    obtain ⟨_, _, _, z1, z2, z3, z4, -⟩ := Cond.selects_spec (hw (.selects cls Bundle.tFill0 Bundle.tFill0) (by simp [mx_w]))
    cases Option.some.inj (z1.symm.trans hcm)
    cases Option.some.inj (z2.symm.trans (State.methodFound?_of_named Y.fill0 (by decide)))
    cases Option.some.inj (z3.symm.trans Y.fill0)
    rw [Launch.admits_selectMethod X.admits]; exact z4
  have hselF : selectMethod e.platform s.vm P1.m.cls T.fill = .method T.fill := by
    obtain ⟨_, _, _, z1, z2, z3, z4, -⟩ := Cond.selects_spec (hw (.selects cls Bundle.tFill Bundle.tFill) (by simp [mx_w]))
    cases Option.some.inj (z1.symm.trans hcm)
    cases Option.some.inj (z2.symm.trans (State.methodFound?_of_named Y.fill (by decide)))
    cases Option.some.inj (z3.symm.trans Y.fill)
    rw [Launch.admits_selectMethod X.admits]; exact z4
  -- Throwable's statics, unwritten
  obtain ⟨cellS0, hcS0, hiss⟩ := Y.statics
  obtain ⟨u0, hu0⟩ := Cond.staticRefV Y.unassigned L.unassignedStatic L.statics hcS0 hiss (hw (.isRef (.static Bundle.tN "UNASSIGNED_STACK" Bundle.steD)) (by simp [mx_w]))
  obtain ⟨sen, hsen⟩ := Cond.staticRefV Y.sentinel L.sentinelStatic L.statics hcS0 hiss (hw (.isRef (.static Bundle.tN "SUPPRESSED_SENTINEL" Bundle.listD)) (by simp [mx_w]))
  obtain ⟨cellS, hcellS, heS, -, hkeep⟩ := X.same.2.2.2.2.2 T.aS cellS0 hcS0
  have hoff : ∀ i, (⟨T.aS, i⟩ : Loc) ∉ locs := fun i hm => by
    have z := hlocs _ hm cellS0 hcS0
    rw [hiss] at z; cases z
  have hknS : cellS.vm ≠ .unknown := by
    rw [heS]; intro z
    rw [show cellS0.vm = .unknown from z] at hiss
    cases hiss
  have hneS : T.aS ≠ a := Nat.ne_of_lt (Nat.lt_of_lt_of_le (Array.getElem?_eq_some_iff.mp hcS0).1 hnew)
  -- the fields of X
  obtain ⟨iM, hffM⟩ := Y.msg
  obtain ⟨ci8, i8, fB, hk8, hg8, ha8, hsB, -, hnB, htB, hffB⟩ := Cond.ownField (t := .object "java/lang/Object") Y.found L.cls (by decide +kernel) (hw (.fieldLink Bundle.tN 198 Bundle.tN "backtrace" "Ljava/lang/Object;") (by simp [mx_w])) (hw (.lays Bundle.tN Bundle.tN "backtrace" "Ljava/lang/Object;") (by simp [mx_w])) e.platform hpl
  obtain ⟨tyC, _, hdC, hdnC⟩ := Cond.laysAt hcm hk Y.cause (hw (.lays cls Bundle.tN "cause" "Ljava/lang/Throwable;") (by simp [mx_w]))
  obtain ⟨tyS, _, hdS, hdnS⟩ := Cond.laysAt hcm hk Y.stack (hw (.lays cls Bundle.tN "stackTrace" Bundle.steD) (by simp [mx_w]))
  obtain ⟨tyP, _, hdP, hdnP⟩ := Cond.laysAt hcm hk Y.supp (hw (.lays cls Bundle.tN "suppressedExceptions" Bundle.listD) (by simp [mx_w]))
  obtain ⟨tyM, _, -, -⟩ := Cond.laysAt hcm hk hffM (hw (.lays cls Bundle.tN "detailMessage" "Ljava/lang/String;") (by simp [mx_w]))
  obtain ⟨tyB, _, hdB, hdnB⟩ := Cond.laysAt hcm hk hffB (hw (.lays cls Bundle.tN "backtrace" "Ljava/lang/Object;") (by simp [mx_w]))
  have b1 := Cond.laysApart hdB hdC hdnB hdnC (by rw [hnB, Y.causeName]; decide)
  have b2 := Cond.laysApart hdB hdS hdnB hdnS (by rw [hnB, Y.stackName]; decide)
  have b3 := Cond.laysApart hdB hdP hdnB hdnP (by rw [hnB, Y.suppName]; decide)
  have hskip : SkipFacts T e.platform s (fun u => u) u0 ((preparedCellV T.toThrowableT (freshCell P1.m.cls kX) a u0 sen).withEntry W.cur) :=
    ⟨{ ci198 := ci8, i198 := i8, fBack := fB }, ⟨hk8, hg8, ha8, hsB⟩, by
      have z := fresh_default (c := P1.m.cls) tyB
      rw [htB] at z
      simpa [preparedCellV, Cell.setSlot, Cell.withEntry, Array.getElem?_setIfInBounds, b1, b2, b3, b1.symm, b2.symm, b3.symm, defaultValue] using z, fun _ _ => rfl⟩
  -- the walk: the link, the constructors, athrow
  obtain ⟨tm, _, _, _, vm₁, hnC, -, -, -, -, -, -, -, hW₁, st1⟩ := Steps.initColdS (tb := p.tables) (e := e) (below := below) (s := s) (U := W) X.here hexec X.warmed hpl hown (t := Bundle.initS cls) rfl rfl (Bundle.fit_spec hcls).2
    (hw (.methodLink own ic (Bundle.initS cls)) (by simp [mx_w])) (h (.instanceMethod (Bundle.initS cls)) (by simp [mx_w, Bundle.passSAtoms])) (bytes := by1) (maxL := 2) (h (.code (Bundle.initS cls) by1 2 none) (by simp [mx_w, Bundle.passSAtoms]))
    (f := g) hg (a := a) (msg := msg) (rest := .ref a :: rest) hstack hd6
  cases Option.some.inj (hnC.symm.trans hP1m)
  obtain ⟨vm₂, X₂, st2⟩ := (X.noted hW₁).ctorMessageOffV hexec (g := { g with stack := .ref a :: rest }) hg hsize T L Z LZ M LM (P1 :: P2 :: Ps)
    (fun P hP => by
      rcases List.mem_cons.mp hP with rfl | hP
      · exact L1
      · rcases List.mem_cons.mp hP with rfl | hP
        · exact L2
        · exact hL P hP) ⟨hsup1, hsup2, hpass⟩ (u0 := u0) (sen := sen) (self := a) hmsg (cell := freshCell P1.m.cls kX) (cellS := cellS)
    hcell (fun _ => by simp) (by simp) rfl rfl hsel0 hselF hcellS hneS hknS (by rw [hkeep _ (hoff _)]; exact hu0) (by rw [hkeep _ (hoff _)]; exact hsen)
    (Takes.of_laid hk hord tyC (by rw [Y.causeType]; rfl)) (Takes.of_laid hk hord tyS (by rw [Y.stackType]; exact fits_refV_array _ u0)) (Takes.of_laid hk hord tyP (by rw [Y.suppType]; exact fits_refV_object _ sen))
    (Takes.of_laid hk hord tyM (by rw [Y.msgType]; exact fits_refV_object _ ⟨msg, hmsg⟩)) Y.objLocals hskip htr [] hd6
    (by simp only [List.length_cons, hlen]; exact hRf) (by simp only [List.length_cons, hlen]; exact hRl)
  obtain ⟨hwalk, hrun, hended, hWU, hsame⟩ := X₂.athrowLeaves hexec (g := { g with stack := .ref a :: rest, pc := g.pc + 3 }) hg hlocked hentered hout (a := a) (rest := rest) rfl hd9 hlocks
  have hlt : a < ((W.setVm vm₁).setVm vm₂).heap.size := (Array.getElem?_eq_some_iff.mp hcell).1
  refine ⟨_, st1 _ (fun acts => by rw [doInvoke_state]; exact st2 _ hwalk), hrun, hended, hWU, hsame.weaken (fun y hy hlt9 => ?_) (Nat.le_refl _) (Nat.le_refl _), _, heapAt_setCell_self (s := (W.setVm vm₁).setVm vm₂) (plainBareV T.toThrowableT (freshCell P1.m.cls kX) a u0 sen msg) hlt, rfl, hcm⟩
  rcases List.mem_append.mp hy with z | z
  · exact z
  · exfalso
    have hb : y.base = a := by
      simp only [List.mem_cons, List.not_mem_nil, or_false] at z
      rcases z with rfl | rfl | rfl | rfl | rfl <;> rfl
    rw [hb] at hlt9
    exact Nat.not_lt.mpr hnew hlt9
set_option maxHeartbeats 1000000 in
/-- new; dup; ldc; invokespecial; athrow -/
theorem mx_throw {Qc : Array Value → State → Outcome → State → Prop} {XC : String → State → State → Prop} {free : Addr → Prop} {H : Heap} {ls : Array Slot} {rest : List Value} {cc by1 : ByteArray} {pc ik is ic i1 mc ms sa : Nat} (hexec : p.tables.exec = Jvm.exec) (hb : c.code = cc) (hl : l.stackTraces = false) {own cls text : String} {A : Nat → Prop} (hown : s.vm.findClass own = some m.cls) (hcls : Bundle.fit cls = true)
    (q0 : decode by1 0 = .ok (.aload_n 0, 1)) (q1 : decode by1 1 = .ok (.aload_n 1, 1)) (q2 : decode by1 2 = .ok (.invokespecial i1, 3)) (q5 : decode by1 5 = .ok (.return_, 1))
    (hk : (Cond.classLink own ik cls).before args s = true) (hini : (Cond.initialized cls).before args s = true) (hstr : vk_R own is text sa s) (hat : ∀ w ∈ (mx_w own ic cls i1 by1).filter vx_no, w.before args s = true) (hgood : ∀ w ∈ (mx_w own ic cls i1 by1).filter vx_no, vx_ot w = true)
    (hU : vx_Zq Bundle.tN "UNASSIGNED_STACK" Bundle.steD A s s.heap) (hN : vx_Zq Bundle.tN "SUPPRESSED_SENTINEL" Bundle.listD A s s.heap) (hS : va_S A s.heap H locs) (hsize : ls.size = c.maxLocals)
    (d0 : decode cc pc = .ok (.new ik, 3)) (d3 : decode cc (pc + 3) = .ok (.dup, 1)) (d4 : decode cc (pc + 4) = .ok (.ldc is, 2)) (d6 : decode cc (pc + 6) = .ok (.invokespecial ic, 3)) (d9 : decode cc (pc + 9) = .ok (.athrow, 1)) (hout : ∀ x ∈ c.exceptionTable.toList, covers x (pc + 9) = false)
    (hRf : 5 < R.frames) (hRl : (rest.map fun v => v.category).sum + 82 ≤ R.locals) (hRc : cells + 1 ≤ R.cells) (hRs : slots + 6 ≤ R.slots) (hlocks : meth.locks = false)
    (hx : ∀ t : State, s.vm.Alike t.vm → H.size ≤ t.heap.size → (∀ q : Nat, q < H.size → t.heap[q]? = H[q]?) → XC cls s t) (hf : ∀ z ∈ locs, free z.base) (hc : cells + 1 ≤ mc) (hs : slots + 6 ≤ ms) :
    W p l e R s m args below meth c H locs cells slots (vx_MQ below Qc XC args s mc ms free) (F0 m pc ls rest) := by
  intro T hT X
  have htr : e.platform.stackTraces = false := (show e.platform.stackTraces = l.stackTraces by rw [X.admits.platform]).trans hl
  -- seen from here, as if the method had just been called: nothing written, nothing made
  have Y := vx_rebase X (R' := { frames := R.frames, locals := R.locals, cells := 1, slots := 6 }) (Nat.le_refl _) (Nat.le_refl _) hRc hRs
  generalize hz : (T.setVm s.vm).setFrames (.invoking m args :: below) = z at Y
  have zv : z.vm = s.vm := by rw [← hz]; rfl
  have zh : z.heap = H := by rw [← hz]; exact hT
  have zW : s.WarmedH z.vm := by rw [zv]; exact State.WarmedH.refl s
  have zU : vx_Zq Bundle.tN "UNASSIGNED_STACK" Bundle.steD A z z.heap := by rw [zh]; exact (hU.kept hS.2.1).moved zW.alike
  have zN : vx_Zq Bundle.tN "SUPPRESSED_SENTINEL" Bundle.listD A z z.heap := by rw [zh]; exact (hN.kept hS.2.1).moved zW.alike
  have zw : ∀ w ∈ mx_w own ic cls i1 by1, w.before args z = true := vx_own (fun w hw => vx_ot_at zW zv.symm (hgood w hw) (hat w hw)) (vx_isRefq zU.1) (vx_isRefq zN.1) zU.2.word zN.2.word
  have zo : z.vm.findClass own = some m.cls := by rw [zv]; exact hown
  obtain ⟨vm₁, cX, kX, fX, gX, -, -, X₁, st1⟩ := Y.newCold hexec (own := own) (C := cls) (index := ik) (n := 6) zo (vx_ot_at (w := .classLink own ik cls) zW zv.symm rfl hk) (zw _ (by simp [mx_w])) (vx_ot_at (w := .initialized cls) zW zv.symm rfl hini) (g := F0 m pc ls rest) rfl (by rw [hb]; exact d0) (Nat.le_refl _) (Nat.le_refl _)
  generalize hT1 : (T.setVm vm₁).pushCell { cls := cX, slots := kX.instanceTypes.map defaultValue, vm := .none } = T1 at X₁ st1
  have hA : T1.heap[T.heap.size]? = some (freshCell cX kX) := by rw [← hT1]; exact State.heap_pushCell_size _ _
  have hc1 : (Value.ref T.heap.size).category = 1 := rfl
  obtain ⟨U, w1, w2, w3, w4, w5, ce, w6, w7, w8⟩ := mx_ctor X₁ hexec htr (own := own) (cls := cls) (ic := ic) zo hcls q0 q1 q2 q5 zw (fun x hx => nomatch hx) fX gX hA (by rw [zh, hT]; exact Nat.le_refl _) (msg := .ref sa) rfl
    (g := { method := m, pc := pc + 6, locals := ls, stack := .ref sa :: .ref T.heap.size :: .ref T.heap.size :: rest, locked := none }) rfl hsize rfl rfl (rest := rest) rfl (by rw [hb]; exact d6) (by rw [hb]; exact d9) hout hRf (by simp only [List.map_cons, List.sum_cons, hc1]; omega) hlocks
  obtain ⟨k1, k2⟩ := vx_frame w5
  rw [zh] at k1 k2
  have sW : s.WarmedH U.vm := State.WarmedH.trans zW w4
  have sN : s.sameButNew ({ U with vm := s.vm } : State) locs mc ms := by
    subst hz
    obtain ⟨e1, e2⟩ := w5
    rw [State.setFrames_setFrames] at e1
    have g1 : (T.setVm s.vm).sameButNew ({ U with vm := s.vm } : State) [] (0 + 1) (0 + 6) := ⟨e1, e2⟩
    have g2 := X.same.trans g1
    rw [List.append_nil] at g2
    exact g2.mono hc hs
  refine ⟨U, st1 _ ?_, .threw T.heap.size, w2, w3, Or.inr ⟨T.heap.size, rfl, cls, ce, locs, hx U sW.alike k1 (fun q hq => k2 q hq (fun _ hz => nomatch hz)), w6, w7, by rw [zv] at w8; exact w8, sW, sN, hf⟩⟩
  have d3' : decode c.code (pc + 3) = .ok (.dup, 1) := by rw [hb]; exact d3
  have d4' : decode c.code (pc + 4) = .ok (.ldc is, 2) := by rw [hb]; exact d4
  have hstr' : vk_R own is text sa z := hstr.warm zW
  show Steps p.tables e below (T1.setTop { method := m, pc := pc + 3, locals := ls, stack := .ref T.heap.size :: rest, locked := none }) _
  jvm_step X₁.here [X₁.here.top, hexec, d3', Value.category]
  exact X₁.ldcString hexec (own := own) (text := text) (index := is) (a := sa) zo hstr'.1 hstr'.2 (g := { method := m, pc := pc + 4, locals := ls, stack := .ref T.heap.size :: .ref T.heap.size :: rest, locked := none }) rfl d4' _ w1
end MXB
