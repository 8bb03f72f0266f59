/-! own rows: the search of a method's table for a thrown object, its rows' classes linked on the way -/
section MXA
/-- one row that covers the pc and names a class: it takes the object, or the search goes on behind it; either way the row's entry is noted -/
theorem mx_row {Q : Handler → Pre} {E : CtlPost} {e : Env} {d : Bool} {acts : List Action} {S : State} {f : JFrame} {a : Addr} {x : ExceptionTableEntry} {t : List ExceptionTableEntry} {k : ClassId} {cell : Cell} (hx : covers x f.pc = true) (h0 : x.catchType ≠ 0)
    (hl : S.vm.ClassLinks e.platform f.method.cls x.catchType k) (hcell : S.heap[a]? = some cell) (hobj : ∀ z, cell.vm ≠ .statics z) (hk : ∃ z, S.vm.classes[cell.cls]? = some z) (hc : ∃ z, S.vm.classes[k]? = some z) :
    wp (findHandler.go f a (x :: t)) Q E e d acts S ↔ (if S.vm.assignable cell.cls k = true then Q (.found x.handlerPc) d acts (S.setVm (S.vm.noted f.method.cls x.catchType (.cls k))) else wp (findHandler.go f a t) Q E e d acts (S.setVm (S.vm.noted f.method.cls x.catchType (.cls k)))) := by
  simp only [covers] at hx
  have hal : S.vm.Alike (S.vm.noted f.method.cls x.catchType (.cls k)) := (Vm.Alike.refl S.vm).noted _ _ _
  obtain ⟨ha, ht⟩ := (resolveClass_links e.toSetting hl).op (op := VmOp.resolveClass f.method.cls x.catchType) rfl
  obtain ⟨z1, hz1⟩ := hk
  obtain ⟨z2, hz2⟩ := hc
  obtain ⟨y1, hy1, -⟩ := hal.2.2 _ _ hz1
  obtain ⟨y2, hy2, -⟩ := hal.2.2 _ _ hz2
  have has : (S.vm.noted f.method.cls x.catchType (.cls k)).assignable cell.cls k = S.vm.assignable cell.cls k := hal.assignable ..
  by_cases q : S.vm.assignable cell.cls k = true
  · rw [if_pos q]
    simp [findHandler.go, hx, h0, ha, ht, hcell, hobj, hy1, hy2, has, q, VmOp.dirties, VmOp.acts]
  · rw [if_neg q]
    have q' : S.vm.assignable cell.cls k = false := by simpa using q
    simp [findHandler.go, hx, h0, ha, ht, hcell, hobj, hy1, hy2, has, q', VmOp.dirties, VmOp.acts]
/-- which handler the rows choose for an object of the class thrown, at a pc -/
def mx_Ch (pl : Platform) (s₀ : State) (d : ClassId) (pc : Nat) (thrown : ClassId) (hp : Nat) : List ExceptionTableEntry → Prop
  | [] => False
  | x :: t => (covers x pc = false ∧ mx_Ch pl s₀ d pc thrown hp t) ∨ (covers x pc = true ∧ x.catchType ≠ 0 ∧ ∃ k, s₀.vm.ClassLinks pl d x.catchType k ∧ ((s₀.vm.assignable thrown k = true ∧ hp = x.handlerPc) ∨ (s₀.vm.assignable thrown k = false ∧ mx_Ch pl s₀ d pc thrown hp t)))
theorem mx_search {e : Env} {s₀ : State} {f : JFrame} {a : Addr} {cell : Cell} (hobj : ∀ z, cell.vm ≠ .statics z) (hk0 : ∃ z, s₀.vm.classes[cell.cls]? = some z) {hp : Nat} :
    ∀ (rows : List ExceptionTableEntry) (S : State), s₀.WarmedH S.vm → S.heap[a]? = some cell → mx_Ch e.platform s₀ f.method.cls f.pc cell.cls hp rows →
      ∃ vm', s₀.WarmedH vm' ∧ ∀ (Q : Handler → Pre) (E : CtlPost) (d : Bool) (acts : List Action), wp (findHandler.go f a rows) Q E e d acts S ↔ Q (.found hp) d acts (S.setVm vm') := by
  obtain ⟨z0, hz0⟩ := hk0
  intro rows
  induction rows with
  | nil => intro S _ _ h; exact h.elim
  | cons x t ih =>
    intro S hW hcell h
    obtain ⟨y0, hy0, -⟩ := hW.alike.2.2 _ _ hz0
    rcases h with ⟨hc, h⟩ | ⟨hc, h0, k, hl, h⟩
    · obtain ⟨vm', g1, g2⟩ := ih S hW hcell h
      exact ⟨vm', g1, fun Q E d acts => (W.findHandler_go_skip hc).trans (g2 Q E d acts)⟩
    · obtain ⟨dk, _, _, kt, hd, _, _, _, _, hkt, _, hopen⟩ := hl.here
      obtain ⟨yt, hyt, -⟩ := hW.alike.2.2 _ _ hkt
      have hW2 : s₀.WarmedH (S.vm.noted f.method.cls x.catchType (.cls k)) := hW.noted hd hopen (State.rightAt_cls hl)
      have has : S.vm.assignable cell.cls k = s₀.vm.assignable cell.cls k := hW.alike.assignable ..
      rcases h with ⟨h1, rfl⟩ | ⟨h1, h⟩
      · refine ⟨_, hW2, fun Q E d acts => ?_⟩
        rw [mx_row hc h0 (hW.classLinks hl) hcell hobj ⟨y0, hy0⟩ ⟨yt, hyt⟩, if_pos (has.trans h1)]
      · obtain ⟨vm', g1, g2⟩ := ih (S.setVm (S.vm.noted f.method.cls x.catchType (.cls k))) hW2 hcell h
        refine ⟨vm', g1, fun Q E d acts => ?_⟩
        rw [mx_row hc h0 (hW.classLinks hl) hcell hobj ⟨y0, hy0⟩ ⟨yt, hyt⟩, if_neg (by rw [has, h1]; decide)]
        exact g2 Q E d acts
/-- .. and the walk goes on at that handler, the object alone on the stack -/
theorem mx_caught {p : Program} {l : Launch} {e : Env} {R : Room} {s : State} {m : MethodId} {args : Array Value} {below : List Frame} {meth : Method} {c : Code} {T : State} {locs : List Loc} {cells slots : Nat}
    (X : Stand p l e R s m args below meth c T locs cells slots) (a : Addr) {g : JFrame} (hg : g.method = m) {cell : Cell} (hcell : T.heap[a]? = some cell) (hobj : cell.vm.isStatics = false) (hk0 : ∃ z, s.vm.classes[cell.cls]? = some z) {hp : Nat}
    (h : mx_Ch e.platform s m.cls g.pc cell.cls hp c.exceptionTable.toList) :
    ∃ vm', Stand p l e R s m args below meth c (T.setVm vm') locs cells slots ∧ ∀ target, Steps p.tables e below ((T.setVm vm').setTop { g with pc := hp, stack := [.ref a] }) target → Steps p.tables e below ((T.setTop g).pushFrame (.throwing a)) target := by
  subst hg
  obtain ⟨vm', hW', hq⟩ := mx_search (e := e) (f := g) (a := a) (VmData.ne_statics_of hobj) hk0 c.exceptionTable.toList ((T.setTop g).pushFrame (.throwing a)) X.warmed hcell h
  refine ⟨vm', X.noted hW', fun target hrest => ?_⟩
  have hA : At T g.method c below := X.here
  obtain ⟨hgo, hw⟩ := hA.throwing a
  refine Steps.head hgo hw ?_
  have hfind : ∀ (Q : Handler → Pre) (E : CtlPost) (d : Bool) (acts : List Action), wp (findHandler g a) Q E e d acts ((T.setTop g).pushFrame (.throwing a)) ↔ Q (.found hp) d acts (((T.setTop g).pushFrame (.throwing a)).setVm vm') := by
    intro Q E d acts
    rw [W.findHandler_eq (s := (T.setTop g).pushFrame (.throwing a)) (meth := meth) (code := c) X.method' X.code]
    exact hq Q E d acts
  have hst : ∀ r : List Frame, (stepThrowing e ((T.setTop g).pushFrame (.throwing a)) a (.java g :: r)).Is ((((T.setTop g).pushFrame (.throwing a)).setVm vm').setFrames (.java { g with pc := hp, stack := [.ref a] } :: r)) [] := by
    intro r
    simp only [stepThrowing, searchFrame, vmDo]
    generalize hr : Sem.go _ e false [] ((T.setTop g).pushFrame (.throwing a)) = res
    obtain ⟨as, rfl, ha⟩ := Sem.eq_ok_of hr (a := Handler.found hp) (s' := ((T.setTop g).pushFrame (.throwing a)).setVm vm') (acts' := []) (by simp [hfind])
    exact ⟨rfl, ha⟩
  rw [stepThread_throwing (frames_entered hA.top _), (hst _).1]
  obtain ⟨g₀, hg0⟩ := Option.isSome_iff_exists.mp hA.top
  obtain ⟨r, hr⟩ := State.topJava?_eq_some.mp hg0
  have hr' : (T.setVm vm').frames = .java g₀ :: r := hr
  rw [State.setTop_of_frames _ hr'] at hrest
  rw [State.pushFrame, State.setTop_of_frames _ hr, State.setFrames_setFrames]
  rw [hr]
  show Steps p.tables e below (((T.setVm vm').setFrames (.throwing a :: (T.setFrames (.java g :: r)).frames)).setFrames (.java { g with pc := hp, stack := [.ref a] } :: r)) target
  rw [State.setFrames_setFrames]
  exact hrest
end MXA
