/-! from the law's entry to the small machine -/
def R_law : String := "TunnelDeskLaw"
def lw_P (b : Addr) (xs : List Int32) (args : Array Value) (s : State) : Prop := args = #[.ref b] ∧ s.IntsAt b xs ∧ xs.length ≤ 336 ∧ (Jvm.Cond.and given_1 narrow_1).before args s = true
def lw_Q (_ : Array Value) (s : State) (o : Outcome) (t : State) : Prop := o = .returned (some (.int 1)) ∧ Framed s o t [] 621120 7238313
def lw_Z (below : List Frame) (a : Array Value) (s : State) : State → Prop := fun t => ∃ o, t.status = .running ∧ Ended t below o ∧ lw_Q a s o t
/-- the law's own end, with 1 on the stack, nothing written that was there before, its room as the claim has it -/
theorem lw_ret {p : Program} {l : Launch} {e : Env} {s : State} {m : MethodId} {below : List Frame} {meth : Method} {c : Code} {b : Nat} (hx : p.tables.exec = Jvm.exec) (hb : c.code = code) (hr : meth.sig.returnType = ret) (hlocks : meth.locks = false) {pc : Nat} {H : Heap} {ls : Array Slot} (hdg : decode code pc = .ok (.ireturn, 1)) : W p l e room_1 s m #[Value.ref b] below meth c H [] 621120 7238313 (lw_Z below #[Value.ref b] s) (F0 m pc ls [.int 1]) := by
  intro T hT X
  obtain ⟨fs, hret, hrun, hended, hW, hframe⟩ := X.leave (v := some (.int 1)) (hlocks := hlocks) (fun h => by rw [hr] at h; cases h)
  have hmeth' : T.vm.method? m = some meth := X.method'
  refine ⟨T.setFrames fs, ?_, .returned (some (.int 1)), hrun, hended, rfl, ⟨_, rfl⟩, hW, hframe⟩
  jvm_step X.here [X.here.top, hx, hb, hdg, hmeth', hr, ret, narrow_b1]
  (try refine ⟨rfl, ?_⟩); (try refine ⟨rfl, ?_⟩)
  first | (intro acts; rw [hret _ acts rfl rfl rfl]) | rw [hret _ _ rfl rfl rfl]
  exact Steps.refl _
/-- what holds at the law's entry -/
def lw_At (p : Program) (l : Launch) (s : State) (m : MethodId) (meth : Method) (c : Code) (b L : Nat) (xs : Nat → Int32) : Prop :=
  p.tables.exec = Jvm.exec ∧ c.code = code ∧ meth.sig.returnType = ret ∧ c.maxLocals = 9 ∧ s.vm.findClass R_law = some m.cls ∧ (∀ w ∈ lw_tbl, w.before #[Value.ref b] s = true) ∧ va_X b L xs s s.heap ∧ b < s.heap.size ∧ meth.locks = false ∧ (Jvm.Cond.and given_1 narrow_1).before #[Value.ref b] s = true ∧ meth.name = "law" ∧ c.exceptionTable.toList = [] ∧ l.stackTraces = false
theorem st_cls {s : State} {args : Array Value} (hts : ∀ w ∈ mm_gw, w.before args s = true) : ∃ D : va_G, ∀ (c : Nat) (q : vw_C), vwCl[c]? = some q → u_Kn s q.1 q.2.1 q.2.2 (D.1 c) (D.2 c) := by
  have h0 : ∀ c : Nat, ∃ x : ClassId × (Nat → Nat), ∀ q : vw_C, vwCl[c]? = some q → u_Kn s q.1 q.2.1 q.2.2 x.1 x.2 := by
    intro c
    match c with
    | 0 =>
      obtain ⟨cC, iS, hk⟩ := u_known (n := 5) hts hin_0 (hts _ gw_86)
      exact ⟨(cC, iS), fun q hq => by cases hq; exact hk⟩
    | 1 =>
      obtain ⟨cC, iS, hk⟩ := u_known (n := 14) hts hin_1 (hts _ gw_191)
      exact ⟨(cC, iS), fun q hq => by cases hq; exact hk⟩
    | 2 =>
      obtain ⟨cC, iS, hk⟩ := u_known (n := 3) hts hin_2 (hts _ gw_166)
      exact ⟨(cC, iS), fun q hq => by cases hq; exact hk⟩
    | 3 =>
      obtain ⟨cC, iS, hk⟩ := u_known (n := 3) hts hin_3 (hts _ gw_218)
      exact ⟨(cC, iS), fun q hq => by cases hq; exact hk⟩
    | 4 =>
      obtain ⟨cC, iS, hk⟩ := u_known (n := 5) hts hin_4 (hts _ gw_287)
      exact ⟨(cC, iS), fun q hq => by cases hq; exact hk⟩
    | 5 =>
      obtain ⟨cC, iS, hk⟩ := u_known (n := 4) hts hin_5 (hts _ gw_234)
      exact ⟨(cC, iS), fun q hq => by cases hq; exact hk⟩
    | 6 =>
      obtain ⟨cC, iS, hk⟩ := u_known (n := 6) hts hin_6 (hts _ gw_257)
      exact ⟨(cC, iS), fun q hq => by cases hq; exact hk⟩
    | 7 =>
      obtain ⟨cC, iS, hk⟩ := u_known (n := 3) hts hin_7 (hts _ gw_197)
      exact ⟨(cC, iS), fun q hq => by cases hq; exact hk⟩
    | 8 =>
      obtain ⟨cC, iS, hk⟩ := u_known (n := 7) hts hin_8 (hts _ gw_95)
      exact ⟨(cC, iS), fun q hq => by cases hq; exact hk⟩
    | 9 =>
      obtain ⟨cC, iS, hk⟩ := u_known (n := 2) hts hin_9 (hts _ gw_101)
      exact ⟨(cC, iS), fun q hq => by cases hq; exact hk⟩
    | 10 =>
      obtain ⟨cC, iS, hk⟩ := u_known (n := 4) hts hin_10 (hts _ gw_78)
      exact ⟨(cC, iS), fun q hq => by cases hq; exact hk⟩
    | 11 =>
      obtain ⟨cC, iS, hk⟩ := u_known (n := 37) hts hin_11 (hts _ gw_944)
      exact ⟨(cC, iS), fun q hq => by cases hq; exact hk⟩
    | k + 12 => exact ⟨(0, fun _ => 0), fun q hq => by cases hq⟩
  obtain ⟨f, hf⟩ := Classical.axiomOfChoice h0
  exact ⟨(fun c => (f c).1, fun c => (f c).2), fun c q hq => hf c q hq⟩
theorem st_arr {s : State} {args : Array Value} {ty : FieldType} (h : (Cond.arrayClass ty).before args s = true) : ∃ cA, ArrOfT s cA ty ∧ s.vm.findClass ("[" ++ ty.toString) = some cA := by
  obtain ⟨c, k, comp, h1, h2, h3⟩ := Cond.arrayClass_spec h
  exact ⟨c, fun n z => ⟨fun k h => (by cases h), k, h2, comp, h3⟩, h1⟩
theorem st_arq {s : State} {args : Array Value} {C : String} (h : (Cond.arrayOver (.object C)).before args s = true) : ∃ cA, ArrOfT s cA (.object C) ∧ va_RA s cA (.object C) := by
  obtain ⟨comp, c, k, h1, -, h2, h3, h4⟩ := Cond.arrayOver_spec h
  exact ⟨c, fun n z => ⟨fun k h => (by cases h), k, h2, comp, h3⟩, k, comp, h2, h3, h1, h4⟩
def st_cy (c1 c2 c3 c4 c5 c6 c7 : ClassId) : Nat → ClassId
  | 1 => c1 | 2 => c2 | 3 => c3 | 4 => c4 | 5 => c5 | 6 => c6 | _ => c7
theorem st_tys {s : State} {args : Array Value} (hts : ∀ w ∈ lw_tbl, w.before args s = true) : ∃ cy : Nat → ClassId, ∀ (k : Nat) (q : ClassId × FieldType), (mm_tys cy)[k]? = some q → ArrOfT s q.1 q.2 ∧ va_RA s q.1 q.2 := by
  obtain ⟨c1, a1, b1⟩ := st_arr (hts (.arrayClass .int) (by decide +kernel))
  obtain ⟨c2, a2, b2⟩ := st_arr (hts (.arrayClass .boolean) (by decide +kernel))
  obtain ⟨c3, a3, b3⟩ := st_arr (hts (.arrayClass .char) (by decide +kernel))
  obtain ⟨c4, a4, b4⟩ := st_arr (hts (.arrayClass .long) (by decide +kernel))
  obtain ⟨c5, a5, b5⟩ := st_arq (hts (.arrayOver (.object RX1)) (by decide +kernel))
  obtain ⟨c6, a6, b6⟩ := st_arq (hts (.arrayOver (.object RX8)) (by decide +kernel))
  obtain ⟨c7, a7, b7⟩ := st_arq (hts (.arrayOver (.object RX9)) (by decide +kernel))
  refine ⟨st_cy c1 c2 c3 c4 c5 c6 c7, fun k q hq => ?_⟩
  have hq' : ([(c1, .int), (c2, .boolean), (c3, .char), (c4, .long), (c5, .object RX1), (c6, .object RX8), (c7, .object RX9)] : List (ClassId × FieldType))[k]? = some q := hq
  match k with
  | 0 => cases hq'; exact ⟨a1, b1⟩
  | 1 => cases hq'; exact ⟨a2, b2⟩
  | 2 => cases hq'; exact ⟨a3, b3⟩
  | 3 => cases hq'; exact ⟨a4, b4⟩
  | 4 => cases hq'; exact ⟨a5, b5⟩
  | 5 => cases hq'; exact ⟨a6, b6⟩
  | 6 => cases hq'; exact ⟨a7, b7⟩
  | k + 7 => cases hq'
def st_sx (w : Cond) : Bool := match w with
  | .stringRef o i _ => decide (Cond.exactly (.string o i) "java/lang/String" ∈ flatC (Jvm.Cond.and given_1 narrow_1))
  | _ => true
theorem st_sxs : ∀ w ∈ lw_tbl, st_sx w = true := by decide +kernel
theorem st_str {s : State} {args : Array Value} (hts : ∀ w ∈ lw_tbl, w.before args s = true) (hs : ∀ c ∈ flatC (Jvm.Cond.and given_1 narrow_1), c.before args s = true) : ∀ (o tx : String) (i : Nat), Cond.stringRef o i tx ∈ lw_tbl → ∃ a, vk_R o i tx a s := by
  intro o tx i hm
  have h1 := of_decide_eq_true (st_sxs _ hm)
  obtain ⟨a, c, cA, kA, q1, -⟩ := Cond.exactly_spec (args := args) (first := s) (o := none) (s := s) (idx := []) (t := .string o i) (cls := "java/lang/String") (hs _ h1)
  exact ⟨a, vk_R.of (hts _ hm) q1⟩
theorem st_nc {s : State} {args : Array Value} (hs : ∀ c ∈ flatC (Jvm.Cond.and given_1 narrow_1), c.before args s = true) : ∀ i j, i < 4 → j < 4 → 0 < i → 0 < j → i ≠ j → va_Nc (mm_ex i) (mm_ex j) s := by
  intro i j hi hj h1 h2 h3
  match i, j with
  | 1, 2 => exact va_Nc.of (hs _ (by decide +kernel))
  | 1, 3 => exact va_Nc.of (hs _ (by decide +kernel))
  | 2, 1 => exact va_Nc.of (hs _ (by decide +kernel))
  | 2, 3 => exact va_Nc.of (hs _ (by decide +kernel))
  | 3, 1 => exact va_Nc.of (hs _ (by decide +kernel))
  | 3, 2 => exact va_Nc.of (hs _ (by decide +kernel))
  | 1, 1 => exact absurd rfl h3
  | 2, 2 => exact absurd rfl h3
  | 3, 3 => exact absurd rfl h3
  | 0, _ => omega
  | _, 0 => omega
  | i + 4, _ => omega
  | _, j + 4 => omega
theorem st_S {s : State} {args : Array Value} (hts : ∀ w ∈ lw_tbl, w.before args s = true) (hgv : (Jvm.Cond.and given_1 narrow_1).before args s = true) : ∃ (D : va_G) (cy : Nat → ClassId) (sk sv : Nat), mm_S D cy s.heap.size sk sv s s.heap := by
  have hs := flat_of_before _ hgv
  have hg : ∀ w ∈ mm_gw, w.before args s = true := fun w hw => hts w (List.mem_filter.mp hw).1
  obtain ⟨D, hD⟩ := st_cls hg
  obtain ⟨cy, hcy⟩ := st_tys hts
  have hA : ∀ a : Nat, a < s.heap.size → ¬ s.heap.size ≤ a := fun a h => Nat.not_le.mpr h
  obtain ⟨adK, adV, hS, hE⟩ := vk_Sof (args := args) (s := s) (N := 1) (tm := fun _ => .string RX4 44) (len := [7]) (byt := [[79, 78, 78, 69, 67, 84, 32]]) (A := fun q => s.heap.size ≤ q) (fun i hi => by
      have e : i = 0 := by omega
      subst e
      decide)
    (fun i _ => hs _ (by decide +kernel)) (fun i _ => hs _ (by decide +kernel)) (fun i _ => hs _ (by decide +kernel))
    (fun i hi => by
      have e : i = 0 := by omega
      subst e
      exact hs _ (by decide +kernel))
    (fun i hi j hj => by
      have e : i = 0 := by omega
      subst e
      have hj7 : j < 7 := hj
      match j with
      | 0 => exact hs _ (by decide +kernel)
      | 1 => exact hs _ (by decide +kernel)
      | 2 => exact hs _ (by decide +kernel)
      | 3 => exact hs _ (by decide +kernel)
      | 4 => exact hs _ (by decide +kernel)
      | 5 => exact hs _ (by decide +kernel)
      | 6 => exact hs _ (by decide +kernel)
      | j + 7 => omega)
    (fun i j hi hj hij => absurd (by omega) hij) hA
  refine ⟨D, cy, adK 0, adV 0, ⟨hD, hcy⟩, fun w hw hq => va_Nw.of (mm_nq_on hq) (hts w hw), ?_, ?_, st_str hts hs, ⟨va_AO.of (hts _ (by decide +kernel)), va_AO.of (hts _ (by decide +kernel)), va_AO.of (hts _ (by decide +kernel))⟩, st_nc hs, ?_, ?_, ?_, ?_⟩
  · exact vx_Zqof (hts _ (by decide +kernel)) (hts _ (by decide +kernel)) (hs _ (by decide +kernel)) hA
  · exact vx_Zqof (hts _ (by decide +kernel)) (hts _ (by decide +kernel)) (hs _ (by decide +kernel)) hA
  · exact vk_R.of (hts _ (by decide +kernel)) (hE 0 (by decide))
  · refine ⟨fun i hi => ?_, fun i j hi hj _ => by omega⟩
    have e : i = 0 := by omega
    subst e
    exact hS.1 0 (by decide)
  · exact va_Zof (hts _ (by decide +kernel)) (hts _ (by decide +kernel)) (va_eqt (hs _ (by decide +kernel))) hA
  · exact va_Zqof (hts _ (by decide +kernel)) (hts _ (by decide +kernel)) (hs _ (by decide +kernel)) hA
def mm_u0 : mm_M := ([], fun _ _ => none, fun _ _ => 0, fun _ _ => 0, 0, 0)
def st_r (bs b sk sv : Nat) : Nat → Nat := fun i => if i = 100000 then b else if i = 200000 then sk else if i = 200001 then sv else bs + i
theorem st_law {p : Program} {l : Launch} {e : Env} {s : State} {m : MethodId} {below : List Frame} {meth : Method} {c : Code} {b L : Nat} {xs : Nat → Int32} (C0 : lw_At p l s m meth c b L xs) {u' : mm_M} {n fuel : Nat} (hrun : mm_lp (tb_L_law L xs) (12, mm_run md fuel 12) n 0 [(0, .ref 100000)] [] mm_u0 = some (.inl (some (.int 1)), u')) (hcc : mm_cc u' ≤ 621120) (hss : mm_ss u' ≤ 7238313) : W p l e room_1 s m #[Value.ref b] below meth c s.heap [] 0 0 (lw_Z below #[Value.ref b] s) (entryFrame m ([Value.ref b] : List Value).toArray 9) := by
  obtain ⟨hx, hb, hr, hml, hown, hts, hX, hbl, hlk, hgv, hnm, htb, htr⟩ := C0
  obtain ⟨D, cy, sk, sv, hS⟩ := st_S hts hgv
  have hg : ∀ w ∈ mm_gw, w.before #[Value.ref b] s = true := fun w hw => hts w (List.mem_filter.mp hw).1
  have hc : mm_Cx (mi_L_law L xs) p l room_1 s m #[Value.ref b] meth c D cy (st_r s.heap.size b sk sv) s.heap.size sk sv 12 (mm_cc u' - 0) (mm_ss u' - 0) := by
    refine ⟨hx, hb, hml, hr, hlk, hown, hnm, htb, ⟨?_, ?_, ?_⟩, fun i hi => ?_, ⟨rfl, rfl⟩, hg, hS, Nat.le_refl _, htr, by decide, by decide, hcc, hss⟩
    · exact hX
    · exact hbl
    · exact Nat.not_le.mpr hbl
    · simp only [st_r]
      rw [if_neg (by omega), if_neg (by omega), if_neg (by omega)]
  have hE : mm_SE (mi_L_law L xs) p l e room_1 s m #[Value.ref b] below meth c D cy (st_r s.heap.size b sk sv) s.heap.size 0 0 12 (lw_Z below #[Value.ref b] s) (.inl (some (.int 1)), u') := by
    refine ⟨?_, ?_, ?_, ?_, ?_, ?_, ?_⟩
    · intro pc ls H locs v hv ht hd hW hS9
      cases hv
      exact va_forget hS9.2.2 (W.widen (k := 621120) (n := 7238313) hcc hss (lw_ret hx hb hr hlk hd))
    · intro pc ls H locs v hv
      cases hv
    · intro pc ls H locs v hv
      cases hv
    · intro pc ls H locs v hv
      cases hv
    · intro pc ls H locs hv
      cases hv
    · intro pc ls H locs rest q ce x hv
      cases hv
    · intro pc ls H locs u x hres
      cases hres
  have g := mm_lp_snd (below := below) (e := e) (F := (12, mm_run md fuel 12)) (vb_L_law L xs) hc (mm_sound htr md_ok fuel 12) hE n 0 [(0, .ref 100000)] [] mm_u0 hrun
  have hl := lv_entry [Value.ref b] (n := 9) (by show 1 ≤ 9; decide)
  rw [lg_entry_eq]
  refine g.2 s.heap [] _ ⟨(fun k q hk => by cases hk), (fun i hi => by cases hi)⟩ va_S.rf hl (Nat.le_refl _) (Nat.le_refl _) (Nat.le_refl _)
/-- the pure statement: on every script of at most 336 ints the small machine's law comes to its end with 1, within the room -/
def st_goal : Prop := ∀ (L : Nat) (xs : Nat → Int32), L ≤ 336 → ∃ (n fuel : Nat) (u' : mm_M), mm_lp (tb_L_law L xs) (12, mm_run md fuel 12) n 0 [(0, .ref 100000)] [] mm_u0 = some (.inl (some (.int 1)), u') ∧ mm_cc u' ≤ 621120 ∧ mm_ss u' ≤ 7238313
set_option maxHeartbeats 4000000 in
theorem lw_walk (hG : st_goal) (l : Launch) (hl : l.stackTraces = false) (b : Addr) (xs : List Int32) : MetFree l x (headSpec (Jvm.Cond.code x code maxLocals ret :: tables_1) room_1) (lw_P b xs) (fun _ _ _ _ _ => True) lw_Q := by
  refine MetFree.of_bodyS (code := code) (maxLocals := maxLocals) (ret := ret) (by decide) ?_ ?_
  · intro args s m h hn
    obtain ⟨meth, c, h1, h2, h3, h4, h5, h6, -, -⟩ := Cond.code_spec hn (atoms_spec (ws := Jvm.Cond.code x code maxLocals ret :: tables_1) h _ List.mem_cons_self)
    exact ⟨meth, c, h1, h2, h3, h4, h5, h6⟩
  · intro p e s m args below meth c s₁ B hml0 hP _
    obtain ⟨rfl, hx, hbd, hgv⟩ := hP
    obtain ⟨scr, harrAt, hlist, hof, hsmall⟩ := hx
    obtain ⟨hcb, hkn, -, -⟩ := State.arrayAt?_spec harrAt
    have hown : s.vm.findClass R_law = some m.cls := findClass_of_methodNamed B.named
    have hts0 : ∀ c ∈ (Jvm.Cond.code x code maxLocals ret :: tables_1), c.before #[Value.ref b] s = true := atoms_spec (ws := Jvm.Cond.code x code maxLocals ret :: tables_1) B.pre
    have hts : ∀ w ∈ lw_tbl, w.before #[Value.ref b] s = true := k2_hts_sels lw_privs (fun w hw => hts0 w (List.mem_cons_of_mem _ hw)) lw_privs_ok
    have hml : c.maxLocals = 9 := B.maxLocals_eq (hts0 _ List.mem_cons_self)
    have X₀ : Stand p l e room_1 s m #[Value.ref b] below meth c s₁ [] 0 0 := Stand.of_body B
    have hh0 : s₁.heap = s.heap := by rw [B.state]; rfl
    have hsz : scr.slots.size = xs.length := by rw [← Array.length_toList, hlist, List.length_map]
    have hval : ∀ j : Nat, j < xs.length → scr.slots[j]? = some (.int (xs.getD j 0)) := fun j hj => by
      rw [← Array.getElem?_toList, hlist]
      simp [hj]
    have hbl : b < s.heap.size := (Array.getElem?_eq_some_iff.mp hcb).1
    have hX : va_X b xs.length (fun j => xs.getD j 0) s s.heap := ⟨scr, hcb, hof, hkn, hsz, hval⟩
    have K : W p l e room_1 s m #[Value.ref b] below meth c s₁.heap [] 0 0 (lw_Z below #[Value.ref b] s) (entryFrame m ([Value.ref b] : List Value).toArray 9) := by
      rw [hh0]
      have hnm : meth.name = "law" := (name_of_methodNamed B.named B.method).1
      have ht : c.exceptionTable.toList = [] := by
        obtain ⟨meth9, c9, h1, h2, -, -, -, -, h7, -⟩ := Cond.code_spec B.named (hts0 _ List.mem_cons_self)
        cases Option.some.inj (h1.symm.trans B.method)
        cases Option.some.inj (h2.symm.trans X₀.code)
        rw [Array.isEmpty_iff.mp h7]
      obtain ⟨n, fuel, u', hrun, hc1, hc2⟩ := hG xs.length (fun j => xs.getD j 0) hbd
      exact st_law ⟨B.exec, B.bytes, B.returns, hml, hown, hts, hX, hbl, B.notSynchronized, hgv, hnm, ht, hl⟩ hrun hc1 hc2
    obtain ⟨t, a1, o, b1, b2, b3⟩ := K s₁ rfl X₀
    exact ⟨t, o, a1, b1, b2, b3⟩
theorem lw_pre_spec {args : Array Value} {s : State} (h : (Jvm.Cond.and given_1 narrow_1).before args s = true) (hr : rest_1_c.before args s = true) : ∃ (b : Addr) (xs : List Int32), lw_P b xs args s := by
  have hs := flat_of_before _ h
  have hq := flat_of_before _ hr
  have hc : (Cond.count 1).before args s = true := hs _ (by decide +kernel)
  have harr : (Cond.arrayOf (.arg 0) .int).before args s = true := hs _ (by decide +kernel)
  have hle : (Cond.le (.length (.arg 0)) (.int 336)).before args s = true := hs _ (by decide +kernel)
  have hlen : (Cond.isInt (.length (.arg 0))).before args s = true := hq _ (by decide +kernel)
  have hall : (Cond.all (.arg 0) (.isInt (.elem (.arg 0) (.index 0)))).before args s = true := hq _ (by decide +kernel)
  obtain ⟨b, xs, hb, hx⟩ := State.ints_of_pre rfl harr hlen hall
  have hsm : xs.length < 2 ^ 31 := hx.choose_spec.2.2.2
  have hev : (Term.length (.arg 0)).eval args s none [] s = some (.int xs.length.toInt32) := hx.length_eval hb
  have hv := Cond.le_ints hev (show (Term.int 336).eval args s none [] s = some (.int 336) from rfl)
  have hd : xs.length.toInt32 ≤ 336 := by
    simpa [Cond.before, Cond.holds, hv] using hle
  have hN : xs.length ≤ 336 := (Int32.ofNat_le_ofNat hsm (by decide)).mp (show Int32.ofNat xs.length ≤ Int32.ofNat 336 from hd)
  exact ⟨b, xs, Cond.one_arg hc (show args[0]? = some (.ref b) from hb), hx, hN, h⟩
theorem lw_comes (hG : st_goal) (l : Launch) (hl : l.stackTraces = false) : Comes l x (Jvm.Cond.code x code maxLocals ret :: tables_1) room_1 (fun tb e args s => Calls_1 tb e args s ∧ rest_1 tb e args s ∧ Pre_1 tb e args s)
    (fun _ _ args s o t => lw_Q args s o t) := by
  intro p e ha hc hk s m args below hf hfit hheap happ hpre
  obtain ⟨b, xs, hP⟩ := lw_pre_spec hpre.2.2 hpre.2.1
  obtain ⟨k, o, h1, h2, h3, hQ⟩ := lw_walk hG l hl b xs p e ha hc hk s m args below hf ((Spec.applies_iff_loose hf).mp happ).1 hP trivial
  exact ⟨k, o, h1, h2, h3, hQ⟩
theorem lw_frame {s t : State} {o : Outcome} {args : Array Value} (h : Framed s o t [] 621120 7238313) :
    Framed s o t (fieldLocs frame_1_writes args s ++ arrayLocs frame_1_arrays args s ++ staticLocs frame_1_statics s) 621120 7238313 := h
theorem lw_limb (hG : st_goal) (L : Cond) (hL : ∀ (args : Array Value) (s t : State), L.after args s (.returned (some (.int 1))) t = true) :
    ArmFor flags0 classFile x code maxLocals ret World_1 tables_1 room_1 Calls_1 rest_1 Pre_1
      (fun tb e a s o t => postC L tb e a s o t ∧ Framed s o t (fieldLocs frame_1_writes a s ++ arrayLocs frame_1_arrays a s ++ staticLocs frame_1_statics s) 621120 7238313) := by
  intro l hfl _ _ p e ha hc hk s m args below hf hfit hheap happ hpre
  obtain ⟨k, o, h1, h2, h3, rfl, hF⟩ := lw_comes hG l (by unfold Launch.stackTraces; rw [hfl]; decide) p e ha hc hk s m args below hf hfit hheap happ hpre
  exact ⟨k, _, h1, h2, h3, hL args s _, lw_frame hF⟩
