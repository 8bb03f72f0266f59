/-! calls -/
section MMI
theorem mm_goodIn {w : Cond} (h : w ∈ mm_gw) : GoodIn mm_gw (w :: mm_gw) := by
  intro z hz
  have hz' : z ∈ mm_gw := by
    rcases List.mem_cons.mp hz with rfl | q
    · exact h
    · exact q
  exact ⟨hz', good_of_word (List.mem_filter.mp hz').2⟩
theorem mm_blind {D : va_G} {cy : Nat → ClassId} {r : Nat → Nat} {bs sk sv : Nat} {as : List Value} {u : mm_M} : FrameBlind (mm_Pc D cy r bs sk sv as u) := by
  intro a U g mk h
  obtain ⟨h1, h2, h3, h4, h5⟩ := h
  exact ⟨h1, h2, h3.frames rfl, h4, h5⟩
theorem mm_calls {D : va_G} {cy : Nat → ClassId} {r : Nat → Nat} {bs sk sv : Nat} {as : List Value} {u : mm_M} {s : State} {H : Heap} {locs : List Loc} (hst : mm_S D cy bs sk sv s s.heap) (hbs : bs ≤ s.heap.size) (hW : mm_W D cy r bs u H) (hS : va_S (fun q => bs ≤ q) s.heap H locs) (hsz : H.size ≤ bs + mm_cc u) : ∀ U : State, U.heap = H → s.WarmedH U.vm → mm_Pc D cy r bs sk sv as u (as.map (mv r)).toArray U := by
  intro U hU hw
  subst hU
  exact ⟨rfl, hW, hst.moved hw hS, Nat.le_trans hbs hS.1, hsz⟩
/-- a callee that returns -/
theorem mm_met {l : Launch} {y : MethodName} {ws : List Cond} {rm : Room} {Pc : Array Value → State → Prop} {D : va_G} {cy : Nat → ClassId} {r : Nat → Nat} {bs mc ms : Nat} {res : mm_R} {free : Addr → Prop} {v : Option Value} (hv : res.1 = .inl v) (h : vx_Met l y ws rm Pc (mm_Qc D cy r bs res) (mm_XC D cy r bs res) mc ms free) : Met l y ws rm Pc (mm_Qc D cy r bs res) mc ms free := by
  intro p e h1 h2 h3 s m args below h4 h5 h6 h7
  obtain ⟨n, o, g1, g2, g3, g4⟩ := h p e h1 h2 h3 s m args below h4 h5 h6 h7
  refine ⟨n, o, g1, g2, g3, ?_⟩
  rcases g4 with g4 | ⟨q, -, E, ce, L, ⟨⟨x, hx, -⟩, -⟩, -⟩
  · exact g4
  · rw [hv] at hx
    cases hx
theorem mm_ofRun {p : Program} {l : Launch} {e : Env} {R : Room} {s : State} {m : MethodId} {args : Array Value} {below : List Frame} {meth : Method} {c : Code} {H : Heap} {locs : List Loc} {cells slots mc ms : Nat} {g : JFrame} {rest : List Value} {Qa : State → Outcome → State → Prop} {XC : String → State → State → Prop} {free : Addr → Prop} (h : va_Run p l e R s m args below meth c H locs cells slots mc ms g rest Qa free) : vx_Run p l e R s m args below meth c H locs cells slots mc ms g rest Qa XC free := fun T hT X => Or.inl (h T hT X)
/-- the way on behind a callee -/
theorem mm_callG {mi : mm_I} {p : Program} {l : Launch} {e : Env} {R : Room} {s : State} {m : MethodId} {args : Array Value} {below : List Frame} {meth : Method} {c : Code} {D : va_G} {cy : Nat → ClassId} {r : Nat → Nat} {bs c0 s0 : Nat} {Q : State → Prop} {res : mm_R} {pc : Nat} {lv : mm_L} {st rest : List Value} {u : mm_M} {av : Array Value} (cres : mm_R) (hmono : mm_cc u ≤ mm_cc cres.2 ∧ mm_ss u ≤ mm_ss cres.2)
    (hrun : (mm_cc cres.2 ≤ mm_cc res.2 ∧ mm_ss cres.2 ≤ mm_ss res.2) → ∀ (H : Heap) (locs : List Loc) (ls : Array Slot), mm_W D cy r bs u H → va_S (fun q => bs ≤ q) s.heap H locs → ls.size = mi.2.2.1 → c0 ≤ mm_cc u → s0 ≤ mm_ss u → H.size ≤ bs + mm_cc u → vx_Run p l e R s m args below meth c H locs (mm_cc u - c0) (mm_ss u - s0) (mm_cc cres.2 - mm_cc u) (mm_ss cres.2 - mm_ss u) (F0 m pc ls (st.map (mv r))) (rest.map (mv r)) (mm_Qc D cy r bs cres av) (mm_XC D cy r bs cres) (fun q => bs ≤ q))
    (h0 : cres.1 = .inl none → mm_G mi p l e R s m args below meth c D cy r bs c0 s0 Q res (pc + 3) lv rest cres.2) (h1 : ∀ v, cres.1 = .inl (some v) → mm_G mi p l e R s m args below meth c D cy r bs c0 s0 Q res (pc + 3) lv (v :: rest) cres.2)
    (h2 : ∀ x, cres.1 = .inr x → (mm_cc cres.2 ≤ mm_cc res.2 ∧ mm_ss cres.2 ≤ mm_ss res.2) ∧ ∀ (H : Heap) (locs : List Loc) (ls : Array Slot) (q : Addr) (ce : Cell), mm_W D cy r bs cres.2 H → va_S (fun q => bs ≤ q) s.heap H locs → lv_has ls mi.2.2.1 (mvl r lv) → c0 ≤ mm_cc cres.2 → s0 ≤ mm_ss cres.2 → s.heap.size ≤ bs + c0 → H[q]? = some ce → ce.vm = .none → s.vm.findClass (mm_ex x) = some ce.cls → vx_W p l e R s m args below meth c H locs (mm_cc cres.2 - c0) (mm_ss cres.2 - s0) Q (F0 m pc ls (rest.map (mv r))) q) :
    mm_G mi p l e R s m args below meth c D cy r bs c0 s0 Q res pc lv st u := by
  have hend : mm_cc cres.2 ≤ mm_cc res.2 ∧ mm_ss cres.2 ≤ mm_ss res.2 := by
    rcases hq : cres.1 with (_ | v) | x
    · exact (h0 hq).1
    · exact (h1 v hq).1
    · exact (h2 x hq).1
  refine ⟨⟨Nat.le_trans hmono.1 hend.1, Nat.le_trans hmono.2 hend.2⟩, fun H locs ls hW hS hl k1 k2 k3 => mm_sz fun hsz => ?_⟩
  intro T hT X
  have ec : mm_cc u - c0 + (mm_cc cres.2 - mm_cc u) = mm_cc cres.2 - c0 := by have := hmono.1; omega
  have es : mm_ss u - s0 + (mm_ss cres.2 - mm_ss u) = mm_ss cres.2 - s0 := by have := hmono.2; omega
  rcases hrun hend H locs ls hW hS hl.1 k1 k2 (by omega) T hT X with ⟨v, st₀, t, T', L, g0, X', hL, e1, e2, ⟨⟨v', hv, hv2⟩, hW', hF⟩, stp⟩ | ⟨q, st₀, t, T', L, E, ce, g0, X', hL, e1, e2, ⟨⟨x, hx, rfl⟩, hW', hF⟩, hce, hcv, hcl, stp⟩
  · rw [ec, es] at X'
    cases hv2
    obtain ⟨-, -, k6⟩ := vx_keep g0 e1 hS (fun q _ z => z) (fun q z => z) hL hF
    have hW2 : mm_W D cy r bs cres.2 T'.heap := by rw [e1]; exact hW'
    cases v' with
    | none =>
      obtain ⟨t2, a1, b1⟩ := (h0 hv).2 T'.heap (locs ++ L) ls hW2 k6 hl (Nat.le_trans k1 hmono.1) (Nat.le_trans k2 hmono.2) k3 T' rfl X'
      exact ⟨t2, stp t2 a1, b1⟩
    | some w =>
      obtain ⟨t2, a1, b1⟩ := (h1 w hv).2 T'.heap (locs ++ L) ls hW2 k6 hl (Nat.le_trans k1 hmono.1) (Nat.le_trans k2 hmono.2) k3 T' rfl X'
      exact ⟨t2, stp t2 a1, b1⟩
  · rw [ec, es] at X'
    obtain ⟨-, -, k6⟩ := vx_keep g0 e1 hS (fun q _ z => z) (fun q z => z) hL hF
    have hW2 : mm_W D cy r bs cres.2 T'.heap := by rw [e1]; exact hW'
    obtain ⟨t2, a1, b1⟩ := (h2 x hx).2 T'.heap (locs ++ L) ls q ce hW2 k6 hl (Nat.le_trans k1 hmono.1) (Nat.le_trans k2 hmono.2) k3 (by rw [e1]; exact hce) hcv hcl T' rfl X'
    exact ⟨t2, stp.trans a1, b1⟩
/-- where an exception of the callee is caught, or that nothing catches it here -/
def mm_Hs (mi : mm_I) (pc : Nat) (hs : List (Nat × Nat × Nat)) : Prop :=
  (hs = [] ∧ mi.2.2.2.2.2.1 = []) ∨ hs ≠ [] ∧ ∀ x h, hs.find? (fun h => Nat.beq h.1 x) = some h → (∃ (i : Nat), i < mi.2.2.1 ∧ ((decode mi.2.1 h.2.1 = .ok (.astore i, 2) ∧ h.2.2 = 2) ∨ ∃ k : Fin 4, decode mi.2.1 h.2.1 = .ok (.astore_n k, 1) ∧ h.2.2 = 1 ∧ (k : Nat) = i)) ∧
    ∃ (pre : List ExceptionTableEntry) (e : ExceptionTableEntry) (suf : List ExceptionTableEntry), mi.2.2.2.2.2.1 = pre ++ e :: suf ∧ e.handlerPc = h.2.1 ∧ covers e pc = true ∧ e.catchType ≠ 0 ∧ Cond.classLink mi.1 e.catchType (mm_ex x) ∈ mm_gw ∧ Cond.castable (mm_ex x) (mm_ex x) ∈ lw_tbl ∧
      ∀ z ∈ pre, covers z pc = false ∨ (z.catchType ≠ 0 ∧ ∃ i j, i < 4 ∧ j < 4 ∧ 0 < i ∧ 0 < j ∧ i ≠ j ∧ mm_ex i = mm_ex x ∧ Cond.classLink mi.1 z.catchType (mm_ex j) ∈ mm_gw)
theorem mm_cl_G {mi : mm_I} {p : Program} {l : Launch} {e : Env} {R : Room} {s : State} {m : MethodId} {args : Array Value} {below : List Frame} {meth : Method} {c : Code} {D : va_G} {cy : Nat → ClassId} {r : Nat → Nat} {bs sk sv c0 s0 : Nat} {Q : State → Prop} {res : mm_R} {K : mm_K} {F : mm_F} (hc : mm_Cx mi p l R s m args meth c D cy r bs sk sv F.1 (mm_cc res.2 - c0) (mm_ss res.2 - s0)) (hF : mm_SF l F) (hE : mm_SE mi p l e R s m args below meth c D cy r bs c0 s0 F.1 Q res)
    (hK : ∀ pc lv st u, K pc lv st u = some res → mm_G mi p l e R s m args below meth c D cy r bs c0 s0 Q res pc lv st u) {k pc : Nat} {as rest : List Value} {hs : List (Nat × Nat × Nat)} {lv : mm_L} {st : List Value} {u : mm_M} {av : Array Value} (hhs : mm_Hs mi pc hs) (h : mm_cl k as rest hs K F pc lv u = some res)
    (hrun : ∀ cres : mm_R, F.2 k as u = some cres → (mm_cc cres.2 ≤ mm_cc res.2 ∧ mm_ss cres.2 ≤ mm_ss res.2) → ∀ (H : Heap) (locs : List Loc) (ls : Array Slot), mm_W D cy r bs u H → va_S (fun q => bs ≤ q) s.heap H locs → ls.size = mi.2.2.1 → c0 ≤ mm_cc u → s0 ≤ mm_ss u → H.size ≤ bs + mm_cc u → vx_Run p l e R s m args below meth c H locs (mm_cc u - c0) (mm_ss u - s0) (mm_cc cres.2 - mm_cc u) (mm_ss cres.2 - mm_ss u) (F0 m pc ls (st.map (mv r))) (rest.map (mv r)) (mm_Qc D cy r bs cres av) (mm_XC D cy r bs cres) (fun q => bs ≤ q)) :
    mm_G mi p l e R s m args below meth c D cy r bs c0 s0 Q res pc lv st u := by
  unfold mm_cl at h
  split at h
  · rename_i u2 hcall
    exact mm_callG (.inl none, u2) (hF _ _ _ _ hcall).1 (hrun _ hcall) (fun _ => hK _ _ _ _ h) (fun v hv => by cases hv) (fun x hx => by cases hx)
  · rename_i v u2 hcall
    exact mm_callG (.inl (some v), u2) (hF _ _ _ _ hcall).1 (hrun _ hcall) (fun hv => by cases hv) (fun v' hv => by cases hv; exact hK _ _ _ _ h) (fun x hx => by cases hx)
  · rename_i x u2 hcall
    refine mm_callG (.inr x, u2) (hF _ _ _ _ hcall).1 (hrun _ hcall) (fun hv => by cases hv) (fun v' hv => by cases hv) (fun x' hx => ?_)
    cases hx
    obtain ⟨hx, hb, hml, hr, hlk, hown, hnm, htb, hex, hrr, hrs, hts, hst, hbs, htr, hRf, hRl, hRc, hRs⟩ := hc
    split at h
    · rename_i hh hfind
      rcases hhs with ⟨rfl, -⟩ | ⟨-, hhs⟩
      · cases hfind
      · obtain ⟨⟨i, hi, hast⟩, pre, en, suf, q1, q2, q3, q4, q5, q6, q7⟩ := hhs x hh hfind
        have g := hK _ _ _ _ h
        refine ⟨g.1, fun H locs ls q ce hW hS hl k1 k2 k3 hce hcv hcl => ?_⟩
        have hcast : (Cond.castable (mm_ex x) (mm_ex x)).before args s = true := va_Nw.use rfl (hst.2.1 _ q6 rfl)
        refine vx_catch hown pre en suf (htb.trans q1) (fun z hz => ?_) q3 q4 (hts _ q5) hcast hce hcv hcl ?_
        · rcases q7 z hz with q | ⟨z0, i', j', w1, w2, w3, w4, w5, w6, w7⟩
          · exact Or.inl q
          · exact Or.inr ⟨z0, mm_ex j', hts _ w7, by rw [← w6]; exact hst.2.2.2.2.2.2.1 i' j' w1 w2 w3 w4 w5⟩
        · rw [q2]
          have fin : ∀ ls' : Array Slot, lv_has ls' mi.2.2.1 ((i, Value.ref q) :: (mvl r lv).filter (fun q => !(q.1 == i) && !(q.1 + 1 == i && q.2.category == 2))) → W p l e R s m args below meth c H locs (mm_cc u2 - c0) (mm_ss u2 - s0) Q (F0 m (hh.2.1 + hh.2.2) ls' []) := fun ls' hl' => g.2 H locs ls' hW hS ⟨hl'.1, hl'.2.1, fun _ z => by cases z⟩ k1 k2 k3
          rcases hast with ⟨d1, d2⟩ | ⟨k, d1, d2, d3⟩
          · rw [d2] at fin
            exact lv_astore hx hb d1 hl hi rfl fin
          · rw [d2] at fin
            exact lv_astore_n hx hb d1 d3 hl hi rfl fin
    · split at h
      · rename_i hfind hnil
        cases h
        rcases hhs with ⟨-, hno⟩ | ⟨hhs, -⟩
        · exact ⟨⟨Nat.le_refl _, Nat.le_refl _⟩, fun H locs ls q ce hW hS hl k1 k2 k3 hce hcv hcl => hE.2.2.2.2.2.1 pc ls H locs _ q ce x rfl hno hW hS hce hcv hcl⟩
        · exact absurd hnil hhs
      · cases h
  · cases h
theorem mm_split {r : Nat → Nat} {st : List Value} {n : Nat} (h : n ≤ st.length) : st.map (mv r) = (((st.take n).reverse).map (mv r)).reverse ++ (st.drop n).map (mv r) := by
  rw [← List.map_reverse, List.reverse_reverse, ← List.map_append, List.take_append_drop]
theorem mm_roomW {r : Nat → Nat} {st : List Value} (m : MethodId) (pc : Nat) (ls : Array Slot) (rest : List Value) (h : mm_ct st = true) : 2 * (F0 m pc ls rest).monitorRoom + ((st.map (mv r)).map fun v => v.category).sum ≤ 8 := by
  have := mm_ct_of (r := r) h
  show 2 * 0 + _ ≤ 8
  omega
/-- a static method of the class itself -/
theorem sn_cs {mi : mm_I} {pc k n idx maxL : Nat} {hs : List (Nat × Nat × Nat)} {y : MethodName} {bytes : ByteArray} {ret : Option FieldType} (hd : decode mi.2.1 pc = .ok (.invokestatic idx, 3)) (hk : mm_yh k = (y, .code y bytes maxL ret)) (hm : Cond.code y bytes maxL ret ∈ mm_gw) (hl : Cond.methodLink mi.1 idx y ∈ mm_gw) (hst9 : Cond.static y ∈ mm_gw) (hini : Cond.initialized y.cls ∈ mm_gw)
    (hd9 : y.cls ≠ "java/lang/invoke/MethodHandle" ∧ y.cls ≠ "java/lang/invoke/VarHandle" ∧ (parseMethodDescriptor y.desc).map (fun d => d.parameters.length) = some n) (hL : maxL ≤ 11) (hhs : mm_Hs mi pc hs) : mm_Snd mi pc (mo_cs k n hs) := by
  intro p l e R s m args below meth c D cy r bs sk sv c0 s0 Q res K F hc hF hE hK lv st u h
  simp only [mo_cs] at h
  split at h
  · rename_i hq
    obtain ⟨hq1, hq2⟩ := hq
    refine mm_cl_G (av := (((st.take n).reverse).map (mv r)).toArray) hc hF hE hK hhs h (fun cres hcall hend H locs ls hW hS hsize k1 k2 hsz => ?_)
    obtain ⟨hx, hb, hml, hr, hlk, hown, hnm, htb, hex, hrr, hrs, hts, hst, hbs, htr, hRf, hRl, hRc, hRs⟩ := hc
    have hM := (hF _ _ _ _ hcall).2 D cy r bs sk sv hrr hrs
    rw [hk] at hM
    have hmono := (hF _ _ _ _ hcall).1
    have cb : CallB R s args mi.1 idx y bytes maxL ret (.code y bytes maxL ret :: mm_gw) (mm_Rm F.1 (mm_cc cres.2 - mm_cc u) (mm_ss cres.2 - mm_ss u)) (mm_cc cres.2 - mm_cc u) (mm_ss cres.2 - mm_ss u) n := callB_of n hts (mm_goodIn hm) rfl rfl rfl (hts _ hini) (hts _ hl) hd9 ⟨hRf, by show 8 + (maxL + 11) + 30 * F.1 ≤ R.locals; omega⟩
    exact vx_runS (nL := mi.2.2.1) ⟨hx, hb, hml, hown, hts⟩ hM ⟨cb, hts _ hst9⟩ ⟨mm_blind, mm_calls hst hbs hW hS hsz⟩ rfl (by simp [hq1]) hsize (mm_split hq1) (mm_roomW m pc ls _ hq2) hd ⟨by omega, by omega⟩
  · cases h
theorem mm_take {st : List Value} {n : Nat} {a : Nat} {as : List Value} (h : (st.take n).reverse = .ref a :: as) (hn : n ≤ st.length) : as.length + 1 = n := by
  have := congrArg List.length h
  simp at this
  omega
theorem mm_splitR {r : Nat → Nat} {st : List Value} {n a : Nat} {as : List Value} (h : (st.take n).reverse = .ref a :: as) (hn : n ≤ st.length) : st.map (mv r) = (as.map (mv r)).reverse ++ .ref (r a) :: (st.drop n).map (mv r) := by
  rw [mm_split hn, h, List.map_cons, List.reverse_cons, List.append_assoc]
  rfl
theorem sn_cv {mi : mm_I} {pc k n idx maxL ci N : Nat} {hs : List (Nat × Nat × Nat)} {y : MethodName} {bytes : ByteArray} {ret : Option FieldType} {C : String} {T : u_T} (hd : decode mi.2.1 pc = .ok (.invokevirtual idx, 3)) (hk : mm_yh k = (y, .code y bytes maxL ret)) (hm : Cond.code y bytes maxL ret ∈ mm_gw) (hl : Cond.methodLink mi.1 idx y ∈ mm_gw) (hi9 : Cond.instanceMethod y ∈ mm_gw) (hs9 : Cond.selects C y y ∈ mm_gw) (hini : Cond.initialized y.cls ∈ mm_gw) (hcl : vwCl[ci]? = some (C, T, N))
    (hd9 : y.cls ≠ "java/lang/invoke/MethodHandle" ∧ y.cls ≠ "java/lang/invoke/VarHandle" ∧ (parseMethodDescriptor y.desc).map (fun d => d.parameters.length + 1) = some n) (hL : maxL ≤ 11) (hhs : mm_Hs mi pc hs) : mm_Snd mi pc (mo_cv k n ci hs) := by
  intro p l e R s m args below meth c D cy r bs sk sv c0 s0 Q res K F hc hF hE hK lv st u h
  simp only [mo_cv] at h
  split at h
  · rename_i a as hargs
    split at h
    · rename_i hq
      obtain ⟨hq1, hq2, hq3⟩ := hq
      refine mm_cl_G (av := ((Value.ref a :: as).map (mv r)).toArray) hc hF hE hK hhs h (fun cres hcall hend H locs ls hW hS hsize k1 k2 hsz => ?_)
      obtain ⟨hx, hb, hml, hr, hlk, hown, hnm, htb, hex, hrr, hrs, hts, hst, hbs, htr, hRf, hRl, hRc, hRs⟩ := hc
      have hM := (hF _ _ _ _ hcall).2 D cy r bs sk sv hrr hrs
      rw [hk] at hM
      have hmono := (hF _ _ _ _ hcall).1
      have hn1 : (parseMethodDescriptor y.desc).map (fun d => d.parameters.length) = some as.length := by
        have h1 := hd9.2.2
        have h2 := mm_take hargs hq1
        cases hpd : parseMethodDescriptor y.desc with
        | none => rw [hpd] at h1; cases h1
        | some dd =>
          rw [hpd] at h1
          have h3 : dd.parameters.length + 1 = n := Option.some.inj h1
          show some dd.parameters.length = some as.length
          congr 1
          omega
      have cb : CallB R s args mi.1 idx y bytes maxL ret (.code y bytes maxL ret :: mm_gw) (mm_Rm F.1 (mm_cc cres.2 - mm_cc u) (mm_ss cres.2 - mm_ss u)) (mm_cc cres.2 - mm_cc u) (mm_ss cres.2 - mm_ss u) as.length := callB_of as.length hts (mm_goodIn hm) rfl rfl rfl (hts _ hini) (hts _ hl) ⟨hd9.1, hd9.2.1, hn1⟩ ⟨hRf, by show 8 + (maxL + 11) + 30 * F.1 ≤ R.locals; omega⟩
      exact vx_runV (nL := mi.2.2.1) (b := r a) (As := as.map (mv r)) ⟨hx, hb, hml, hown, hts⟩ hM ⟨cb, hts _ hi9, hts _ hs9⟩ ⟨mm_blind, va_recv hst.1 hW.1 hcl (mm_obj hq3 hcl), mm_calls hst hbs hW hS hsz⟩ rfl (by simp) hsize (mm_splitR hargs hq1) (mm_roomW m pc ls _ hq2) hd ⟨by omega, by omega⟩
    · cases h
  · cases h
theorem mm_cr_G {mi : mm_I} {p : Program} {l : Launch} {e : Env} {R : Room} {s : State} {m : MethodId} {args : Array Value} {below : List Frame} {meth : Method} {c : Code} {D : va_G} {cy : Nat → ClassId} {r : Nat → Nat} {bs c0 s0 : Nat} {Q : State → Prop} {res : mm_R} {K : mm_K} {F : mm_F} (hF : mm_SF l F)
    (hK : ∀ pc lv st u, K pc lv st u = some res → mm_G mi p l e R s m args below meth c D cy r bs c0 s0 Q res pc lv st u) {k pc : Nat} {as rest : List Value} {lv : mm_L} {st : List Value} {u : mm_M} {av : Array Value} (h : mm_cr k as rest K F pc lv u = some res)
    (hrun : ∀ (cres : mm_R) (v : Option Value), F.2 k as u = some cres → cres.1 = .inl v → (mm_cc cres.2 ≤ mm_cc res.2 ∧ mm_ss cres.2 ≤ mm_ss res.2) → ∀ (H : Heap) (locs : List Loc) (ls : Array Slot), mm_W D cy r bs u H → va_S (fun q => bs ≤ q) s.heap H locs → ls.size = mi.2.2.1 → c0 ≤ mm_cc u → s0 ≤ mm_ss u → H.size ≤ bs + mm_cc u → va_Run p l e R s m args below meth c H locs (mm_cc u - c0) (mm_ss u - s0) (mm_cc cres.2 - mm_cc u) (mm_ss cres.2 - mm_ss u) (F0 m pc ls (st.map (mv r))) (rest.map (mv r)) (mm_Qc D cy r bs cres av) (fun q => bs ≤ q)) :
    mm_G mi p l e R s m args below meth c D cy r bs c0 s0 Q res pc lv st u := by
  unfold mm_cr at h
  split at h
  · rename_i u2 hcall
    exact mm_callG (.inl none, u2) (hF _ _ _ _ hcall).1 (fun a1 H locs ls a2 a3 a4 a5 a6 a7 => mm_ofRun (hrun _ _ hcall rfl a1 H locs ls a2 a3 a4 a5 a6 a7)) (fun _ => hK _ _ _ _ h) (fun v hv => by cases hv) (fun x hx => by cases hx)
  · rename_i v u2 hcall
    exact mm_callG (.inl (some v), u2) (hF _ _ _ _ hcall).1 (fun a1 H locs ls a2 a3 a4 a5 a6 a7 => mm_ofRun (hrun _ _ hcall rfl a1 H locs ls a2 a3 a4 a5 a6 a7)) (fun hv => by cases hv) (fun v' hv => by cases hv; exact hK _ _ _ _ h) (fun x hx => by cases hx)
  · cases h
theorem mm_n1 {y : MethodName} {n : Nat} {st as : List Value} {a : Nat} (h1 : (parseMethodDescriptor y.desc).map (fun d => d.parameters.length + 1) = some n) (h : (st.take n).reverse = .ref a :: as) (hn : n ≤ st.length) : (parseMethodDescriptor y.desc).map (fun d => d.parameters.length) = some as.length := by
  have h2 := mm_take h hn
  cases hpd : parseMethodDescriptor y.desc with
  | none => rw [hpd] at h1; cases h1
  | some dd =>
    rw [hpd] at h1
    have h3 : dd.parameters.length + 1 = n := Option.some.inj h1
    show some dd.parameters.length = some as.length
    congr 1
    omega
/-- a constructor -/
theorem sn_ci {mi : mm_I} {pc k n idx maxL : Nat} {y : MethodName} {bytes : ByteArray} (hd : decode mi.2.1 pc = .ok (.invokespecial idx, 3)) (hk : mm_yh k = (y, .code y bytes maxL none)) (hm : Cond.code y bytes maxL none ∈ mm_gw) (hl : Cond.methodLink mi.1 idx y ∈ mm_gw) (hi9 : Cond.instanceMethod y ∈ mm_gw) (hini : Cond.initialized y.cls ∈ mm_gw) (hyn : y.name = "<init>")
    (hd9 : y.cls ≠ "java/lang/invoke/MethodHandle" ∧ y.cls ≠ "java/lang/invoke/VarHandle" ∧ (parseMethodDescriptor y.desc).map (fun d => d.parameters.length + 1) = some n) (hL : maxL ≤ 11) : mm_Snd mi pc (mo_ci k n) := by
  intro p l e R s m args below meth c D cy r bs sk sv c0 s0 Q res K F hc hF hE hK lv st u h
  simp only [mo_ci] at h
  split at h
  · rename_i a as hargs
    split at h
    · rename_i hq
      obtain ⟨hq1, hq2⟩ := hq
      refine mm_cr_G (av := ((Value.ref a :: as).map (mv r)).toArray) hF hK h (fun cres v hcall hv hend H locs ls hW hS hsize k1 k2 hsz => ?_)
      obtain ⟨hx, hb, hml, hr, hlk, hown, hnm, htb, hex, hrr, hrs, hts, hst, hbs, htr, hRf, hRl, hRc, hRs⟩ := hc
      have hM := mm_met hv ((hF _ _ _ _ hcall).2 D cy r bs sk sv hrr hrs)
      rw [hk] at hM
      have hmono := (hF _ _ _ _ hcall).1
      exact va_runI (nL := mi.2.2.1) (b := r a) (As := as.map (mv r)) ⟨hx, hb, hml, hown, hts⟩ hM (cwI as.length hts (mm_goodIn hm) rfl rfl rfl (hts _ hini) (hts _ hl) (hts _ hi9) hyn ⟨hd9.1, hd9.2.1, mm_n1 hd9.2.2 hargs hq1⟩ ⟨hRf, by show 8 + (maxL + 11) + 30 * F.1 ≤ R.locals; omega⟩) ⟨mm_blind, mm_calls hst hbs hW hS hsz⟩ rfl (by simp) hsize (mm_splitR hargs hq1) (mm_roomW m pc ls _ hq2) hd ⟨by omega, by omega⟩
    · cases h
  · cases h
theorem sn_ciN {mi : mm_I} {pc k n idx maxL : Nat} {y : MethodName} {bytes : ByteArray} {host : String} (hd : decode mi.2.1 pc = .ok (.invokespecial idx, 3)) (hk : mm_yh k = (y, .code y bytes maxL none)) (hm : Cond.code y bytes maxL none ∈ mm_gw) (hl : Cond.methodLinkNest mi.1 idx y host ∈ lw_tbl) (hi9 : Cond.instanceMethod y ∈ mm_gw) (hini : Cond.initialized y.cls ∈ mm_gw) (hyn : y.name = "<init>")
    (hd9 : y.cls ≠ "java/lang/invoke/MethodHandle" ∧ y.cls ≠ "java/lang/invoke/VarHandle" ∧ (parseMethodDescriptor y.desc).map (fun d => d.parameters.length + 1) = some n) (hL : maxL ≤ 11) : mm_Snd mi pc (mo_ci k n) := by
  intro p l e R s m args below meth c D cy r bs sk sv c0 s0 Q res K F hc hF hE hK lv st u h
  simp only [mo_ci] at h
  split at h
  · rename_i a as hargs
    split at h
    · rename_i hq
      obtain ⟨hq1, hq2⟩ := hq
      refine mm_cr_G (av := ((Value.ref a :: as).map (mv r)).toArray) hF hK h (fun cres v hcall hv hend H locs ls hW hS hsize k1 k2 hsz => ?_)
      obtain ⟨hx, hb, hml, hr, hlk, hown, hnm, htb, hex, hrr, hrs, hts, hst, hbs, htr, hRf, hRl, hRc, hRs⟩ := hc
      have hM := mm_met hv ((hF _ _ _ _ hcall).2 D cy r bs sk sv hrr hrs)
      rw [hk] at hM
      have hmono := (hF _ _ _ _ hcall).1
      exact va_runIN (nL := mi.2.2.1) (b := r a) (As := as.map (mv r)) ⟨hx, hb, hml, hown, hts⟩ hM ⟨va_cnB as.length hts (mm_goodIn hm) rfl rfl rfl (hst.2.1 _ hl rfl) (hts _ hini) ⟨hd9.1, hd9.2.1, mm_n1 hd9.2.2 hargs hq1⟩ ⟨hRf, by show 8 + (maxL + 11) + 30 * F.1 ≤ R.locals; omega⟩, hyn, hts _ hi9⟩ ⟨mm_blind, mm_calls hst hbs hW hS hsz⟩ rfl (by simp) hsize (mm_splitR hargs hq1) (mm_roomW m pc ls _ hq2) hd ⟨by omega, by omega⟩
    · cases h
  · cases h
/-- a nest mate's static method -/
theorem sn_snN {mi : mm_I} {pc k n idx maxL : Nat} {y : MethodName} {bytes : ByteArray} {ret : Option FieldType} {host : String} (hd : decode mi.2.1 pc = .ok (.invokestatic idx, 3)) (hk : mm_yh k = (y, .code y bytes maxL ret)) (hm : Cond.code y bytes maxL ret ∈ mm_gw) (hl : Cond.methodLinkNest mi.1 idx y host ∈ lw_tbl) (hst9 : Cond.static y ∈ mm_gw) (hini : Cond.initialized y.cls ∈ mm_gw)
    (hd9 : y.cls ≠ "java/lang/invoke/MethodHandle" ∧ y.cls ≠ "java/lang/invoke/VarHandle" ∧ (parseMethodDescriptor y.desc).map (fun d => d.parameters.length) = some n) (hL : maxL ≤ 11) : mm_Snd mi pc (mo_sn k n) := by
  intro p l e R s m args below meth c D cy r bs sk sv c0 s0 Q res K F hc hF hE hK lv st u h
  simp only [mo_sn] at h
  split at h
  · rename_i hq
    obtain ⟨hq1, hq2⟩ := hq
    refine mm_cr_G (av := (((st.take n).reverse).map (mv r)).toArray) hF hK h (fun cres v hcall hv hend H locs ls hW hS hsize k1 k2 hsz => ?_)
    obtain ⟨hx, hb, hml, hr, hlk, hown, hnm, htb, hex, hrr, hrs, hts, hst, hbs, htr, hRf, hRl, hRc, hRs⟩ := hc
    have hM := mm_met hv ((hF _ _ _ _ hcall).2 D cy r bs sk sv hrr hrs)
    rw [hk] at hM
    have hmono := (hF _ _ _ _ hcall).1
    exact va_runSN (nL := mi.2.2.1) ⟨hx, hb, hml, hown, hts⟩ hM ⟨va_cnB n hts (mm_goodIn hm) rfl rfl rfl (hst.2.1 _ hl rfl) (hts _ hini) hd9 ⟨hRf, by show 8 + (maxL + 11) + 30 * F.1 ≤ R.locals; omega⟩, hts _ hst9, trivial⟩ ⟨mm_blind, mm_calls hst hbs hW hS hsz⟩ rfl (by simp [hq1]) hsize (mm_split hq1) (mm_roomW m pc ls _ hq2) hd ⟨by omega, by omega⟩
  · cases h
/-- a static method that has handlers -/
theorem sn_csW {mi : mm_I} {pc k n idx maxL : Nat} {hh : List (Nat × Nat × Nat × Nat)} {y : MethodName} {bytes : ByteArray} {ret : Option FieldType} (hd : decode mi.2.1 pc = .ok (.invokestatic idx, 3)) (hk : mm_yh k = (y, .codeWith y bytes maxL ret hh)) (hm : Cond.codeWith y bytes maxL ret hh ∈ mm_gw) (hl : Cond.methodLink mi.1 idx y ∈ mm_gw) (hst9 : Cond.static y ∈ mm_gw) (hini : Cond.initialized y.cls ∈ mm_gw)
    (hd9 : y.cls ≠ "java/lang/invoke/MethodHandle" ∧ y.cls ≠ "java/lang/invoke/VarHandle" ∧ (parseMethodDescriptor y.desc).map (fun d => d.parameters.length) = some n) (hL : maxL ≤ 11) : mm_Snd mi pc (mo_sn k n) := by
  intro p l e R s m args below meth c D cy r bs sk sv c0 s0 Q res K F hc hF hE hK lv st u h
  simp only [mo_sn] at h
  split at h
  · rename_i hq
    obtain ⟨hq1, hq2⟩ := hq
    refine mm_cr_G (av := (((st.take n).reverse).map (mv r)).toArray) hF hK h (fun cres v hcall hv hend H locs ls hW hS hsize k1 k2 hsz => ?_)
    obtain ⟨hx, hb, hml, hr, hlk, hown, hnm, htb, hex, hrr, hrs, hts, hst, hbs, htr, hRf, hRl, hRc, hRs⟩ := hc
    have hM := mm_met hv ((hF _ _ _ _ hcall).2 D cy r bs sk sv hrr hrs)
    rw [hk] at hM
    have hmono := (hF _ _ _ _ hcall).1
    have cw : vx_CSW R s args mi.1 idx y bytes maxL ret hh (.codeWith y bytes maxL ret hh :: mm_gw) (mm_Rm F.1 (mm_cc cres.2 - mm_cc u) (mm_ss cres.2 - mm_ss u)) (mm_cc cres.2 - mm_cc u) (mm_ss cres.2 - mm_ss u) n :=
      ⟨⟨rfl, rfl, hRf, by show 8 + (maxL + 11) + 30 * F.1 ≤ R.locals; omega, pay_in hts (mm_goodIn hm), List.mem_cons_self⟩, hts _ hm, hts _ hini, ⟨hd9.1, hd9.2.1⟩, fun sig hsig => by
        have h1 := hd9.2.2
        rw [hsig] at h1
        exact (Option.some.inj h1).symm, hts _ hl, hts _ hst9⟩
    exact vx_runSW (nL := mi.2.2.1) ⟨hx, hb, hml, hown, hts⟩ hM cw ⟨mm_blind, mm_calls hst hbs hW hS hsz⟩ rfl (by simp [hq1]) hsize (mm_split hq1) (mm_roomW m pc ls _ hq2) hd ⟨by omega, by omega⟩
  · cases h
end MMI
