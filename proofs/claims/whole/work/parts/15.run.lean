/-! the small machine's runs are runs of the machine -/
section MMJ
theorem mm_ends {mi : mm_I} {p : Program} {l : Launch} {e : Env} {R : Room} {s : State} {m : MethodId} {args : Array Value} {below : List Frame} {meth : Method} {c : Code} {D : va_G} {cy : Nat → ClassId} {r : Nat → Nat} {bs sk sv c0 s0 d : Nat} {res : mm_R} (hc : mm_Cx mi p l R s m args meth c D cy r bs sk sv d (mm_cc res.2 - c0) (mm_ss res.2 - s0)) :
    mm_SE mi p l e R s m args below meth c D cy r bs c0 s0 d (vx_MQ below (mm_Qc D cy r bs res) (mm_XC D cy r bs res) args s (mm_cc res.2 - c0) (mm_ss res.2 - s0) (fun q => bs ≤ q)) res := by
  obtain ⟨hx, hb, hml, hr, hlk, hown, hnm, htb, hex, hrr, hrs, hts, hst, hbs, htr, hRf, hRl, hRc, hRs⟩ := hc
  refine ⟨?_, ?_, ?_, ?_, ?_, ?_, ?_⟩
  · intro pc ls H locs v hv ht hd hW hS
    obtain ⟨ty, ht, hn⟩ := ht
    exact vx_ret (W.zret hx hb (hr.trans ht) hn (fun t h1 h2 => ⟨⟨_, hv, rfl⟩, by rw [h1]; exact hW, hS.F h1⟩) hS.2.2 hd hlk)
  · intro pc ls H locs v hv ht hd hW hS
    exact vx_ret (W.lret hx hb (hr.trans ht) (fun t h1 h2 => ⟨⟨_, hv, rfl⟩, by rw [h1]; exact hW, hS.F h1⟩) hS.2.2 hd hlk)
  · intro pc ls H locs v hv ht hd hW hS
    exact vx_ret (W.fret hx hb (hr.trans ht) (fun t h1 h2 => ⟨⟨_, hv, rfl⟩, by rw [h1]; exact hW, hS.F h1⟩) hS.2.2 hd hlk)
  · intro pc ls H locs v hv ht hd hW hS
    obtain ⟨C, ht⟩ := ht
    exact vx_ret (W.aret hx hb (hr.trans ht) (Or.inl ⟨C, rfl⟩) (Or.inr ⟨_, rfl⟩) (fun t h1 h2 => ⟨⟨_, hv, rfl⟩, by rw [h1]; exact hW, hS.F h1⟩) hS.2.2 hd hlk)
  · intro pc ls H locs hv ht hd hW hS
    exact vx_ret (W.vret hx hb (hr.trans ht) (fun t h1 h2 => ⟨⟨_, hv, rfl⟩, by rw [h1]; exact hW, hS.F h1⟩) hS.2.2 hd hlk)
  · intro pc ls H locs rest q ce x hv hno hW hS hce hcv hcl
    exact vx_out (E := mm_ex x) (by rw [htb, hno]; intro _ z; cases z) hlk hce hcv hcl (fun t h1 h2 => ⟨⟨x, hv, rfl⟩, by rw [h1]; exact hW, hS.F h1⟩) hS.2.2 (Nat.le_refl _) (Nat.le_refl _)
  · intro pc ls H locs u x hres hT h5 hls hW hS h1 h2
    obtain ⟨ik, is, ic, text, hno, d0, d3, d4, d6, d9, hfit, w1, w2, w3, w4⟩ := hT
    obtain ⟨sa, hsa⟩ := hst.2.2.2.2.1 _ _ _ w3
    have e1 : mm_cc res.2 = mm_cc u + 1 := by rw [hres]; rfl
    have e2 : mm_ss res.2 = mm_ss u + 6 := by rw [hres]; rfl
    have hXC : ∀ t : State, s.vm.Alike t.vm → H.size ≤ t.heap.size → (∀ q : Nat, q < H.size → t.heap[q]? = H[q]?) → mm_XC D cy r bs res (mm_ex x) s t := by
      intro t ha hz hk
      refine ⟨⟨x, by rw [hres], rfl⟩, ?_, Nat.le_trans hS.1 hz, fun q h3 h4 => ?_⟩
      · rw [hres]
        exact ⟨hW.1.kept (fun k q hq => hk _ (hW.1 k q hq).lt), hW.2⟩
      · rw [hk q (Nat.lt_of_lt_of_le h3 hS.1)]
        exact hS.2.1 q h3 h4
    have hwd : ∀ w, w ∈ lw_tbl ∧ vx_ot w = true ∧ (goodWord w = true ∨ mm_nq w = true) → w.before args s = true := by
      intro w ⟨q1, q2, q3⟩
      rcases q3 with q3 | q3
      · exact hts _ (List.mem_filter.mpr ⟨q1, q3⟩)
      · exact va_Nw.use (mm_nq_on q3) (hst.2.1 _ q1 q3)
    rcases w4 with w4 | ⟨i1, by1, b0, b1, b2, b5, w4⟩
    · refine vx_throwS (A := fun q => bs ≤ q) (names := ["java/lang/RuntimeException", "java/lang/Exception"]) hx hb htr hown hfit (by decide +kernel) (hts _ w1) (hts _ w2) hsa (fun w hw => hwd w (w4 w hw)) (fun w hw => ?_) hst.2.2.1 hst.2.2.2.1 hS (hls.trans hml.symm) d0 d3 d4 d6 d9 (by rw [htb, hno]; intro _ z; cases z) (by show 2 + 3 < R.frames; omega) (by show 0 + (13 * (2 + 1) + 43) ≤ R.locals; omega) (by omega) (by omega) hlk hXC hS.2.2 (by omega) (by omega)
      rcases List.mem_cons.mp hw with rfl | hw
      · rfl
      · rcases List.mem_cons.mp hw with rfl | hw
        · rfl
        · exact (w4 w hw).2.1
    · exact mx_throw (A := fun q => bs ≤ q) hx hb htr hown hfit b0 b1 b2 b5 (hts _ w1) (hts _ w2) hsa (fun w hw => hwd w (w4 w hw)) (fun w hw => (w4 w hw).2.1) hst.2.2.1 hst.2.2.2.1 hS (hls.trans hml.symm) d0 d3 d4 d6 d9 (by rw [htb, hno]; intro _ z; cases z) (by omega) (by show 0 + 82 ≤ R.locals; omega) (by omega) (by omega) hlk hXC hS.2.2 (by omega) (by omega)
/-- a whole method, given that its ops are sound -/
theorem mm_lp_snd {mi : mm_I} {p : Program} {l : Launch} {e : Env} {R : Room} {s : State} {m : MethodId} {args : Array Value} {below : List Frame} {meth : Method} {c : Code} {D : va_G} {cy : Nat → ClassId} {r : Nat → Nat} {bs sk sv c0 s0 : Nat} {Q : State → Prop} {res : mm_R} {F : mm_F} {T : Nat → Option mm_O} (hT : ∀ pc o, T pc = some o → mm_Snd mi pc o) (hc : mm_Cx mi p l R s m args meth c D cy r bs sk sv F.1 (mm_cc res.2 - c0) (mm_ss res.2 - s0)) (hF : mm_SF l F) (hE : mm_SE mi p l e R s m args below meth c D cy r bs c0 s0 F.1 Q res) :
    ∀ (n pc : Nat) (lv : mm_L) (st : List Value) (u : mm_M), mm_lp T F n pc lv st u = some res → mm_G mi p l e R s m args below meth c D cy r bs c0 s0 Q res pc lv st u := by
  intro n
  induction n with
  | zero => intro pc lv st u h; cases h
  | succ n ih =>
    intro pc lv st u h
    simp only [mm_lp] at h
    split at h
    · rename_i o ho
      exact hT pc o ho p l e R s m args below meth c D cy r bs sk sv c0 s0 Q res (mm_lp T F n) F hc hF hE (fun pc lv st u h => ih pc lv st u h) lv st u h
    · cases h
/-- the counts don't fall -/
def mm_ck (u : mm_M) : Option mm_R → Option mm_R
  | some res => if mm_cc u ≤ mm_cc res.2 ∧ mm_ss u ≤ mm_ss res.2 then some res else none
  | none => none
theorem mm_ck_of {u : mm_M} {o : Option mm_R} {res : mm_R} (h : mm_ck u o = some res) : o = some res ∧ mm_cc u ≤ mm_cc res.2 ∧ mm_ss u ≤ mm_ss res.2 := by
  cases o with
  | none => cases h
  | some q =>
    simp only [mm_ck] at h
    split at h
    · rename_i hq
      cases h
      exact ⟨rfl, hq⟩
    · cases h
def mm_run (md : Nat → mm_I × (Nat → Option mm_O)) (fuel : Nat) : Nat → Nat → List Value → mm_M → Option mm_R
  | 0 => fun _ _ _ => none
  | d + 1 => fun k as u => if (as.map fun v => v.category).sum ≤ (md k).1.2.2.1 then mm_ck u (mm_lp (md k).2 (d, mm_run md fuel d) fuel 0 (mm_lv0 as) [] u) else none
/-- the name and head word of a method, its info and its ops -/
def mm_Vd (yh : MethodName × Cond) (b : mm_I × (Nat → Option mm_O)) : Prop :=
  yh.2 ∈ mm_gw ∧ plainName yh.1.cls = true ∧ b.1.1 = yh.1.cls ∧ b.1.2.2.2.2.1 = yh.1.name ∧ (∀ s r bs, b.1.2.2.2.2.2.2 s r bs) ∧ ((b.1.2.2.2.2.2.1 = [] ∧ yh.2 = .code yh.1 b.1.2.1 b.1.2.2.1 b.1.2.2.2.1) ∨ ∃ hh, b.1.2.2.2.2.2.1 = tableOf hh ∧ yh.2 = .codeWith yh.1 b.1.2.1 b.1.2.2.1 b.1.2.2.2.1 hh) ∧ ∀ pc o, b.2 pc = some o → mm_Snd b.1 pc o
theorem mv_args (r : Nat → Nat) : ∀ (as : List Value) (i : Nat), lv_args i (as.map (mv r)) = mvl r (lv_args i as) := by
  intro as
  induction as with
  | nil => intro i; rfl
  | cons v t ih =>
    intro i
    simp only [List.map_cons, lv_args, mvl, mv_cat]
    rw [ih]
    rfl
theorem mm_slots (as : List Value) : (lg_sl as).length = (as.map fun v => v.category).sum := by
  induction as with
  | nil => rfl
  | cons v t ih =>
    simp only [lg_sl, List.flatMap_cons, List.length_append, List.map_cons, List.sum_cons] at ih ⊢
    rw [ih]
    cases v <;> rfl
theorem mm_sound {l : Launch} (htr : l.stackTraces = false) {md : Nat → mm_I × (Nat → Option mm_O)} (hV : ∀ k, mm_Vd (mm_yh k) (md k)) (fuel : Nat) : ∀ d, mm_SF l (d, mm_run md fuel d) := by
  intro d
  induction d with
  | zero => intro k as u res h; cases h
  | succ d ih =>
    intro k as u res h
    simp only [mm_run] at h
    split at h
    · rename_i hcat
      obtain ⟨h, hmono⟩ := mm_ck_of h
      obtain ⟨v1, v2, v3, v4, v5, v6, v7⟩ := hV k
      generalize hyh : mm_yh k = yh at *
      obtain ⟨y, w⟩ := yh
      generalize hmk : md k = b at *
      obtain ⟨mi, T⟩ := b
      dsimp only at v1 v2 v3 v4 v5 v6 v7 h hcat
      have body : ∀ (D : va_G) (cy : Nat → ClassId) (r : Nat → Nat) (bs sk sv : Nat), (∀ i, i < 100000 → r i = bs + i) → (r 200000 = sk ∧ r 200001 = sv) → ∀ (p : Program) (e : Env) (s : State) (m : MethodId) (args : Array Value) (below : List Frame) (meth : Method) (c : Code), p.tables.exec = Jvm.exec → c.code = mi.2.1 → c.maxLocals = mi.2.2.1 → meth.sig.returnType = mi.2.2.2.1 → meth.locks = false → s.vm.findClass mi.1 = some m.cls → meth.name = mi.2.2.2.2.1 → c.exceptionTable.toList = mi.2.2.2.2.2.1 → (∀ w ∈ mm_gw, w.before args s = true) → mm_Pc D cy r bs sk sv as u args s →
          (mm_cc u ≤ mm_cc res.2 ∧ mm_ss u ≤ mm_ss res.2) ∧ W p l e (mm_Rm (d + 1) (mm_cc res.2 - mm_cc u) (mm_ss res.2 - mm_ss u)) s m args below meth c s.heap [] 0 0 (vx_MQ below (mm_Qc D cy r bs res) (mm_XC D cy r bs res) args s (mm_cc res.2 - mm_cc u) (mm_ss res.2 - mm_ss u) (fun q => bs ≤ q)) (entryFrame m args mi.2.2.1) := by
        intro D cy r bs sk sv hrr hrs p e s m args below meth c hx hb hml hr hlk hown hnm htb hts hP
        obtain ⟨rfl, hW, hst, hbs, hsz⟩ := hP
        have hc : mm_Cx mi p l (mm_Rm (d + 1) (mm_cc res.2 - mm_cc u) (mm_ss res.2 - mm_ss u)) s m (as.map (mv r)).toArray meth c D cy r bs sk sv d (mm_cc res.2 - mm_cc u) (mm_ss res.2 - mm_ss u) :=
          ⟨hx, hb, hml, hr, hlk, hown, hnm, htb, v5 _ _ _, hrr, hrs, hts, hst, hbs, htr, Nat.le_refl _, Nat.le_refl _, Nat.le_refl _, Nat.le_refl _⟩
        have g := mm_lp_snd (below := below) (e := e) (F := (d, mm_run md fuel d)) v7 hc ih (mm_ends hc) fuel 0 (mm_lv0 as) [] u h
        refine ⟨g.1, ?_⟩
        have hln : (lg_sl (as.map (mv r))).length ≤ mi.2.2.1 := by
          rw [mm_slots, List.map_map]
          have e1 : ((fun v : Value => v.category) ∘ mv r) = fun v => v.category := by funext v; exact mv_cat r v
          rw [e1]
          exact hcat
        have hl := lv_entry (as.map (mv r)) (n := mi.2.2.1) hln
        rw [lg_entry_eq]
        have hl' : lv_has ((lg_sl (as.map (mv r)) ++ List.replicate (mi.2.2.1 - (lg_sl (as.map (mv r))).length) Slot.unset).toArray) mi.2.2.1 (mvl r (mm_lv0 as)) := by
          rw [mm_lv0, ← mv_args]
          exact hl
        have g2 := g.2 s.heap [] _ hW va_S.rf hl' (Nat.le_refl _) (Nat.le_refl _) hsz
        rw [Nat.sub_self, Nat.sub_self] at g2
        exact g2
      refine ⟨hmono, fun D cy r bs sk sv hrr hrs => ?_⟩
      rcases v6 with ⟨ht, hw⟩ | ⟨hh, ht, hw⟩
      · have hw' : w = .code y mi.2.1 mi.2.2.1 mi.2.2.2.1 := hw
        subst hw'
        refine vx_ofW (cc := mi.2.1) (maxL := mi.2.2.1) (ret := mi.2.2.2.1) v2 rfl ?_
        intro p e s m args below meth c s₁ B hml9 ht9 hP
        have hts := atoms_spec (ws := .code y mi.2.1 mi.2.2.1 mi.2.2.2.1 :: mm_gw) B.pre
        have htb : c.exceptionTable.toList = mi.2.2.2.2.2.1 := by
          rw [ht]
          cases hz : c.exceptionTable.toList with
          | nil => rfl
          | cons a b => exact (ht9 a (by rw [hz]; exact List.mem_cons_self)).elim
        exact (body D cy r bs sk sv hrr hrs p e s m args below meth c B.exec B.bytes hml9 B.returns B.notSynchronized (by rw [v3]; exact findClass_of_methodNamed B.named) (by rw [v4]; exact (name_of_methodNamed B.named B.method).1) htb (fun w hw => hts w (List.mem_cons_of_mem _ hw)) hP).2
      · have hw' : w = .codeWith y mi.2.1 mi.2.2.1 mi.2.2.2.1 hh := hw
        subst hw'
        refine vx_ofWH (cc := mi.2.1) (maxL := mi.2.2.1) (ret := mi.2.2.2.1) (hh := hh) v2 rfl ?_
        intro p e s m args below meth c s₁ B hml9 hP
        have hts := atoms_spec (ws := .codeWith y mi.2.1 mi.2.2.1 mi.2.2.2.1 hh :: mm_gw) B.pre
        have htb : c.exceptionTable.toList = mi.2.2.2.2.2.1 := by
          rw [ht]
          exact vx_table (x := y) B (hts _ List.mem_cons_self)
        exact (body D cy r bs sk sv hrr hrs p e s m args below meth c B.exec B.bytes hml9 B.returns B.notSynchronized (by rw [v3]; exact findClass_of_methodNamed B.named) (by rw [v4]; exact (name_of_methodNamed B.named B.method).1) htb (fun w hw => hts w (List.mem_cons_of_mem _ hw)) hP).2
    · cases h
end MMJ
