/-! making, ends -/
section MMH
theorem mm_sz {p : Program} {l : Launch} {e : Env} {R : Room} {s : State} {m : MethodId} {args : Array Value} {below : List Frame} {meth : Method} {c : Code} {H : Heap} {locs : List Loc} {cells slots : Nat} {Q : State → Prop} {g : JFrame} (h : H.size ≤ s.heap.size + cells → W p l e R s m args below meth c H locs cells slots Q g) : W p l e R s m args below meth c H locs cells slots Q g :=
  fun T hT X => h (by rw [← hT]; exact X.heapSize) T hT X
theorem mm_W_new {D : va_G} {cy : Nat → ClassId} {r : Nat → Nat} {bs n : Nat} {u : mm_M} {H H1 : Heap} {x : Nat × Nat} (hW : mm_W D cy r bs u H) (hr : r (mm_sh u).length = bs + (mm_sh u).length) (hk : ∀ q, q < H.size → H1[q]? = H[q]?) (he : va_at D vwCl (r (mm_sh u).length, mm_at cy r (mm_nw u x n) (mm_sh u).length x) H1) : mm_W D cy r bs (mm_nw u x n) H1 := by
  have hs : mm_sh (mm_nw u x n) = mm_sh u ++ [x] := rfl
  refine ⟨fun k q hq => ?_, fun i hi => ?_⟩
  · obtain ⟨y, hy, rfl⟩ := mm_wl_of hq
    rw [hs] at hy
    by_cases hlt : k < (mm_sh u).length
    · rw [List.getElem?_append_left hlt] at hy
      have hne : k ≠ (mm_sh u).length := Nat.ne_of_lt hlt
      have e1 : mm_it (mm_nw u x n) k = mm_it u k := mm_u1_ne hne
      have e2 : mm_rf (mm_nw u x n) k = mm_rf u k := mm_u1_ne hne
      have e3 : mm_lg (mm_nw u x n) k = mm_lg u k := mm_u1_ne hne
      rw [mm_at_congr y e1 e2 e3]
      have h0 := hW.1 k _ (mm_wl_at (cy := cy) (r := r) hy)
      exact h0.kept (hk _ h0.lt)
    · rw [List.getElem?_append_right (by omega)] at hy
      have hz : k - (mm_sh u).length < 1 := (List.getElem?_eq_some_iff.mp hy).1
      have hk0 : k = (mm_sh u).length := by omega
      subst hk0
      rw [Nat.sub_self] at hy
      cases hy
      exact he
  · rw [hs, List.length_append] at hi
    by_cases hlt : i < (mm_sh u).length
    · exact hW.2 i hlt
    · have : i = (mm_sh u).length := by simp at hi; omega
      rw [this]
      exact hr
theorem mm_nw_it (u : mm_M) (x : Nat × Nat) (n : Nat) : mm_it (mm_nw u x n) (mm_sh u).length = fun _ => 0 := mm_u1_eq
theorem mm_nw_rf (u : mm_M) (x : Nat × Nat) (n : Nat) : mm_rf (mm_nw u x n) (mm_sh u).length = fun _ => none := mm_u1_eq
theorem mm_nw_lg (u : mm_M) (x : Nat × Nat) (n : Nat) : mm_lg (mm_nw u x n) (mm_sh u).length = fun _ => 0 := mm_u1_eq
theorem mm_va_S_new {A : Nat → Prop} {H0 H H1 : Heap} {locs : List Loc} (hS : va_S A H0 H locs) (z : H1.size = H.size + 1) (o : ∀ q, q < H.size → H1[q]? = H[q]?) : va_S A H0 H1 locs :=
  ⟨Nat.le_trans hS.1 (by omega), fun x h1 h2 => (o x (Nat.lt_of_lt_of_le h1 hS.1)).trans (hS.2.1 x h1 h2), hS.2.2⟩
set_option maxHeartbeats 1000000 in
theorem sn_new {mi : mm_I} {pc ci idx N : Nat} {C : String} {T : u_T} (hd : decode mi.2.1 pc = .ok (.new idx, 3)) (hcl : vwCl[ci]? = some (C, T, N)) (hin : ∀ w ∈ u_ws C T N, w ∈ mm_gw) (hty : ∀ j, j < N → parseFieldDescriptor (T j).2.2.1 = some (mm_ty ci j)) (hdf : ∀ j, j < N → defaultValue (mm_ty ci j) = if mm_rq ci j = true then .null else .int 0) (hw : Cond.classLink mi.1 idx C ∈ mm_gw) (hins : Cond.instantiable C N ∈ mm_gw) (hini : Cond.initialized C ∈ mm_gw) : mm_Snd mi pc (mo_new ci N) := by
  intro p l e R s m args below meth c D cy r bs sk sv c0 s0 Q res K F hc hF hE hK lv st u h
  obtain ⟨hx, hb, hml, hr, hlk, hown, hnm, htb, hex, hrr, hrs, hts, hst, hbs, htr, hRf, hRl, hRc, hRs⟩ := hc
  simp only [mo_new] at h
  split at h
  · rename_i hq
    obtain ⟨hq, hlt⟩ := hq
    have g := hK _ _ _ _ h
    have g1 : mm_cc u + 1 ≤ mm_cc res.2 ∧ mm_ss u + N ≤ mm_ss res.2 := g.1
    refine ⟨⟨by omega, by omega⟩, fun H locs ls hW hS hl h1 h2 h3 => mm_sz fun hsz => ?_⟩
    have hH : H.size = bs + (mm_sh u).length := by
      have := mm_size hW (Nat.le_trans hbs hS.1)
      omega
    have hrl := hrr _ hlt
    have hKn := hst.1.1 ci _ hcl
    refine W.newcK hx hb hown (hts _ hw) (hts _ hins) (hts _ hini) rfl hd (by omega) (by omega) hKn.2.1 rfl fun H1 kC hkC e1 z1 o1 => ?_
    have hob : t_OB H.size (D.1 ci) N (D.2 ci) H1 (fun k => defaultValue (mm_ty ci k)) := u_born (mm_ty ci) hts hin hKn hkC e1 hty
    have hnf : mm_nf ci = N := by unfold mm_nf; rw [hcl]
    have hW1 : mm_W D cy r bs (mm_nw u (0, ci) N) H1 := by
      refine mm_W_new hW hrl o1 ?_
      rw [hrl, ← hH]
      show va_at D vwCl (H.size, mm_at cy r (mm_nw u (0, ci) N) (mm_sh u).length (0, ci)) H1
      have e2 : mm_at cy r (mm_nw u (0, ci) N) (mm_sh u).length (0, ci) = .inr (ci, (List.range N).map (mm_fv r (mm_nw u (0, ci) N) (mm_sh u).length ci)) := by simp [mm_at, hnf]
      rw [e2]
      refine ⟨_, hcl, hob.to fun k hk => ?_⟩
      have e3 : vp_V ((List.range N).map (mm_fv r (mm_nw u (0, ci) N) (mm_sh u).length ci)) k = mm_fv r (mm_nw u (0, ci) N) (mm_sh u).length ci k := by
        unfold vp_V
        rw [List.getD_eq_getElem?_getD, mm_fs_get hk]
        rfl
      rw [hdf k hk, e3]
      unfold mm_fv
      rw [mm_nw_it, mm_nw_rf]
      rfl
    have g2 := g.2 H1 locs ls hW1 (mm_va_S_new hS z1 o1) hl (Nat.le_trans h1 (Nat.le_add_right _ 1)) (Nat.le_trans h2 (Nat.le_add_right _ N)) h3
    have e4 : mm_cc (mm_nw u (0, ci) N) - c0 = mm_cc u - c0 + 1 := by
      show mm_cc u + 1 - c0 = _
      omega
    have e5 : mm_ss (mm_nw u (0, ci) N) - s0 = mm_ss u - s0 + N := by
      show mm_ss u + N - s0 = _
      omega
    rw [e4, e5] at g2
    have e6 : (Value.ref (mm_sh u).length :: st).map (mv r) = .ref H.size :: st.map (mv r) := by
      rw [List.map_cons]
      show Value.ref (r (mm_sh u).length) :: _ = _
      rw [hrl, hH]
    rw [e6] at g2
    exact g2
  · cases h
theorem mm_cA {cy : Nat → ClassId} {D : va_G} {s : State} {t : Nat} {ty : FieldType} {cA : ClassId} (hK : va_K D vwCl (mm_tys cy) s) (ht : (mm_tys cy)[t - 1]? = some (cy t, ty)) (hno : ∀ C, ty ≠ .object C) (h : s.vm.findClass ("[" ++ ty.toString) = some cA) : cA = cy t := by
  have h1 := (hK.2 _ _ ht).2
  have h2 : s.vm.findClass ("[" ++ ty.toString) = some (cy t) := by
    cases ty with
    | object C => exact absurd rfl (hno C)
    | _ => exact h1
  exact Option.some.inj (h.symm.trans h2)
set_option maxHeartbeats 1000000 in
theorem sn_newa {mi : mm_I} {pc t : Nat} {a9 : ArrayType} {ty : FieldType} (hd : decode mi.2.1 pc = .ok (.newarray a9, 2)) (hty : newarray.typeOf a9 = ty) (ht : ∀ cy, (mm_tys cy)[t - 1]? = some (cy t, ty)) (h0 : t ≠ 0) (hno : ∀ C, ty ≠ .object C) (hw : Cond.arrayClass ty ∈ mm_gw) (hcb : componentBytes ty ≤ 8) (hce : ∀ (cA : ClassId) (n : Nat) (r : Nat → Nat) (u : mm_M) (i : Nat), mm_it u i = (fun _ => 0) → mm_lg u i = (fun _ => 0) → vp_cell cA (n, mm_ar r u i t) = arrV cA n (fun _ => defaultValue ty)) : mm_Snd mi pc (mo_nwa 2 t) := by
  intro p l e R s m args below meth c D cy r bs sk sv c0 s0 Q res K F hc hF hE hK lv st u h
  obtain ⟨hx, hb, hml, hr, hlk, hown, hnm, htb, hex, hrr, hrs, hts, hst, hbs, htr, hRf, hRl, hRc, hRs⟩ := hc
  subst hty
  simp only [mo_nwa] at h
  split at h
  · rename_i v rest
    split at h
    · rename_i hq
      obtain ⟨⟨hq, hlt⟩, hv, hvn⟩ := hq
      have g := hK _ _ _ _ h
      have g1 : mm_cc u + 1 ≤ mm_cc res.2 ∧ mm_ss u + v.toNatClampNeg ≤ mm_ss res.2 := g.1
      refine ⟨⟨by omega, by omega⟩, fun H locs ls hW hS hl h1 h2 h3 => mm_sz fun hsz => ?_⟩
      have hH : H.size = bs + (mm_sh u).length := by
        have := mm_size hW (Nat.le_trans hbs hS.1)
        omega
      have hrl := hrr _ hlt
      refine va_newaK hx hb (hts _ hw) rfl hd rfl hv rfl (Nat.le_trans (Nat.mul_le_mul (Nat.le_of_lt hvn) hcb) (by decide)) (by omega) (by omega) rfl fun H1 cA e1 z1 o1 hAr hNm => ?_
      have hcA : cA = cy t := mm_cA hst.1 (ht cy) hno hNm
      subst hcA
      have hW1 : mm_W D cy r bs (mm_nw u (t, v.toNatClampNeg) v.toNatClampNeg) H1 := by
        refine mm_W_new hW hrl o1 ?_
        rw [hrl, ← hH]
        have e2 : mm_at cy r (mm_nw u (t, v.toNatClampNeg) v.toNatClampNeg) (mm_sh u).length (t, v.toNatClampNeg) = .inl (cy t, v.toNatClampNeg, mm_ar r (mm_nw u (t, v.toNatClampNeg) v.toNatClampNeg) (mm_sh u).length t) := by simp [mm_at, h0]
        rw [e2]
        show H1[H.size]? = some (vp_cell _ _)
        rw [hce _ _ _ _ _ (mm_nw_it _ _ _) (mm_nw_lg _ _ _)]
        exact e1
      have g2 := g.2 H1 locs ls hW1 (mm_va_S_new hS z1 o1) hl (Nat.le_trans h1 (Nat.le_add_right _ 1)) (Nat.le_trans h2 (Nat.le_add_right _ _)) h3
      have e4 : mm_cc (mm_nw u (t, v.toNatClampNeg) v.toNatClampNeg) - c0 = mm_cc u - c0 + 1 := by
        show mm_cc u + 1 - c0 = _
        omega
      have e5 : mm_ss (mm_nw u (t, v.toNatClampNeg) v.toNatClampNeg) - s0 = mm_ss u - s0 + v.toNatClampNeg := by
        show mm_ss u + v.toNatClampNeg - s0 = _
        omega
      rw [e4, e5] at g2
      have e6 : (Value.ref (mm_sh u).length :: rest).map (mv r) = .ref H.size :: rest.map (mv r) := by
        rw [List.map_cons]
        show Value.ref (r (mm_sh u).length) :: _ = _
        rw [hrl, hH]
      rw [e6] at g2
      exact g2
    · cases h
  · cases h
set_option maxHeartbeats 1000000 in
theorem sn_anew {mi : mm_I} {pc t idx : Nat} {C : String} (hd : decode mi.2.1 pc = .ok (.anewarray idx, 3)) (ht5 : 5 ≤ t) (ht : ∀ cy, (mm_tys cy)[t - 1]? = some (cy t, .object C)) (hw : Cond.classLink mi.1 idx C ∈ mm_gw) (hao : ∀ D cy bs sk sv U H, mm_S D cy bs sk sv U H → va_AO C U) : mm_Snd mi pc (mo_nwa 3 t) := by
  intro p l e R s m args below meth c D cy r bs sk sv c0 s0 Q res K F hc hF hE hK lv st u h
  obtain ⟨hx, hb, hml, hr, hlk, hown, hnm, htb, hex, hrr, hrs, hts, hst, hbs, htr, hRf, hRl, hRc, hRs⟩ := hc
  simp only [mo_nwa] at h
  split at h
  · rename_i v rest
    split at h
    · rename_i hq
      obtain ⟨⟨hq, hlt⟩, hv, hvn⟩ := hq
      have g := hK _ _ _ _ h
      have g1 : mm_cc u + 1 ≤ mm_cc res.2 ∧ mm_ss u + v.toNatClampNeg ≤ mm_ss res.2 := g.1
      refine ⟨⟨by omega, by omega⟩, fun H locs ls hW hS hl h1 h2 h3 => mm_sz fun hsz => ?_⟩
      have hH : H.size = bs + (mm_sh u).length := by
        have := mm_size hW (Nat.le_trans hbs hS.1)
        omega
      have hrl := hrr _ hlt
      refine W.anew hx hb hown (hts _ hw) (va_AO.use (hao _ _ _ _ _ _ _ hst)) rfl hd rfl hv (by omega) (by omega) (by omega) fun cA kA comp f1 f2 f3 f4 => ?_
      have hcA : cA = cy t := by
        obtain ⟨kA', comp', -, -, -, q4⟩ := (hst.1.2 _ _ (ht cy)).2
        exact Option.some.inj (f1.symm.trans q4)
      subst hcA
      generalize hH1 : H.push ({ cls := cy t, slots := Array.replicate v.toNatClampNeg .null, vm := .none } : Cell) = H1
      have z1 : H1.size = H.size + 1 := by rw [← hH1, Array.size_push]
      have e1 : H1[H.size]? = some (arrV (cy t) v.toNatClampNeg (fun _ => .null)) := by rw [← hH1, Array.getElem?_push_size, ← arrV_new]
      have o1 : ∀ q : Nat, q < H.size → H1[q]? = H[q]? := fun q hq => by rw [← hH1, Array.getElem?_push, if_neg (Nat.ne_of_lt hq)]
      have hW1 : mm_W D cy r bs (mm_nw u (t, v.toNatClampNeg) v.toNatClampNeg) H1 := by
        refine mm_W_new hW hrl o1 ?_
        rw [hrl, ← hH]
        have h0 : t ≠ 0 := by omega
        have e2 : mm_at cy r (mm_nw u (t, v.toNatClampNeg) v.toNatClampNeg) (mm_sh u).length (t, v.toNatClampNeg) = .inl (cy t, v.toNatClampNeg, mm_ar r (mm_nw u (t, v.toNatClampNeg) v.toNatClampNeg) (mm_sh u).length t) := by simp [mm_at, h0]
        rw [e2, mm_ar_r ht5, mm_nw_rf]
        show H1[H.size]? = some (vp_cell _ _)
        rw [vp_cell_q]
        exact e1
      have g2 := g.2 H1 locs ls hW1 (mm_va_S_new hS z1 o1) hl (Nat.le_trans h1 (Nat.le_add_right _ 1)) (Nat.le_trans h2 (Nat.le_add_right _ _)) h3
      have e4 : mm_cc (mm_nw u (t, v.toNatClampNeg) v.toNatClampNeg) - c0 = mm_cc u - c0 + 1 := by
        show mm_cc u + 1 - c0 = _
        omega
      have e5 : mm_ss (mm_nw u (t, v.toNatClampNeg) v.toNatClampNeg) - s0 = mm_ss u - s0 + v.toNatClampNeg := by
        show mm_ss u + v.toNatClampNeg - s0 = _
        omega
      rw [e4, e5] at g2
      have e6 : (Value.ref (mm_sh u).length :: rest).map (mv r) = .ref H.size :: rest.map (mv r) := by
        rw [List.map_cons]
        show Value.ref (r (mm_sh u).length) :: _ = _
        rw [hrl, hH]
      rw [e6] at g2
      exact g2
    · cases h
  · cases h
theorem mm_ct_of {r : Nat → Nat} {st : List Value} (h : mm_ct st = true) : ((st.map (mv r)).map fun v => v.category).sum ≤ 8 := by
  have h1 : (st.map fun v => v.category).sum ≤ 8 := of_decide_eq_true h
  have e : ((st.map (mv r)).map fun v => v.category) = st.map fun v => v.category := by
    rw [List.map_map]
    congr 1
    funext v
    exact mv_cat r v
  rw [e]
  exact h1
theorem sn_obj {mi : mm_I} {pc idx : Nat} (hd : decode mi.2.1 pc = .ok (.invokespecial idx, 3)) (h1 : Cond.methodLink mi.1 idx objectInit ∈ mm_gw) (h2 : Cond.instanceMethod objectInit ∈ mm_gw) (h3 : Cond.code objectInit ⟨#[0xb1]⟩ 1 none ∈ mm_gw) : mm_Snd mi pc mo_obj := by
  intro p l e R s m args below meth c D cy r bs sk sv c0 s0 Q res K F hc hF hE hK lv st u h
  obtain ⟨hx, hb, hml, hr, hlk, hown, hnm, htb, hex, hrr, hrs, hts, hst, hbs, htr, hRf, hRl, hRc, hRs⟩ := hc
  simp only [mo_obj] at h
  split at h
  · rename_i a rest
    split at h
    · rename_i hq
      exact mm_same (hK _ _ _ _ h) (fun H locs cells slots ls hW hS hl kk => W.objInit hx hb hown (hts _ h1) (hts _ h2) (hts _ h3) rfl (hl.1.trans hml.symm) rfl hd (by omega) (by
        have := mm_ct_of (r := r) hq
        show 2 * 0 + _ + 12 ≤ _
        omega) (kk ls hl))
    · cases h
  · cases h
theorem sn_max {mi : mm_I} {pc idx : Nat} (hd : decode mi.2.1 pc = .ok (.invokestatic idx, 3)) (h1 : Cond.methodLink mi.1 idx Lib.Math.max.name ∈ mm_gw) (h2 : Cond.static Lib.Math.max.name ∈ mm_gw) (h3 : Cond.initialized "java/lang/Math" ∈ mm_gw) (h4 : Cond.code Lib.Math.max.name Lib.Math.max.code 2 (some .int) ∈ mm_gw) : mm_Snd mi pc mo_max := by
  intro p l e R s m args below meth c D cy r bs sk sv c0 s0 Q res K F hc hF hE hK lv st u h
  obtain ⟨hx, hb, hml, hr, hlk, hown, hnm, htb, hex, hrr, hrs, hts, hst, hbs, htr, hRf, hRl, hRc, hRs⟩ := hc
  simp only [mo_max] at h
  split at h
  · rename_i y x rest
    split at h
    · rename_i hq
      have g := hK _ _ _ _ h
      refine ⟨g.1, fun H locs ls hW hS hl k1 k2 k3 => va_mmax hx hb (hml.trans hl.1.symm) hown (hts _ h1) (hts _ h2) (hts _ h3) (hts _ h4) (by omega) (by
        have := mm_ct_of (r := r) hq
        omega) (by have := g.1.1; omega) (by have := g.1.2; omega) hd (g.2 H locs ls hW hS hl k1 k2 k3)⟩
    · cases h
  · cases h
-- ends
theorem sn_ireturn {mi : mm_I} {pc : Nat} (hd : decode mi.2.1 pc = .ok (.ireturn, 1)) (ht : mi.2.2.2.1 = some .int) : mm_Snd mi pc mo_iret := by
  intro p l e R s m args below meth c D cy r bs sk sv c0 s0 Q res K F hc hF hE hK lv st u h
  simp only [mo_iret] at h
  split at h
  · cases h
    exact ⟨⟨Nat.le_refl _, Nat.le_refl _⟩, fun H locs ls hW hS hl h1 h2 h3 => hE.1 pc ls H locs _ rfl ⟨_, ht, rfl⟩ hd hW hS⟩
  · cases h
theorem sn_zreturn {mi : mm_I} {pc : Nat} (hd : decode mi.2.1 pc = .ok (.ireturn, 1)) (ht : mi.2.2.2.1 = some .boolean) : mm_Snd mi pc mo_zret := by
  intro p l e R s m args below meth c D cy r bs sk sv c0 s0 Q res K F hc hF hE hK lv st u h
  simp only [mo_zret] at h
  split at h
  · split at h
    · rename_i hv
      cases h
      exact ⟨⟨Nat.le_refl _, Nat.le_refl _⟩, fun H locs ls hW hS hl h1 h2 h3 => hE.1 pc ls H locs _ rfl ⟨_, ht, by rcases hv with rfl | rfl <;> rfl⟩ hd hW hS⟩
    · cases h
  · cases h
theorem sn_nreturn {mi : mm_I} {pc : Nat} {ty : FieldType} (hd : decode mi.2.1 pc = .ok (.ireturn, 1)) (ht : mi.2.2.2.1 = some ty) : mm_Snd mi pc (mo_nret ty) := by
  intro p l e R s m args below meth c D cy r bs sk sv c0 s0 Q res K F hc hF hE hK lv st u h
  simp only [mo_nret] at h
  split at h
  · split at h
    · rename_i hv
      cases h
      exact ⟨⟨Nat.le_refl _, Nat.le_refl _⟩, fun H locs ls hW hS hl h1 h2 h3 => hE.1 pc ls H locs _ rfl ⟨_, ht, hv⟩ hd hW hS⟩
    · cases h
  · cases h
theorem sn_lreturn {mi : mm_I} {pc : Nat} (hd : decode mi.2.1 pc = .ok (.lreturn, 1)) (ht : mi.2.2.2.1 = some .long) : mm_Snd mi pc mo_lret := by
  intro p l e R s m args below meth c D cy r bs sk sv c0 s0 Q res K F hc hF hE hK lv st u h
  simp only [mo_lret] at h
  split at h
  · cases h
    exact ⟨⟨Nat.le_refl _, Nat.le_refl _⟩, fun H locs ls hW hS hl h1 h2 h3 => hE.2.1 pc ls H locs _ rfl ht hd hW hS⟩
  · cases h
theorem sn_freturn {mi : mm_I} {pc : Nat} (hd : decode mi.2.1 pc = .ok (.freturn, 1)) (ht : mi.2.2.2.1 = some .float) : mm_Snd mi pc mo_fret := by
  intro p l e R s m args below meth c D cy r bs sk sv c0 s0 Q res K F hc hF hE hK lv st u h
  simp only [mo_fret] at h
  split at h
  · cases h
    exact ⟨⟨Nat.le_refl _, Nat.le_refl _⟩, fun H locs ls hW hS hl h1 h2 h3 => hE.2.2.1 pc ls H locs _ rfl ht hd hW hS⟩
  · cases h
theorem sn_areturn {mi : mm_I} {pc : Nat} (hd : decode mi.2.1 pc = .ok (.areturn, 1)) (ht : ∃ C, mi.2.2.2.1 = some (.object C)) : mm_Snd mi pc mo_aret := by
  intro p l e R s m args below meth c D cy r bs sk sv c0 s0 Q res K F hc hF hE hK lv st u h
  simp only [mo_aret] at h
  split at h
  · cases h
    exact ⟨⟨Nat.le_refl _, Nat.le_refl _⟩, fun H locs ls hW hS hl h1 h2 h3 => hE.2.2.2.1 pc ls H locs _ rfl ht hd hW hS⟩
  · cases h
theorem sn_return {mi : mm_I} {pc : Nat} (hd : decode mi.2.1 pc = .ok (.return_, 1)) (ht : mi.2.2.2.1 = none) : mm_Snd mi pc mo_ret := by
  intro p l e R s m args below meth c D cy r bs sk sv c0 s0 Q res K F hc hF hE hK lv st u h
  simp only [mo_ret] at h
  split at h
  · cases h
    exact ⟨⟨Nat.le_refl _, Nat.le_refl _⟩, fun H locs ls hW hS hl h1 h2 h3 => hE.2.2.2.2.1 pc ls H locs rfl ht hd hW hS⟩
  · cases h
theorem sn_thr {mi : mm_I} {pc x : Nat} (hT : mm_Th mi pc x) : mm_Snd mi pc (mo_thr x) := by
  intro p l e R s m args below meth c D cy r bs sk sv c0 s0 Q res K F hc hF hE hK lv st u h
  simp only [mo_thr] at h
  split at h
  · split at h
    · rename_i hq
      cases h
      exact ⟨⟨Nat.le_add_right _ 1, Nat.le_add_right _ 6⟩, fun H locs ls hW hS hl h1 h2 h3 => hE.2.2.2.2.2.2 pc ls H locs u x rfl hT hq hl.1 hW hS h1 h2⟩
    · cases h
  · cases h
end MMH
