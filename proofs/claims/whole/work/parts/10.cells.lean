/-! the ops that read and write cells are sound -/
section MME
theorem mm_sh_si (u : mm_M) (a k : Nat) (v : Int32) : mm_sh (mm_si u a k v) = mm_sh u := rfl
theorem mm_sh_sl (u : mm_M) (a k : Nat) (v : Int64) : mm_sh (mm_sl u a k v) = mm_sh u := rfl
theorem mm_sh_sr (u : mm_M) (a k : Nat) (v : Option Nat) : mm_sh (mm_sr u a k v) = mm_sh u := rfl
theorem mm_u2_ne {α : Type} {f : Nat → Nat → α} {a k : Nat} {v : α} {i : Nat} (h : i ≠ a) : mm_u2 f a k v i = f i := by funext y; simp [mm_u2, h]
theorem mm_u2_eq {α : Type} {f : Nat → Nat → α} {a k : Nat} {v : α} : mm_u2 f a k v a = fun y => if y = k then v else f a y := by funext y; simp [mm_u2]
theorem mm_u1_ne {α : Type} {f : Nat → Nat → α} {a : Nat} {v : α} {i : Nat} (h : i ≠ a) : mm_u1 f a v i = f i := by funext y; simp [mm_u1, h]
theorem mm_u1_eq {α : Type} {f : Nat → Nat → α} {a : Nat} {v : α} : mm_u1 f a v a = fun _ => v := by funext y; simp [mm_u1]
theorem mm_at_congr {cy : Nat → ClassId} {r : Nat → Nat} {u u' : mm_M} {i : Nat} (x : Nat × Nat) (h1 : mm_it u' i = mm_it u i) (h2 : mm_rf u' i = mm_rf u i) (h3 : mm_lg u' i = mm_lg u i) : mm_at cy r u' i x = mm_at cy r u i x := by
  have e : mm_fv r u' i x.2 = mm_fv r u i x.2 := by funext k; simp [mm_fv, h1, h2]
  simp [mm_at, mm_ar, e, h1, h2, h3]
theorem mm_wl_set {cy : Nat → ClassId} {r : Nat → Nat} {u u' : mm_M} {a : Nat} {x : Nat × Nat} (hs : mm_sh u' = mm_sh u) (ho : ∀ i, i ≠ a → mm_it u' i = mm_it u i ∧ mm_rf u' i = mm_rf u i ∧ mm_lg u' i = mm_lg u i) (hx : (mm_sh u)[a]? = some x) : mm_wl cy r u' = (mm_wl cy r u).set a (r a, mm_at cy r u' a x) := by
  apply List.ext_getElem?
  intro i
  by_cases hi : i = a
  · subst hi
    have hl : i < (mm_wl cy r u).length := by
      have h1 := (List.getElem?_eq_some_iff.mp (mm_wl_at (cy := cy) (r := r) hx)).1
      exact h1
    rw [List.getElem?_set_self hl]
    exact mm_wl_at (by rw [hs]; exact hx)
  · rw [List.getElem?_set_ne (fun z => hi z.symm)]
    simp only [mm_wl, List.getElem?_mapIdx, hs]
    cases (mm_sh u)[i]? with
    | none => rfl
    | some y =>
      obtain ⟨h1, h2, h3⟩ := ho i hi
      simp [mm_at_congr y h1 h2 h3]
theorem mm_obj {cy : Nat → ClassId} {r : Nat → Nat} {u : mm_M} {a ci : Nat} {C : String} {T : u_T} {N : Nat} (h : (mm_sh u)[a]? = some (0, ci)) (hc : vwCl[ci]? = some (C, T, N)) : (mm_wl cy r u)[a]? = some (r a, .inr (ci, (List.range N).map (mm_fv r u a ci))) := by
  have hn : mm_nf ci = N := by unfold mm_nf; rw [hc]
  rw [mm_wl_at h]
  simp [mm_at, hn]
theorem mm_arr {cy : Nat → ClassId} {r : Nat → Nat} {u : mm_M} {a : Nat} {x : Nat × Nat} (h : (mm_sh u)[a]? = some x) (ht : x.1 ≠ 0) : (mm_wl cy r u)[a]? = some (r a, .inl (cy x.1, x.2, mm_ar r u a x.1)) := by
  rw [mm_wl_at h]
  simp [mm_at, ht]
theorem mm_fv_i {r : Nat → Nat} {u : mm_M} {a ci k : Nat} (hq : mm_rq ci k = false) : mm_fv r u a ci k = .int (mm_it u a k) := by simp [mm_fv, hq]
theorem mm_fv_r {r : Nat → Nat} {u : mm_M} {a ci k q : Nat} (hq : mm_rq ci k = true) (h : mm_rf u a k = some q) : mm_fv r u a ci k = .ref (r q) := by simp [mm_fv, hq, h, va_rf]
theorem mm_fs_get {r : Nat → Nat} {u : mm_M} {a ci k N : Nat} (hk : k < N) : ((List.range N).map (mm_fv r u a ci))[k]? = some (mm_fv r u a ci k) := by simp [hk]
theorem mm_fs_set {r : Nat → Nat} {u u' : mm_M} {a ci k N : Nat} {v : Value} (hv : mm_fv r u' a ci k = v) (ho : ∀ j, j ≠ k → mm_fv r u' a ci j = mm_fv r u a ci j) : (List.range N).map (mm_fv r u' a ci) = ((List.range N).map (mm_fv r u a ci)).set k v := by
  apply List.ext_getElem?
  intro i
  by_cases hi : i = k
  · subst hi
    by_cases hN : i < N
    · rw [List.getElem?_set_self (by simpa using hN)]
      simp [hN, hv]
    · rw [List.getElem?_eq_none (by simpa using hN), List.getElem?_eq_none (by simpa using hN)]
  · rw [List.getElem?_set_ne (fun z => hi z.symm)]
    simp only [List.getElem?_map]
    cases hr : (List.range N)[i]? with
    | none => rfl
    | some z =>
      have hz : z = i := by
        have := List.getElem?_eq_some_iff.mp hr
        obtain ⟨h1, h2⟩ := this
        simpa using h2.symm
      subst hz
      simp [ho z hi]
/-- the world behind a write -/
theorem mm_W_set {D : va_G} {cy : Nat → ClassId} {r : Nat → Nat} {bs : Nat} {u u' : mm_M} {H H1 : Heap} {a : Nat} {x : Nat × Nat} (hW : mm_W D cy r bs u H) (hs : mm_sh u' = mm_sh u) (ho : ∀ i, i ≠ a → mm_it u' i = mm_it u i ∧ mm_rf u' i = mm_rf u i ∧ mm_lg u' i = mm_lg u i) (hx : (mm_sh u)[a]? = some x) (hP : va_P D vwCl ((mm_wl cy r u).set a (r a, mm_at cy r u' a x)) H1) : mm_W D cy r bs u' H1 :=
  ⟨by rw [mm_wl_set hs ho hx]; exact hP, by rw [hs]; exact hW.2⟩
theorem mm_si_off (u : mm_M) (a k : Nat) (v : Int32) : ∀ i, i ≠ a → mm_it (mm_si u a k v) i = mm_it u i ∧ mm_rf (mm_si u a k v) i = mm_rf u i ∧ mm_lg (mm_si u a k v) i = mm_lg u i := fun _ h => ⟨mm_u2_ne h, rfl, rfl⟩
theorem mm_sl_off (u : mm_M) (a k : Nat) (v : Int64) : ∀ i, i ≠ a → mm_it (mm_sl u a k v) i = mm_it u i ∧ mm_rf (mm_sl u a k v) i = mm_rf u i ∧ mm_lg (mm_sl u a k v) i = mm_lg u i := fun _ h => ⟨rfl, rfl, mm_u2_ne h⟩
theorem mm_sr_off (u : mm_M) (a k : Nat) (v : Option Nat) : ∀ i, i ≠ a → mm_it (mm_sr u a k v) i = mm_it u i ∧ mm_rf (mm_sr u a k v) i = mm_rf u i ∧ mm_lg (mm_sr u a k v) i = mm_lg u i := fun _ h => ⟨rfl, mm_u2_ne h, rfl⟩
theorem mm_it_si_eq (u : mm_M) (a k : Nat) (v : Int32) : mm_it (mm_si u a k v) a = upd (mm_it u a) k v := by funext y; simp [mm_it, mm_si, mm_u2, upd]
theorem mm_at_si_obj {cy : Nat → ClassId} {r : Nat → Nat} {u : mm_M} {a ci k N : Nat} {C : String} {T : u_T} {v : Int32} (hc : vwCl[ci]? = some (C, T, N)) (hq : mm_rq ci k = false) : mm_at cy r (mm_si u a k v) a (0, ci) = .inr (ci, ((List.range N).map (mm_fv r u a ci)).set k (.int v)) := by
  have hn : mm_nf ci = N := by unfold mm_nf; rw [hc]
  have h := mm_fs_set (r := r) (u := u) (u' := mm_si u a k v) (a := a) (ci := ci) (k := k) (N := N) (v := .int v) (by simp [mm_fv, hq, mm_it, mm_si, mm_u2]) (fun j hj => by simp [mm_fv, mm_it, mm_rf, mm_si, mm_u2, hj])
  simp [mm_at, hn, h]
theorem mm_at_sr_obj {cy : Nat → ClassId} {r : Nat → Nat} {u : mm_M} {a ci k N q : Nat} {C : String} {T : u_T} (hc : vwCl[ci]? = some (C, T, N)) (hq : mm_rq ci k = true) : mm_at cy r (mm_sr u a k (some q)) a (0, ci) = .inr (ci, ((List.range N).map (mm_fv r u a ci)).set k (.ref (r q))) := by
  have hn : mm_nf ci = N := by unfold mm_nf; rw [hc]
  have h := mm_fs_set (r := r) (u := u) (u' := mm_sr u a k (some q)) (a := a) (ci := ci) (k := k) (N := N) (v := .ref (r q)) (by simp [mm_fv, hq, mm_rf, mm_sr, mm_u2, va_rf]) (fun j hj => by simp [mm_fv, mm_it, mm_rf, mm_sr, mm_u2, hj])
  simp [mm_at, hn, h]
theorem mm_at_si_arr {cy : Nat → ClassId} {r : Nat → Nat} {u : mm_M} {a k t n : Nat} {v : Int32} (h0 : t ≠ 0) (h3 : t ≤ 3) : mm_at cy r (mm_si u a k v) a (t, n) = .inl (cy t, n, .inl (upd (mm_it u a) k v)) := by
  simp [mm_at, mm_ar, h0, h3, mm_it_si_eq]
theorem mm_at_sl_arr {cy : Nat → ClassId} {r : Nat → Nat} {u : mm_M} {a k n : Nat} {v : Int64} : mm_at cy r (mm_sl u a k v) a (4, n) = .inl (cy 4, n, .inr (.inl (vp_updL (mm_lg u a) k v))) := by
  have h : mm_lg (mm_sl u a k v) a = vp_updL (mm_lg u a) k v := by funext y; simp [mm_lg, mm_sl, mm_u2, vp_updL]
  simp [mm_at, mm_ar, h]
theorem mm_at_sr_arr {cy : Nat → ClassId} {r : Nat → Nat} {u : mm_M} {a k t n q : Nat} (h5 : 5 ≤ t) : mm_at cy r (mm_sr u a k (some q)) a (t, n) = .inl (cy t, n, .inr (.inr (.inr (.inr (va_up (fun j => (mm_rf u a j).map r) k (some (r q))))))) := by
  have h : (fun j => (mm_rf (mm_sr u a k (some q)) a j).map r) = va_up (fun j => (mm_rf u a j).map r) k (some (r q)) := by
    funext y
    by_cases hy : y = k <;> simp [mm_rf, mm_sr, mm_u2, va_up, hy]
  have h0 : t ≠ 0 := by omega
  have h3 : ¬ t ≤ 3 := by omega
  have h4 : t ≠ 4 := by omega
  simp [mm_at, mm_ar, h0, h3, h4, h]
/-- an op that writes: same counts -/
theorem mm_write {mi : mm_I} {p : Program} {l : Launch} {e : Env} {R : Room} {s : State} {m : MethodId} {args : Array Value} {below : List Frame} {meth : Method} {c : Code} {D : va_G} {cy : Nat → ClassId} {r : Nat → Nat} {bs c0 s0 : Nat} {Q : State → Prop} {res : mm_R} {pc pc' : Nat} {lv : mm_L} {st st' : List Value} {u u' : mm_M}
    (hcc : mm_cc u' = mm_cc u) (hss : mm_ss u' = mm_ss u) (hK : mm_G mi p l e R s m args below meth c D cy r bs c0 s0 Q res pc' lv st' u')
    (hstep : ∀ (H : Heap) (locs : List Loc) (cells slots : Nat) (ls : Array Slot), mm_W D cy r bs u H → va_S (fun q => bs ≤ q) s.heap H locs → (∀ (H1 : Heap) (locs1 : List Loc), mm_W D cy r bs u' H1 → va_S (fun q => bs ≤ q) s.heap H1 locs1 → W p l e R s m args below meth c H1 locs1 cells slots Q (F0 m pc' ls (st'.map (mv r)))) → W p l e R s m args below meth c H locs cells slots Q (F0 m pc ls (st.map (mv r)))) :
    mm_G mi p l e R s m args below meth c D cy r bs c0 s0 Q res pc lv st u := by
  refine ⟨by rw [← hcc, ← hss]; exact hK.1, fun H locs ls hW hS hl h1 h2 h3 => hstep H locs _ _ ls hW hS (fun H1 locs1 hW1 hS1 => ?_)⟩
  have := hK.2 H1 locs1 ls hW1 hS1 hl (by rw [hcc]; exact h1) (by rw [hss]; exact h2) h3
  rw [hcc, hss] at this
  exact this
end MME
