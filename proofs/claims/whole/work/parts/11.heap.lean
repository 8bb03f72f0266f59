section MMF
theorem mm_ld_get {r : Nat → Nat} : ∀ {lv : mm_L} {i : Nat} {v : Value}, mm_ld lv i = some v → ∃ k : Nat, (mvl r lv)[k]? = some (i, mv r v) := by
  intro lv
  induction lv with
  | nil => intro i v h; cases h
  | cons q t ih =>
    intro i v h
    simp only [mm_ld] at h
    cases hb : Nat.beq q.1 i with
    | true =>
      rw [hb] at h
      have e : q.1 = i := Nat.eq_of_beq_eq_true hb
      have h' : some q.2 = some v := h
      cases h'
      exact ⟨0, by rw [← e]; rfl⟩
    | false =>
      rw [hb] at h
      obtain ⟨k, hk⟩ := ih h
      exact ⟨k + 1, by simpa [mvl] using hk⟩
theorem sn_iinc {mi : mm_I} {pc : Nat} {i : Nat} {n : Int} {z : Int32} (hd : decode mi.2.1 pc = .ok (.iinc i n, 3)) (hz : Int32.ofInt n = z) (hn : i < mi.2.2.1) : mm_Snd mi pc (mo_inc i z) := by
  intro p l e R s m args below meth c D cy r bs sk sv c0 s0 Q res K F hc hF hE hK lv st u h
  simp only [mo_inc] at h
  split at h
  · rename_i x hq
    obtain ⟨k, hk⟩ := mm_ld_get (r := r) hq
    exact mm_same (hK _ _ _ _ h) (fun H locs cells slots ls hW hS hl kk => lv_iinc hc.1 hc.2.1 hd hl (k := k) (v := x + z) hk (by rw [hz]) hn (mm_s1_map r lv i (Value.int _)).symm (fun ls hl => kk ls hl))
  · cases h
theorem sn_gti {mi : mm_I} {pc ci k idx N : Nat} {C : String} {T : u_T} (hd : decode mi.2.1 pc = .ok (.getfield idx, 3)) (hcl : vwCl[ci]? = some (C, T, N)) (hk : k < N) (hin : ∀ w ∈ u_ws C T N, w ∈ mm_gw) (hw : Cond.fieldLink mi.1 idx (T k).1 (T k).2.1 (T k).2.2.1 ∈ mm_gw) (hq : mm_rq ci k = false) : mm_Snd mi pc (mo_gti ci k) := by
  intro p l e R s m args below meth c D cy r bs sk sv c0 s0 Q res K F hc hF hE hK lv st u h
  obtain ⟨hx, hb, hml, hr, hlk, hown, hnm, htb, hex, hrr, hrs, hts, hst, hbs, htr, hRf, hRl, hRc, hRs⟩ := hc
  simp only [mo_gti] at h
  split at h
  · split at h
    · rename_i hsh
      exact mm_same (hK _ _ _ _ h) (fun H locs cells slots ls hW hS hl kk => va_get hx hb hts hin hown hst.1 hW.1 _ (mm_obj hsh hcl) hcl k hk (hts _ hw) (fun _ z => z) (by rw [mm_fs_get hk, mm_fv_i hq] <;> rfl) hd (kk ls hl))
    · cases h
  · cases h
theorem sn_gtr {mi : mm_I} {pc ci k idx N : Nat} {C : String} {T : u_T} (hd : decode mi.2.1 pc = .ok (.getfield idx, 3)) (hcl : vwCl[ci]? = some (C, T, N)) (hk : k < N) (hin : ∀ w ∈ u_ws C T N, w ∈ mm_gw) (hw : Cond.fieldLink mi.1 idx (T k).1 (T k).2.1 (T k).2.2.1 ∈ mm_gw) (hq : mm_rq ci k = true) : mm_Snd mi pc (mo_gtr ci k) := by
  intro p l e R s m args below meth c D cy r bs sk sv c0 s0 Q res K F hc hF hE hK lv st u h
  obtain ⟨hx, hb, hml, hr, hlk, hown, hnm, htb, hex, hrr, hrs, hts, hst, hbs, htr, hRf, hRl, hRc, hRs⟩ := hc
  simp only [mo_gtr] at h
  split at h
  · split at h
    · rename_i hsh
      split at h
      · rename_i q hrf
        exact mm_same (hK _ _ _ _ h) (fun H locs cells slots ls hW hS hl kk => va_get hx hb hts hin hown hst.1 hW.1 _ (mm_obj hsh hcl) hcl k hk (hts _ hw) (fun _ z => z) (by rw [mm_fs_get hk, mm_fv_r hq hrf] <;> rfl) hd (kk ls hl))
      · cases h
    · cases h
  · cases h
theorem sn_gtiN {mi : mm_I} {pc ci k idx N : Nat} {C host : String} {T : u_T} (hd : decode mi.2.1 pc = .ok (.getfield idx, 3)) (hcl : vwCl[ci]? = some (C, T, N)) (hk : k < N) (hin : ∀ w ∈ u_ws C T N, w ∈ mm_gw) (hw : Cond.fieldLinkNest mi.1 idx (T k).1 (T k).2.1 (T k).2.2.1 host ∈ lw_tbl) (hq : mm_rq ci k = false) : mm_Snd mi pc (mo_gti ci k) := by
  intro p l e R s m args below meth c D cy r bs sk sv c0 s0 Q res K F hc hF hE hK lv st u h
  obtain ⟨hx, hb, hml, hr, hlk, hown, hnm, htb, hex, hrr, hrs, hts, hst, hbs, htr, hRf, hRl, hRc, hRs⟩ := hc
  simp only [mo_gti] at h
  split at h
  · split at h
    · rename_i hsh
      exact mm_same (hK _ _ _ _ h) (fun H locs cells slots ls hW hS hl kk => va_getN hx hb hts hin hown hst.1 hW.1 _ (mm_obj hsh hcl) hcl k hk (va_Nw.use rfl (hst.2.1 _ hw rfl)) (fun _ z => z) (by rw [mm_fs_get hk, mm_fv_i hq] <;> rfl) hd (kk ls hl))
    · cases h
  · cases h
theorem sn_gtrN {mi : mm_I} {pc ci k idx N : Nat} {C host : String} {T : u_T} (hd : decode mi.2.1 pc = .ok (.getfield idx, 3)) (hcl : vwCl[ci]? = some (C, T, N)) (hk : k < N) (hin : ∀ w ∈ u_ws C T N, w ∈ mm_gw) (hw : Cond.fieldLinkNest mi.1 idx (T k).1 (T k).2.1 (T k).2.2.1 host ∈ lw_tbl) (hq : mm_rq ci k = true) : mm_Snd mi pc (mo_gtr ci k) := by
  intro p l e R s m args below meth c D cy r bs sk sv c0 s0 Q res K F hc hF hE hK lv st u h
  obtain ⟨hx, hb, hml, hr, hlk, hown, hnm, htb, hex, hrr, hrs, hts, hst, hbs, htr, hRf, hRl, hRc, hRs⟩ := hc
  simp only [mo_gtr] at h
  split at h
  · split at h
    · rename_i hsh
      split at h
      · rename_i q hrf
        exact mm_same (hK _ _ _ _ h) (fun H locs cells slots ls hW hS hl kk => va_getN hx hb hts hin hown hst.1 hW.1 _ (mm_obj hsh hcl) hcl k hk (va_Nw.use rfl (hst.2.1 _ hw rfl)) (fun _ z => z) (by rw [mm_fs_get hk, mm_fv_r hq hrf] <;> rfl) hd (kk ls hl))
      · cases h
    · cases h
  · cases h
theorem sn_pti {mi : mm_I} {pc ci k idx N : Nat} {C : String} {T : u_T} (hd : decode mi.2.1 pc = .ok (.putfield idx, 3)) (hcl : vwCl[ci]? = some (C, T, N)) (hk : k < N) (hin : ∀ w ∈ u_ws C T N, w ∈ mm_gw) (hty : ∀ j, j < N → parseFieldDescriptor (T j).2.2.1 = some (mm_ty ci j)) (hnm0 : ∀ a, a < N → ∀ b, b < N → a ≠ b → (T a).2.1 ≠ (T b).2.1) (hw : Cond.fieldLink mi.1 idx (T k).1 (T k).2.1 (T k).2.2.1 ∈ mm_gw) (hi : mm_ty ci k = .int) (hfin : (T k).2.2.2 = false) : mm_Snd mi pc (mo_pti ci k) := by
  intro p l e R s m args below meth c D cy r bs sk sv c0 s0 Q res K F hc hF hE hK lv st u h
  obtain ⟨hx, hb, hml, hr, hlk, hown, hnm, htb, hex, hrr, hrs, hts, hst, hbs, htr, hRf, hRl, hRc, hRs⟩ := hc
  have hq : mm_rq ci k = false := by simp [mm_rq, hi]
  simp only [mo_pti] at h
  split at h
  · rename_i v a rest
    split at h
    · rename_i hsh
      exact mm_write (pc' := pc + 3) (st' := rest) (u' := mm_si u a k v) rfl rfl (hK _ _ _ _ h) (fun H locs cells slots ls hW hS kk => va_put (v := .int v) (ty := .int) hx hb hts hin (mm_ty ci) hty hnm0 hown hst.1 hW.1 (mm_D hW) hS a (mm_obj hsh hcl) hcl k hk (hts _ hw) (fun _ z => z) hfin (by rw [hty k hk, hi]) rfl rfl (by simpa using hk) hd
        (fun H1 locs1 hP1 _ hS1 => kk H1 locs1 (mm_W_set hW rfl (mm_si_off u a k v) hsh (by rw [mm_at_si_obj hcl hq]; exact hP1)) hS1))
    · cases h
  · cases h
theorem sn_ptz {mi : mm_I} {pc ci k idx N : Nat} {C : String} {T : u_T} (hd : decode mi.2.1 pc = .ok (.putfield idx, 3)) (hcl : vwCl[ci]? = some (C, T, N)) (hk : k < N) (hin : ∀ w ∈ u_ws C T N, w ∈ mm_gw) (hty : ∀ j, j < N → parseFieldDescriptor (T j).2.2.1 = some (mm_ty ci j)) (hnm0 : ∀ a, a < N → ∀ b, b < N → a ≠ b → (T a).2.1 ≠ (T b).2.1) (hw : Cond.fieldLink mi.1 idx (T k).1 (T k).2.1 (T k).2.2.1 ∈ mm_gw) (hi : mm_ty ci k = .boolean) (hfin : (T k).2.2.2 = false) : mm_Snd mi pc (mo_ptz ci k) := by
  intro p l e R s m args below meth c D cy r bs sk sv c0 s0 Q res K F hc hF hE hK lv st u h
  obtain ⟨hx, hb, hml, hr, hlk, hown, hnm, htb, hex, hrr, hrs, hts, hst, hbs, htr, hRf, hRl, hRc, hRs⟩ := hc
  have hq : mm_rq ci k = false := by simp [mm_rq, hi]
  simp only [mo_ptz] at h
  split at h
  · rename_i v a rest
    split at h
    · rename_i hsh
      split at h
      · rename_i hv
        have hn : narrow .boolean (.int v) = .int v ∧ fits .boolean (.int v) = true := by
          rcases hv with rfl | rfl
          · exact ⟨rfl, rfl⟩
          · exact ⟨rfl, rfl⟩
        exact mm_write (pc' := pc + 3) (st' := rest) (u' := mm_si u a k v) rfl rfl (hK _ _ _ _ h) (fun H locs cells slots ls hW hS kk => va_put (v := .int v) (ty := .boolean) hx hb hts hin (mm_ty ci) hty hnm0 hown hst.1 hW.1 (mm_D hW) hS a (mm_obj hsh hcl) hcl k hk (hts _ hw) (fun _ z => z) hfin (by rw [hty k hk, hi]) hn.1 hn.2 (by simpa using hk) hd
          (fun H1 locs1 hP1 _ hS1 => kk H1 locs1 (mm_W_set hW rfl (mm_si_off u a k v) hsh (by rw [mm_at_si_obj hcl hq]; exact hP1)) hS1))
      · cases h
    · cases h
  · cases h
/-- a final reference field, in a constructor -/
theorem sn_ptr {mi : mm_I} {pc ci k idx N : Nat} {C : String} {T : u_T} (hd : decode mi.2.1 pc = .ok (.putfield idx, 3)) (hcl : vwCl[ci]? = some (C, T, N)) (hk : k < N) (hin : ∀ w ∈ u_ws C T N, w ∈ mm_gw) (hty : ∀ j, j < N → parseFieldDescriptor (T j).2.2.1 = some (mm_ty ci j)) (hnm0 : ∀ a, a < N → ∀ b, b < N → a ≠ b → (T a).2.1 ≠ (T b).2.1) (hw : Cond.fieldLink mi.1 idx (T k).1 (T k).2.1 (T k).2.2.1 ∈ mm_gw) (hi : mm_rq ci k = true) (hfin : (T k).2.2.2 = true) (hini : mi.2.2.2.2.1 = "<init>") (hdc : (T k).1 = mi.1)
    (hnar : ∀ q : Nat, narrow (mm_ty ci k) (.ref q) = .ref q ∧ fits (mm_ty ci k) (.ref q) = true) : mm_Snd mi pc (mo_ptr ci k) := by
  intro p l e R s m args below meth c D cy r bs sk sv c0 s0 Q res K F hc hF hE hK lv st u h
  obtain ⟨hx, hb, hml, hr, hlk, hown, hnm, htb, hex, hrr, hrs, hts, hst, hbs, htr, hRf, hRl, hRc, hRs⟩ := hc
  simp only [mo_ptr] at h
  split at h
  · rename_i v a rest
    split at h
    · rename_i hsh
      split at h
      · exact mm_write (pc' := pc + 3) (st' := rest) (u' := mm_sr u a k (some v)) rfl rfl (hK _ _ _ _ h) (fun H locs cells slots ls hW hS kk => va_putF (v := .ref (r v)) (ty := mm_ty ci k) hx hb hts hin (mm_ty ci) hty hnm0 hown hst.1 hW.1 (mm_D hW) hS a (mm_obj hsh hcl) hcl k hk (hts _ hw) (fun _ z => z) hfin (hnm.trans hini) hdc (hty k hk) (hnar _).1 (hnar _).2 (by simpa using hk) hd
          (fun H1 locs1 hP1 _ hS1 => kk H1 locs1 (mm_W_set hW rfl (mm_sr_off u a k (some v)) hsh (by rw [mm_at_sr_obj hcl hi]; exact hP1)) hS1))
      · cases h
    · cases h
  · cases h
theorem mm_in_of {i : Int32} {n : Nat} (h : mm_in i n = true) : vp_in i n := fun z => absurd z (of_decide_eq_true (p := ¬ (i < 0 ∨ n ≤ i.toNatClampNeg)) h)
theorem sn_ialoadK {mi : mm_I} {pc : Nat} (hd : decode mi.2.1 pc = .ok (.iaload, 1)) : mm_Snd mi pc (mo_ald 1) := by
  intro p l e R s m args below meth c D cy r bs sk sv c0 s0 Q res K F hc hF hE hK lv st u h
  obtain ⟨hx, hb, hml, hr, hlk, hown, hnm, htb, hex, hrr, hrs, hts, hst, hbs, htr, hRf, hRl, hRc, hRs⟩ := hc
  simp only [mo_ald] at h
  split at h
  · split at h
    · rename_i x hsh
      split at h
      · rename_i hq
        obtain ⟨t, n⟩ := x
        obtain ⟨rfl, hq⟩ := hq
        exact mm_same (hK _ _ _ _ h) (fun H locs cells slots ls hW hS hl kk => va_iald hx hb hst.1 hW.1 _ 0 (mm_arr hsh (by simp)) rfl (mm_in_of hq) hd (kk ls hl))
      · cases h
    · cases h
  · cases h
theorem sn_zaloadK {mi : mm_I} {pc : Nat} (hd : decode mi.2.1 pc = .ok (.baload, 1)) : mm_Snd mi pc (mo_ald 2) := by
  intro p l e R s m args below meth c D cy r bs sk sv c0 s0 Q res K F hc hF hE hK lv st u h
  obtain ⟨hx, hb, hml, hr, hlk, hown, hnm, htb, hex, hrr, hrs, hts, hst, hbs, htr, hRf, hRl, hRc, hRs⟩ := hc
  simp only [mo_ald] at h
  split at h
  · split at h
    · rename_i x hsh
      split at h
      · rename_i hq
        obtain ⟨t, n⟩ := x
        obtain ⟨rfl, hq⟩ := hq
        exact mm_same (hK _ _ _ _ h) (fun H locs cells slots ls hW hS hl kk => va_zald hx hb hst.1 hW.1 _ 1 (mm_arr hsh (by simp)) rfl (mm_in_of hq) hd (kk ls hl))
      · cases h
    · cases h
  · cases h
theorem sn_caloadK {mi : mm_I} {pc : Nat} (hd : decode mi.2.1 pc = .ok (.caload, 1)) : mm_Snd mi pc (mo_ald 3) := by
  intro p l e R s m args below meth c D cy r bs sk sv c0 s0 Q res K F hc hF hE hK lv st u h
  obtain ⟨hx, hb, hml, hr, hlk, hown, hnm, htb, hex, hrr, hrs, hts, hst, hbs, htr, hRf, hRl, hRc, hRs⟩ := hc
  simp only [mo_ald] at h
  split at h
  · split at h
    · rename_i x hsh
      split at h
      · rename_i hq
        obtain ⟨t, n⟩ := x
        obtain ⟨rfl, hq⟩ := hq
        exact mm_same (hK _ _ _ _ h) (fun H locs cells slots ls hW hS hl kk => va_cald hx hb hst.1 hW.1 _ 2 (mm_arr hsh (by simp)) rfl (mm_in_of hq) hd (kk ls hl))
      · cases h
    · cases h
  · cases h
theorem sn_laload {mi : mm_I} {pc : Nat} (hd : decode mi.2.1 pc = .ok (.laload, 1)) : mm_Snd mi pc mo_aldl := by
  intro p l e R s m args below meth c D cy r bs sk sv c0 s0 Q res K F hc hF hE hK lv st u h
  obtain ⟨hx, hb, hml, hr, hlk, hown, hnm, htb, hex, hrr, hrs, hts, hst, hbs, htr, hRf, hRl, hRc, hRs⟩ := hc
  simp only [mo_aldl] at h
  split at h
  · split at h
    · rename_i x hsh
      split at h
      · rename_i hq
        obtain ⟨t, n⟩ := x
        obtain ⟨rfl, hq⟩ := hq
        exact mm_same (hK _ _ _ _ h) (fun H locs cells slots ls hW hS hl kk => va_lald hx hb hst.1 hW.1 _ 3 (mm_arr hsh (by simp)) rfl (mm_in_of hq) hd (kk ls hl))
      · cases h
    · cases h
  · cases h
theorem mm_ar_r {r : Nat → Nat} {u : mm_M} {a t : Nat} (h : 5 ≤ t) : mm_ar r u a t = .inr (.inr (.inr (.inr (fun j => (mm_rf u a j).map r)))) := by
  have h3 : ¬ t ≤ 3 := by omega
  have h4 : t ≠ 4 := by omega
  simp [mm_ar, h3, h4]
theorem sn_aaload {mi : mm_I} {pc t : Nat} {C : String} (hd : decode mi.2.1 pc = .ok (.aaload, 1)) (ht : 5 ≤ t) (hty : ∀ cy, (mm_tys cy)[t - 1]? = some (cy t, .object C)) : mm_Snd mi pc (mo_aldr t) := by
  intro p l e R s m args below meth c D cy r bs sk sv c0 s0 Q res K F hc hF hE hK lv st u h
  obtain ⟨hx, hb, hml, hr, hlk, hown, hnm, htb, hex, hrr, hrs, hts, hst, hbs, htr, hRf, hRl, hRc, hRs⟩ := hc
  simp only [mo_aldr] at h
  split at h
  · rename_i i a rest
    split at h
    · rename_i x hsh
      split at h
      · rename_i hq
        obtain ⟨t, n⟩ := x
        obtain ⟨rfl, hq⟩ := hq
        split at h
        · rename_i q hrf
          have harr : ∀ cy' : Nat → ClassId, (mm_wl cy' r u)[a]? = some (r a, .inl (cy' t, n, .inr (.inr (.inr (.inr (fun j => (mm_rf u a j).map r)))))) := fun cy' => by rw [mm_arr hsh (by show t ≠ 0; omega), mm_ar_r ht]
          refine mm_same (hK _ _ _ _ h) (fun H locs cells slots ls hW hS hl kk => va_aldq hx hb hst.1 hW.1 a (t - 1) (harr cy) (hty cy) (mm_in_of hq) hd ?_)
          have e : va_rf ((mm_rf u a i.toNatClampNeg).map r) = .ref (r q) := by rw [hrf]; rfl
          rw [e]
          exact kk ls hl
        · cases h
      · cases h
    · cases h
  · cases h
end MMF
