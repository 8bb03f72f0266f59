section MMG
theorem mm_mem_pairs {t : Nat} {n : Nat} {x : Nat × Nat} (h : x = (t, n)) : x.1 = t ∧ x.2 = n := by rw [h]; exact ⟨rfl, rfl⟩
theorem sn_iastore {mi : mm_I} {pc : Nat} (hd : decode mi.2.1 pc = .ok (.iastore, 1)) : mm_Snd mi pc (mo_ast 1 (fun v => v)) := by
  intro p l e R s m args below meth c D cy r bs sk sv c0 s0 Q res K F hc hF hE hK lv st u h
  obtain ⟨hx, hb, hml, hr, hlk, hown, hnm, htb, hex, hrr, hrs, hts, hst, hbs, htr, hRf, hRl, hRc, hRs⟩ := hc
  simp only [mo_ast] at h
  split at h
  · rename_i v i a rest
    split at h
    · rename_i x hsh
      split at h
      · rename_i hq
        obtain ⟨t, n⟩ := x
        obtain ⟨rfl, hq⟩ := hq
        exact mm_write (pc' := pc + 1) (st' := rest) (u' := mm_si u a i.toNatClampNeg v) rfl rfl (hK _ _ _ _ h) (fun H locs cells slots ls hW hS kk => va_iast hx hb hst.1 hW.1 (mm_D hW) hS a 0 (mm_arr hsh (by simp)) rfl (mm_in_of hq) hd
          (fun H1 locs1 hP1 _ hS1 => kk H1 locs1 (mm_W_set hW rfl (mm_si_off u a i.toNatClampNeg v) hsh (by rw [mm_at_si_arr (by decide) (by decide)]; exact hP1)) hS1))
      · cases h
    · cases h
  · cases h
theorem sn_zastore {mi : mm_I} {pc : Nat} (hd : decode mi.2.1 pc = .ok (.bastore, 1)) : mm_Snd mi pc (mo_ast 2 (vp_nar .boolean)) := by
  intro p l e R s m args below meth c D cy r bs sk sv c0 s0 Q res K F hc hF hE hK lv st u h
  obtain ⟨hx, hb, hml, hr, hlk, hown, hnm, htb, hex, hrr, hrs, hts, hst, hbs, htr, hRf, hRl, hRc, hRs⟩ := hc
  simp only [mo_ast] at h
  split at h
  · rename_i v i a rest
    split at h
    · rename_i x hsh
      split at h
      · rename_i hq
        obtain ⟨t, n⟩ := x
        obtain ⟨rfl, hq⟩ := hq
        exact mm_write (pc' := pc + 1) (st' := rest) (u' := mm_si u a i.toNatClampNeg (vp_nar .boolean v)) rfl rfl (hK _ _ _ _ h) (fun H locs cells slots ls hW hS kk => va_zast hx hb hst.1 hW.1 (mm_D hW) hS a 1 (mm_arr hsh (by simp)) rfl (mm_in_of hq) hd
          (fun H1 locs1 hP1 _ hS1 => kk H1 locs1 (mm_W_set hW rfl (mm_si_off u a i.toNatClampNeg (vp_nar .boolean v)) hsh (by rw [mm_at_si_arr (by decide) (by decide)]; exact hP1)) hS1))
      · cases h
    · cases h
  · cases h
theorem sn_castore {mi : mm_I} {pc : Nat} (hd : decode mi.2.1 pc = .ok (.castore, 1)) : mm_Snd mi pc (mo_ast 3 (vp_nar .char)) := by
  intro p l e R s m args below meth c D cy r bs sk sv c0 s0 Q res K F hc hF hE hK lv st u h
  obtain ⟨hx, hb, hml, hr, hlk, hown, hnm, htb, hex, hrr, hrs, hts, hst, hbs, htr, hRf, hRl, hRc, hRs⟩ := hc
  simp only [mo_ast] at h
  split at h
  · rename_i v i a rest
    split at h
    · rename_i x hsh
      split at h
      · rename_i hq
        obtain ⟨t, n⟩ := x
        obtain ⟨rfl, hq⟩ := hq
        exact mm_write (pc' := pc + 1) (st' := rest) (u' := mm_si u a i.toNatClampNeg (vp_nar .char v)) rfl rfl (hK _ _ _ _ h) (fun H locs cells slots ls hW hS kk => va_cast hx hb hst.1 hW.1 (mm_D hW) hS a 2 (mm_arr hsh (by simp)) rfl (mm_in_of hq) hd
          (fun H1 locs1 hP1 _ hS1 => kk H1 locs1 (mm_W_set hW rfl (mm_si_off u a i.toNatClampNeg (vp_nar .char v)) hsh (by rw [mm_at_si_arr (by decide) (by decide)]; exact hP1)) hS1))
      · cases h
    · cases h
  · cases h
theorem sn_lastore {mi : mm_I} {pc : Nat} (hd : decode mi.2.1 pc = .ok (.lastore, 1)) : mm_Snd mi pc mo_astl := by
  intro p l e R s m args below meth c D cy r bs sk sv c0 s0 Q res K F hc hF hE hK lv st u h
  obtain ⟨hx, hb, hml, hr, hlk, hown, hnm, htb, hex, hrr, hrs, hts, hst, hbs, htr, hRf, hRl, hRc, hRs⟩ := hc
  simp only [mo_astl] at h
  split at h
  · rename_i v i a rest
    split at h
    · rename_i x hsh
      split at h
      · rename_i hq
        obtain ⟨t, n⟩ := x
        obtain ⟨rfl, hq⟩ := hq
        exact mm_write (pc' := pc + 1) (st' := rest) (u' := mm_sl u a i.toNatClampNeg v) rfl rfl (hK _ _ _ _ h) (fun H locs cells slots ls hW hS kk => va_last hx hb hst.1 hW.1 (mm_D hW) hS a 3 (mm_arr hsh (by simp)) rfl (mm_in_of hq) hd
          (fun H1 locs1 hP1 _ hS1 => kk H1 locs1 (mm_W_set hW rfl (mm_sl_off u a i.toNatClampNeg v) hsh (by rw [mm_at_sl_arr]; exact hP1)) hS1))
      · cases h
    · cases h
  · cases h
theorem sn_aastore {mi : mm_I} {pc t ci N : Nat} {C : String} {T : u_T} (hd : decode mi.2.1 pc = .ok (.aastore, 1)) (ht : 5 ≤ t) (hcl : vwCl[ci]? = some (C, T, N)) (hty : ∀ cy, (mm_tys cy)[t - 1]? = some (cy t, .object C)) : mm_Snd mi pc (mo_astr t ci) := by
  intro p l e R s m args below meth c D cy r bs sk sv c0 s0 Q res K F hc hF hE hK lv st u h
  obtain ⟨hx, hb, hml, hr, hlk, hown, hnm, htb, hex, hrr, hrs, hts, hst, hbs, htr, hRf, hRl, hRc, hRs⟩ := hc
  simp only [mo_astr] at h
  split at h
  · rename_i v i a rest
    split at h
    · rename_i x hsh
      split at h
      · rename_i hq
        obtain ⟨t, n⟩ := x
        obtain ⟨rfl, hq, hv⟩ := hq
        have harr : ∀ cy' : Nat → ClassId, (mm_wl cy' r u)[a]? = some (r a, .inl (cy' t, n, .inr (.inr (.inr (.inr (fun j => (mm_rf u a j).map r)))))) := fun cy' => by rw [mm_arr hsh (by show t ≠ 0; omega), mm_ar_r ht]
        exact mm_write (pc' := pc + 1) (st' := rest) (u' := mm_sr u a i.toNatClampNeg (some v)) rfl rfl (hK _ _ _ _ h) (fun H locs cells slots ls hW hS kk => va_astq (r := (C, T, N)) hx hb hst.1 hW.1 (mm_D hW) hS a (t - 1) v ci (harr cy) (hty cy) (mm_obj hv hcl) hcl (mm_in_of hq) hd
          (fun H1 locs1 hP1 _ hS1 => kk H1 locs1 (mm_W_set hW rfl (mm_sr_off u a i.toNatClampNeg (some v)) hsh (by rw [mm_at_sr_arr ht]; exact hP1)) hS1))
      · cases h
    · cases h
  · cases h
theorem sn_alen {mi : mm_I} {pc : Nat} (hd : decode mi.2.1 pc = .ok (.arraylength, 1)) : mm_Snd mi pc mo_len := by
  intro p l e R s m args below meth c D cy r bs sk sv c0 s0 Q res K F hc hF hE hK lv st u h
  obtain ⟨hx, hb, hml, hr, hlk, hown, hnm, htb, hex, hrr, hrs, hts, hst, hbs, htr, hRf, hRl, hRc, hRs⟩ := hc
  simp only [mo_len] at h
  split at h
  · split at h
    · rename_i x hsh
      split at h
      · rename_i hq
        obtain ⟨t, n⟩ := x
        have ht : ∃ ty, (mm_tys cy)[t - 1]? = some (cy t, ty) := by
          have h1 : 0 < t := hq.1
          have h2 : t < 8 := hq.2
          have h3 : t = 1 ∨ t = 2 ∨ t = 3 ∨ t = 4 ∨ t = 5 ∨ t = 6 ∨ t = 7 := by omega
          rcases h3 with rfl | rfl | rfl | rfl | rfl | rfl | rfl <;> exact ⟨_, rfl⟩
        obtain ⟨ty, ht⟩ := ht
        exact mm_same (hK _ _ _ _ h) (fun H locs cells slots ls hW hS hl kk => va_alen hx hb hst.1 hW.1 _ (t - 1) (mm_arr hsh (Nat.ne_of_gt hq.1)) ht rfl hd (kk ls hl))
      · cases h
    · cases h
  · cases h
/-- the script -/
def mm_xs (L : Nat) (xs : Nat → Int32) (s : State) (r : Nat → Nat) (bs : Nat) : Prop := va_X (r 100000) L xs s s.heap ∧ r 100000 < s.heap.size ∧ ¬ bs ≤ r 100000
theorem sn_slen {mi : mm_I} {pc L : Nat} {xs : Nat → Int32} (hd : decode mi.2.1 pc = .ok (.arraylength, 1)) (hm : ∀ s r bs, mi.2.2.2.2.2.2 s r bs → mm_xs L xs s r bs) : mm_Snd mi pc (mo_slen L) := by
  intro p l e R s m args below meth c D cy r bs sk sv c0 s0 Q res K F hc hF hE hK lv st u h
  obtain ⟨hx, hb, hml, hr, hlk, hown, hnm, htb, hex, hrr, hrs, hts, hst, hbs, htr, hRf, hRl, hRc, hRs⟩ := hc
  obtain ⟨x1, x2, x3⟩ := hm _ _ _ hex
  simp only [mo_slen] at h
  split at h
  · split at h
    · rename_i ha
      subst ha
      exact mm_same (hK _ _ _ _ h) (fun H locs cells slots ls hW hS hl kk => va_slen hx hb x1 x2 x3 hS hd (kk ls hl))
    · cases h
  · cases h
theorem sn_sld {mi : mm_I} {pc L : Nat} {xs : Nat → Int32} (hd : decode mi.2.1 pc = .ok (.iaload, 1)) (hm : ∀ s r bs, mi.2.2.2.2.2.2 s r bs → mm_xs L xs s r bs) : mm_Snd mi pc (mo_sld L xs) := by
  intro p l e R s m args below meth c D cy r bs sk sv c0 s0 Q res K F hc hF hE hK lv st u h
  obtain ⟨hx, hb, hml, hr, hlk, hown, hnm, htb, hex, hrr, hrs, hts, hst, hbs, htr, hRf, hRl, hRc, hRs⟩ := hc
  obtain ⟨x1, x2, x3⟩ := hm _ _ _ hex
  simp only [mo_sld] at h
  split at h
  · split at h
    · rename_i ha
      obtain ⟨ha, hq⟩ := ha
      subst ha
      exact mm_same (hK _ _ _ _ h) (fun H locs cells slots ls hW hS hl kk => va_sld hx hb x1 x2 x3 hS (mm_in_of hq) hd (kk ls hl))
    · cases h
  · cases h
-- switches
def mm_tl : Int → List Nat → List (Int32 × Nat)
  | _, [] => []
  | lo, t :: r => (Int32.ofInt lo, t) :: mm_tl (lo + 1) r
theorem mm_ofInt {z : Int} (h1 : -2147483648 ≤ z) (h2 : z < 2147483648) : (Int32.ofInt z).toInt = z := by
  rw [Int32.toInt_ofInt, show Int32.size = 4294967296 from rfl]
  exact Int.bmod_eq_of_le (by omega) (by omega)
theorem mm_tl_sw (x : Int32) (dflt : Nat) : ∀ (ts : List Nat) (lo : Int), -2147483648 ≤ lo → lo + ts.length ≤ 2147483648 →
    (x.toInt < lo ∨ lo + ts.length ≤ x.toInt → mm_sw x dflt (mm_tl lo ts) = dflt) ∧ (¬ x.toInt < lo → x.toInt < lo + ts.length → ts[(x.toInt - lo).toNat]? = some (mm_sw x dflt (mm_tl lo ts))) := by
  intro ts
  induction ts with
  | nil => intro lo h1 h2; exact ⟨fun _ => rfl, fun h3 h4 => by simp at h4; omega⟩
  | cons t r ih =>
    intro lo h1 h2
    simp only [List.length_cons, Int.natCast_add, Int.natCast_one] at h2 ⊢
    obtain ⟨i1, i2⟩ := ih (lo + 1) (by omega) (by omega)
    have hlo : (Int32.ofInt lo).toInt = lo := mm_ofInt h1 (by omega)
    refine ⟨fun h => ?_, fun h3 h4 => ?_⟩
    · have hne : ¬ x = Int32.ofInt lo := fun z => by rw [z, hlo] at h; omega
      simp only [mm_tl, mm_sw, if_neg hne]
      exact i1 (by omega)
    · by_cases hz : x = Int32.ofInt lo
      · have e : x.toInt = lo := by rw [hz, hlo]
        simp only [mm_tl, mm_sw, if_pos hz]
        rw [e, Int.sub_self]
        rfl
      · have hne : x.toInt ≠ lo := fun z => hz (Int32.toInt_inj.mp (by rw [hlo]; exact z))
        simp only [mm_tl, mm_sw, if_neg hz]
        have e : (x.toInt - lo).toNat = (x.toInt - (lo + 1)).toNat + 1 := by omega
        rw [e, List.getElem?_cons_succ]
        exact i2 (by omega) (by omega)
theorem sn_tsw {mi : mm_I} {pc len dflt : Nat} {d lo hi : Int} {offs : Array Int} {ts : List Nat} {l : List (Int32 × Nat)} (hd : decode mi.2.1 pc = .ok (.tableswitch d lo hi offs, len)) (hl0 : l = mm_tl lo ts) (h1 : -2147483648 ≤ lo) (h2 : lo + ts.length ≤ 2147483648) (h3 : hi + 1 = lo + ts.length) (hdt : (pc : Int) + d = (dflt : Int)) (hot : offs.toList.map (fun z => (pc : Int) + z) = ts.map (fun t : Nat => (t : Int))) : mm_Snd mi pc (mo_sw dflt l) := by
  intro p l' e R s m args below meth c D cy r bs sk sv c0 s0 Q res K F hc hF hE hK lv st u h
  subst hl0
  simp only [mo_sw] at h
  split at h
  · rename_i x rest
    obtain ⟨i1, i2⟩ := mm_tl_sw x dflt ts lo h1 h2
    by_cases hq : x.toInt < lo ∨ hi < x.toInt
    · rw [i1 (by omega)] at h
      exact mm_same (hK _ _ _ _ h) (fun H locs cells slots ls hW hS hl kk => lv_tableOut hc.1 hc.2.1 hd hq hdt (kk ls hl))
    · have g := i2 (by omega) (by omega)
      have hlen : offs.toList.length = ts.length := by have := congrArg List.length hot; simpa using this
      have hlt : (x.toInt - lo).toNat < offs.toList.length := by rw [hlen]; exact (List.getElem?_eq_some_iff.mp g).1
      have go : offs[(x.toInt - lo).toNat]? = some (offs.toList[(x.toInt - lo).toNat]) := by
        rw [← Array.getElem?_toList]; exact List.getElem?_eq_getElem hlt
      have gt : (pc : Int) + offs.toList[(x.toInt - lo).toNat] = ((mm_sw x dflt (mm_tl lo ts) : Nat) : Int) := by
        have e1 := congrArg (fun q => q[(x.toInt - lo).toNat]?) hot
        simp only [List.getElem?_map, g, List.getElem?_eq_getElem hlt, Option.map_some] at e1
        exact Option.some.inj e1
      exact mm_same (hK _ _ _ _ h) (fun H locs cells slots ls hW hS hl kk => lv_tableIn hc.1 hc.2.1 hd (fun z => hq (Or.inl z)) (fun z => hq (Or.inr z)) go gt (kk ls hl))
  · cases h
theorem mm_ll_sw (x : Int32) (pc dflt : Nat) (d : Int) (hdt : (pc : Int) + d = (dflt : Int)) : ∀ (ps : List (Int × Int)) (l : List (Int32 × Nat)), ps.map (fun q => (Int32.ofInt q.1, (pc : Int) + q.2)) = l.map (fun q => (q.1, (q.2 : Int))) → ps.all (fun q => decide (-2147483648 ≤ q.1) && decide (q.1 < 2147483648)) = true →
    (pc : Int) + Op.lookupswitch.offset ps d x.toInt = ((mm_sw x dflt l : Nat) : Int) := by
  intro ps
  induction ps with
  | nil =>
    intro l h _
    cases l with
    | nil => exact hdt
    | cons a b => cases h
  | cons q t ih =>
    intro l h hb
    cases l with
    | nil => cases h
    | cons a b =>
      simp only [List.map_cons, List.cons.injEq, Prod.mk.injEq] at h
      obtain ⟨⟨h1, h2⟩, h3⟩ := h
      simp only [List.all_cons, Bool.and_eq_true, decide_eq_true_eq] at hb
      have hq : (Int32.ofInt q.1).toInt = q.1 := mm_ofInt hb.1.1 hb.1.2
      obtain ⟨qa, qo⟩ := q
      simp only [Op.lookupswitch.offset, mm_sw]
      by_cases hz : qa = x.toInt
      · have hx : x = a.1 := by rw [← h1]; exact Int32.toInt_inj.mp (by rw [hq]; exact hz.symm)
        rw [if_pos hz, if_pos hx]
        exact h2
      · have hx : ¬ x = a.1 := fun z => hz (by rw [z, ← h1]; exact hq.symm)
        rw [if_neg hz, if_neg hx]
        exact ih b h3 hb.2
theorem sn_lsw {mi : mm_I} {pc len dflt : Nat} {d : Int} {ps : Array (Int × Int)} {l : List (Int32 × Nat)} (hd : decode mi.2.1 pc = .ok (.lookupswitch d ps, len)) (hp : (ps.toList.zip (ps.toList.drop 1)).all (fun (a, next) => a.1 < next.1) = true) (hdt : (pc : Int) + d = (dflt : Int)) (hm : ps.toList.map (fun q => (Int32.ofInt q.1, (pc : Int) + q.2)) = l.map (fun q => (q.1, (q.2 : Int)))) (hb : ps.toList.all (fun q => decide (-2147483648 ≤ q.1) && decide (q.1 < 2147483648)) = true) : mm_Snd mi pc (mo_sw dflt l) := by
  intro p l' e R s m args below meth c D cy r bs sk sv c0 s0 Q res K F hc hF hE hK lv st u h
  simp only [mo_sw] at h
  split at h
  · rename_i x rest
    exact mm_same (hK _ _ _ _ h) (fun H locs cells slots ls hW hS hl kk => lv_lookup hc.1 hc.2.1 hd hp rfl (mm_ll_sw x pc dflt d hdt _ _ hm hb) (kk ls hl))
  · cases h
end MMG
