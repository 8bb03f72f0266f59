section PU5
variable {rf : Nat → Nat → Option Nat} {it : Nat → Nat → Int32} {lg : Nat → Nat → Int64} {cc ss d : Nat}
theorem and15 {n : Nat} : Int32.ofNat n &&& 15 = Int32.ofNat (n % 16) := by
  apply Int32.toBitVec_inj.mp
  apply BitVec.eq_of_toNat_eq
  rw [Int32.toBitVec_and, BitVec.toNat_and]
  show n % 2 ^ 32 &&& 15 = n % 16 % 2 ^ 32
  rw [Nat.and_two_pow_sub_one_eq_mod _ 4]
  omega
def RgS (rf : Nat → Nat → Option Nat) (r : Nat) : Prop := SH[r]? = some (0, 7) ∧ rf r 0 = some (r + 1) ∧ SH[r + 1]? = some (1, 16)
/-- a ring: its bytes -/
def RgC (x : Nat → Nat → Int32) (r : Nat) (l : List Int32) : Prop := ∃ f, f < 16 ∧ l.length ≤ 16 ∧ x r 1 = Int32.ofNat f ∧ x r 2 = Int32.ofNat l.length ∧ ∀ j, j < l.length → x (r + 1) ((f + j) % 16) = l.getD j 0
theorem RgC.row {x y : Nat → Nat → Int32} {r : Nat} {l : List Int32} (h : RgC x r l) (h1 : y r = x r) (h2 : y (r + 1) = x (r + 1)) : RgC y r l := by
  unfold RgC
  rw [h1, h2]
  exact h
theorem TxC.row {x y : Nat → Nat → Int32} {r : Nat} {l : List Int32} (h : TxC x r l) (h1 : y r = x r) (h2 : y (r + 1) = x (r + 1)) : TxC y r l := by
  unfold TxC
  rw [h1, h2]
  exact h
theorem RgC.len {x : Nat → Nat → Int32} {r : Nat} {l : List Int32} (h : RgC x r l) : l.length ≤ 16 ∧ x r 2 = Int32.ofNat l.length := by
  obtain ⟨f, h1, h2, h3, h4, h5⟩ := h
  exact ⟨h2, h4⟩
def rgp (it : Nat → Nat → Int32) (r : Nat) (b : Int32) : Nat → Nat → Int32 := mm_u2 (mm_u2 it (r + 1) ((it r 1 + it r 2) &&& 15).toNatClampNeg b) r 2 (it r 2 + 1)
def rgt (it : Nat → Nat → Int32) (r : Nat) : Nat → Nat → Int32 := mm_u2 (mm_u2 it r 1 ((it r 1 + 1) &&& 15)) r 2 (it r 2 - 1)
def rgc (it : Nat → Nat → Int32) (r : Nat) : Nat → Nat → Int32 := mm_u2 (mm_u2 it r 1 0) r 2 0
theorem rgp_row {r a : Nat} {b : Int32} (h1 : a ≠ r) (h2 : a ≠ r + 1) : rgp it r b a = it a := by
  unfold rgp
  rw [u2_row h1, u2_row h2]
theorem rgt_row {r a : Nat} (h1 : a ≠ r) : rgt it r a = it a := by
  unfold rgt
  rw [u2_row h1, u2_row h1]
theorem rgc_row {r a : Nat} (h1 : a ≠ r) : rgc it r a = it a := by
  unfold rgc
  rw [u2_row h1, u2_row h1]
theorem rgc_ok {r : Nat} : RgC (rgc it r) r [] := ⟨0, by decide, by decide, by
  unfold rgc
  rw [u2_nk (by decide), u2_at]; rfl, by unfold rgc; rw [u2_at]; rfl, fun j hj => absurd hj (Nat.not_lt_zero _)⟩
theorem rgp_ok {r : Nat} {l : List Int32} {b : Int32} (h : RgC it r l) (hl : l.length < 16) : RgC (rgp it r b) r (l ++ [b]) := by
  obtain ⟨f, h1, h2, h3, h4, h5⟩ := h
  have e0 : ((it r 1 + it r 2) &&& 15).toNatClampNeg = (f + l.length) % 16 := by
    rw [h3, h4, ← Int32.ofNat_add, and15, i_tn (by omega)]
  refine ⟨f, h1, by simp; omega, ?_, ?_, fun j hj => ?_⟩
  · unfold rgp
    rw [u2_nk (by decide), u2_ne (by omega), h3]
  · unfold rgp
    rw [u2_at, h4, i_suc]
    simp
  · simp only [List.length_append, List.length_singleton] at hj
    unfold rgp
    rw [u2_ne (by omega), e0]
    by_cases hj9 : j = l.length
    · rw [hj9, u2_at]
      simp
    · rw [u2_nk (by omega), h5 j (by omega), gd_app (by omega)]
theorem rgt_ok {r : Nat} {l : List Int32} {b : Int32} (h : RgC it r (b :: l)) : RgC (rgt it r) r l ∧ it (r + 1) (it r 1 &&& 15).toNatClampNeg = b := by
  obtain ⟨f, h1, h2, h3, h4, h5⟩ := h
  simp only [List.length_cons] at h2 h4 h5
  have e0 : (it r 1 &&& 15).toNatClampNeg = f := by
    rw [h3, and15, i_tn (by omega)]
    omega
  refine ⟨⟨(f + 1) % 16, by omega, by omega, ?_, ?_, fun j hj => ?_⟩, ?_⟩
  · unfold rgt
    rw [u2_nk (by decide), u2_at, h3, i_suc, and15]
  · unfold rgt
    rw [u2_at, h4]
    have : l.length = l.length + 1 - 1 := by omega
    conv => rhs; rw [this]
    rw [Int32.ofNat_sub _ _ (by omega)]
    rfl
  · have := h5 (j + 1) (by omega)
    unfold rgt
    rw [u2_ne (by omega), u2_ne (by omega)]
    have e1 : ((f + 1) % 16 + j) % 16 = (f + (j + 1)) % 16 := by omega
    rw [e1, this]
    simp
  · rw [e0]
    have := h5 0 (by omega)
    have e9 : (f + 0) % 16 = f := by omega
    rw [e9] at this
    rw [this]
    simp
theorem ct_rput {r : Nat} {l : List Int32} {b : Int32} (h : RgS rf r) (ht : RgC it r l) : mm_run md 9000 (d + 1) 54 [.ref r, .int b] (mk rf it lg cc ss) = if l.length < 16 then some (.inl (some (.int 1)), mk rf (rgp it r b) lg cc ss) else some (.inl (some (.int 0)), mk rf it lg cc ss) := by
  obtain ⟨h1, h2, h3⟩ := h
  obtain ⟨f, g1, g2, g3, g4, g5⟩ := ht
  have b1 : l.length < 2 ^ 31 := by omega
  have e0 : mm_in ((it r 1 + it r 2) &&& 15) 16 = true := by
    rw [g3, g4, ← Int32.ofNat_add, and15, in_of (by omega)]
    omega
  rw [en_X7_put]
  simp only [sg_X7_put_0, mk_sh, mk_rf, mk_it, mk_lg, mk_cc, mk_ss, mk_si, mk_sl, mk_th, mq_u_s, ↓mq_b_d, mq_r_s, mq_a_s, mq_l_s, ck_mk, ck_ite, if_true, if_false, ite_true, ite_false, Nat.le_refl, and_self, and_true, true_and, or_true, true_or, or_false, false_or, eq_self, ck_none, Nat.reduceAdd, Nat.reduceLT, Nat.reduceLeDiff, Nat.reduceEqDiff, Nat.reduceSub, Nat.reduceMul, Int32.reduceLT, Int32.reduceLE, Int32.reduceOfNat, Int32.reduceToNatClampNeg, not_true_eq_false, not_false_eq_true, Nat.add_zero, cl_eq, clr_n, clr_v, clr_x, clr_ite, cr_eq, crr_n, crr_v, crr_ite, List.length_cons, List.length_nil, ct_0, ne_0_1, ne_0_2, ne_0_3, ne_0_4, ne_0_5, ne_0_6, ne_0_7, ne_0_8, ne_1_0, ne_1_2, ne_1_3, ne_1_4, ne_1_5, ne_1_6, ne_1_7, ne_1_8, ne_2_0, ne_2_1, ne_2_3, ne_2_4, ne_2_5, ne_2_6, ne_2_7, ne_2_8, ne_3_0, ne_3_1, ne_3_2, ne_3_4, ne_3_5, ne_3_6, ne_3_7, ne_3_8, ne_4_0, ne_4_1, ne_4_2, ne_4_3, ne_4_5, ne_4_6, ne_4_7, ne_4_8, ne_5_0, ne_5_1, ne_5_2, ne_5_3, ne_5_4, ne_5_6, ne_5_7, ne_5_8, ne_6_0, ne_6_1, ne_6_2, ne_6_3, ne_6_4, ne_6_5, ne_6_7, ne_6_8, ne_7_0, ne_7_1, ne_7_2, ne_7_3, ne_7_4, ne_7_5, ne_7_6, ne_7_8, ne_8_0, ne_8_1, ne_8_2, ne_8_3, ne_8_4, ne_8_5, ne_8_6, ne_8_7, h1, h2, h3, e0, u2_ne (show r ≠ r + 1 by omega)]
  rw [← rgp]
  simp only [g4, i_lt b1 (show 16 < 2 ^ 31 by decide)]
theorem ct_rtake {r : Nat} {l : List Int32} {b : Int32} (h : RgS rf r) (ht : RgC it r (b :: l)) : mm_run md 9000 (d + 1) 55 [.ref r] (mk rf it lg cc ss) = some (.inl (some (.int b)), mk rf (rgt it r) lg cc ss) := by
  have hz := (rgt_ok ht).2
  obtain ⟨h1, h2, h3⟩ := h
  obtain ⟨f, g1, g2, g3, g4, g5⟩ := ht
  have e0 : mm_in (it r 1 &&& 15) 16 = true := by
    rw [g3, and15, in_of (by omega)]
    omega
  have e1 : 0 < it r 2 := by
    rw [g4]
    exact (i_lt' (by omega) (by decide)).mpr (by simp)
  rw [en_X7_take]
  simp only [sg_X7_take_0, mk_sh, mk_rf, mk_it, mk_lg, mk_cc, mk_ss, mk_si, mk_sl, mk_th, mq_u_s, ↓mq_b_d, mq_r_s, mq_a_s, mq_l_s, ck_mk, ck_ite, if_true, if_false, ite_true, ite_false, Nat.le_refl, and_self, and_true, true_and, or_true, true_or, or_false, false_or, eq_self, ck_none, Nat.reduceAdd, Nat.reduceLT, Nat.reduceLeDiff, Nat.reduceEqDiff, Nat.reduceSub, Nat.reduceMul, Int32.reduceLT, Int32.reduceLE, Int32.reduceOfNat, Int32.reduceToNatClampNeg, not_true_eq_false, not_false_eq_true, Nat.add_zero, cl_eq, clr_n, clr_v, clr_x, clr_ite, cr_eq, crr_n, crr_v, crr_ite, List.length_cons, List.length_nil, ct_0, ne_0_1, ne_0_2, ne_0_3, ne_0_4, ne_0_5, ne_0_6, ne_0_7, ne_0_8, ne_1_0, ne_1_2, ne_1_3, ne_1_4, ne_1_5, ne_1_6, ne_1_7, ne_1_8, ne_2_0, ne_2_1, ne_2_3, ne_2_4, ne_2_5, ne_2_6, ne_2_7, ne_2_8, ne_3_0, ne_3_1, ne_3_2, ne_3_4, ne_3_5, ne_3_6, ne_3_7, ne_3_8, ne_4_0, ne_4_1, ne_4_2, ne_4_3, ne_4_5, ne_4_6, ne_4_7, ne_4_8, ne_5_0, ne_5_1, ne_5_2, ne_5_3, ne_5_4, ne_5_6, ne_5_7, ne_5_8, ne_6_0, ne_6_1, ne_6_2, ne_6_3, ne_6_4, ne_6_5, ne_6_7, ne_6_8, ne_7_0, ne_7_1, ne_7_2, ne_7_3, ne_7_4, ne_7_5, ne_7_6, ne_7_8, ne_8_0, ne_8_1, ne_8_2, ne_8_3, ne_8_4, ne_8_5, ne_8_6, ne_8_7, h1, h2, h3, e0, e1, u2_nk (show 2 ≠ 1 by decide), hz]
  rw [← rgt]
theorem ct_rclear {r : Nat} (h : RgS rf r) : mm_run md 9000 (d + 1) 53 [.ref r] (mk rf it lg cc ss) = some (.inl none, mk rf (rgc it r) lg cc ss) := by
  obtain ⟨h1, h2, h3⟩ := h
  rw [en_X7_clear]
  simp only [sg_X7_clear_0, mk_sh, mk_rf, mk_it, mk_lg, mk_cc, mk_ss, mk_si, mk_sl, mk_th, mq_u_s, ↓mq_b_d, mq_r_s, mq_a_s, mq_l_s, ck_mk, ck_ite, if_true, if_false, ite_true, ite_false, Nat.le_refl, and_self, and_true, true_and, or_true, true_or, or_false, false_or, eq_self, ck_none, Nat.reduceAdd, Nat.reduceLT, Nat.reduceLeDiff, Nat.reduceEqDiff, Nat.reduceSub, Nat.reduceMul, Int32.reduceLT, Int32.reduceLE, Int32.reduceOfNat, Int32.reduceToNatClampNeg, not_true_eq_false, not_false_eq_true, Nat.add_zero, cl_eq, clr_n, clr_v, clr_x, clr_ite, cr_eq, crr_n, crr_v, crr_ite, List.length_cons, List.length_nil, ct_0, ne_0_1, ne_0_2, ne_0_3, ne_0_4, ne_0_5, ne_0_6, ne_0_7, ne_0_8, ne_1_0, ne_1_2, ne_1_3, ne_1_4, ne_1_5, ne_1_6, ne_1_7, ne_1_8, ne_2_0, ne_2_1, ne_2_3, ne_2_4, ne_2_5, ne_2_6, ne_2_7, ne_2_8, ne_3_0, ne_3_1, ne_3_2, ne_3_4, ne_3_5, ne_3_6, ne_3_7, ne_3_8, ne_4_0, ne_4_1, ne_4_2, ne_4_3, ne_4_5, ne_4_6, ne_4_7, ne_4_8, ne_5_0, ne_5_1, ne_5_2, ne_5_3, ne_5_4, ne_5_6, ne_5_7, ne_5_8, ne_6_0, ne_6_1, ne_6_2, ne_6_3, ne_6_4, ne_6_5, ne_6_7, ne_6_8, ne_7_0, ne_7_1, ne_7_2, ne_7_3, ne_7_4, ne_7_5, ne_7_6, ne_7_8, ne_8_0, ne_8_1, ne_8_2, ne_8_3, ne_8_4, ne_8_5, ne_8_6, ne_8_7, h1]
  rw [← rgc]
/-- goals -/
def GoS (rf : Nat → Nat → Option Nat) (g : Nat) : Prop := SH[g]? = some (0, 2) ∧ rf g 0 = some (g + 1) ∧ TxS rf (g + 1)
def goA (a : Int32) (l : List Int32) : Int32 := if l = [] then a else match dsp l 0 0 0 0 with
  | some n => Int32.ofNat n
  | none => 0
def goN (l : List Int32) : List Int32 := if l = [] then [] else match dsp l 0 0 0 0 with
  | some _ => []
  | none => l
theorem dsp_lt : ∀ (l : List Int32) (ad nu di dt n : Nat), ad < 256 ^ dt → nu < 256 → dt ≤ 3 → dsp l ad nu di dt = some n → n < 2 ^ 32 := by
  intro l
  induction l with
  | nil =>
    intro ad nu di dt n h1 h2 h3 h
    simp only [dsp] at h
    split at h
    · rename_i q
      rw [q.1] at h1
      cases h
      omega
    · cases h
  | cons c r ih =>
    intro ad nu di dt n h1 h2 h3 h
    simp only [dsp] at h
    split at h
    · rename_i q
      exact ih _ _ _ _ _ (by rw [Nat.pow_succ]; omega) (by omega) (by omega) h
    · split at h
      · rename_i q
        exact ih _ _ _ _ _ h1 (by omega) h3 h
      · cases h
theorem lcmp_m1 {x : Int64} : (lg_cmp x (-1) = 0) = (x = -1) := by
  apply propext
  unfold lg_cmp
  by_cases h1 : x = -1
  · subst h1
    decide
  · simp only [h1, iff_false, if_false]
    split <;> decide
theorem dres_m1 {l : List Int32} : (dres (dsp l 0 0 0 0) = -1) = (dsp l 0 0 0 0 = none) := by
  cases h : dsp l 0 0 0 0 with
  | none => simp [dres]
  | some n =>
    have hn := dsp_lt l 0 0 0 0 n (by decide) (by decide) (by decide) h
    have : ¬ Int64.ofNat n = -1 := by
      intro q
      have q2 := congrArg Int64.toInt q
      rw [Int64.toInt_ofNat_of_lt (by omega)] at q2
      have e : Int64.toInt (-1) = -1 := by decide
      omega
    simp [dres, this]
theorem dres_i {l : List Int32} {n : Nat} (h : dsp l 0 0 0 0 = some n) : Int64.toInt32 (dres (dsp l 0 0 0 0)) = Int32.ofNat n := by
  rw [h]
  show Int64.toInt32 (Int64.ofNat n) = Int32.ofNat n
  exact Int64.toInt32_ofNat'
theorem TxS.ne {g t : Nat} (h : TxS rf g) (h2 : TxS rf t) : t + 1 ≠ g := by
  intro e
  have q1 := h.1
  have q2 := h2.2.2
  rw [e, q1] at q2
  cases q2
theorem GoS.ne {g t : Nat} (h : GoS rf g) (h2 : TxS rf t) : t ≠ g ∧ t + 1 ≠ g := by
  refine ⟨fun e => ?_, fun e => ?_⟩
  · have q1 := h.1
    have q2 := h2.1
    rw [e, q1] at q2
    cases q2
  · have q1 := h.1
    have q2 := h2.2.2
    rw [e, q1] at q2
    cases q2
theorem ct_aim {g t : Nat} {l : List Int32} {a p : Int32} (hg : GoS rf g) (hst : TxS rf t) (hd : t ≠ g + 1) (ht : TxC it t l) (hc : ∀ v ∈ l, isC v) : ∃ it9, mm_run md 9000 (d + 3) 32 [.ref g, .int a, .ref t, .int p] (mk rf it lg cc ss) = some (.inl none, mk rf it9 lg cc ss) ∧ it9 g 1 = goA a l ∧ it9 g 2 = p ∧ TxC it9 (g + 1) (goN l) ∧ ∀ b, b ≠ g → b ≠ g + 1 → b ≠ g + 2 → it9 b = it b := by
  have hb : l.length ≤ 15 := ht.1
  have hn := hg.ne hst
  have hn2 := TxS.ne hg.2.2 hst
  have hn3 := TxS.ne hst hg.2.2
  obtain ⟨g1, g2, g3⟩ := hg
  have ht2 : TxC (mm_u2 it g 2 p) t l := ht.row (u2_row hn.1) (u2_row hn.2)
  rw [en_X2_aim]
  by_cases hl : l = []
  · subst hl
    refine ⟨mm_u2 (mm_u2 (mm_u2 it g 2 p) (g + 1) 1 0) g 1 a, ?_, ?_, ?_, ?_, fun b q1 q2 q3 => ?_⟩
    · simp only [sg_X2_aim_0, sg_X2_aim_29, sg_X2_aim_19, sg_X2_aim_68, sg_X2_aim_53, mk_sh, mk_rf, mk_it, mk_lg, mk_cc, mk_ss, mk_si, mk_sl, mk_th, mq_u_s, ↓mq_b_d, mq_r_s, mq_a_s, mq_l_s, ck_mk, ck_ite, if_true, if_false, ite_true, ite_false, Nat.le_refl, and_self, and_true, true_and, or_true, true_or, or_false, false_or, eq_self, ck_none, Nat.reduceAdd, Nat.reduceLT, Nat.reduceLeDiff, Nat.reduceEqDiff, Nat.reduceSub, Nat.reduceMul, Int32.reduceLT, Int32.reduceLE, Int32.reduceOfNat, Int32.reduceToNatClampNeg, not_true_eq_false, not_false_eq_true, Nat.add_zero, cl_eq, clr_n, clr_v, clr_x, clr_ite, cr_eq, crr_n, crr_v, crr_ite, List.length_cons, List.length_nil, ct_0, ne_0_1, ne_0_2, ne_0_3, ne_0_4, ne_0_5, ne_0_6, ne_0_7, ne_0_8, ne_1_0, ne_1_2, ne_1_3, ne_1_4, ne_1_5, ne_1_6, ne_1_7, ne_1_8, ne_2_0, ne_2_1, ne_2_3, ne_2_4, ne_2_5, ne_2_6, ne_2_7, ne_2_8, ne_3_0, ne_3_1, ne_3_2, ne_3_4, ne_3_5, ne_3_6, ne_3_7, ne_3_8, ne_4_0, ne_4_1, ne_4_2, ne_4_3, ne_4_5, ne_4_6, ne_4_7, ne_4_8, ne_5_0, ne_5_1, ne_5_2, ne_5_3, ne_5_4, ne_5_6, ne_5_7, ne_5_8, ne_6_0, ne_6_1, ne_6_2, ne_6_3, ne_6_4, ne_6_5, ne_6_7, ne_6_8, ne_7_0, ne_7_1, ne_7_2, ne_7_3, ne_7_4, ne_7_5, ne_7_6, ne_7_8, ne_8_0, ne_8_1, ne_8_2, ne_8_3, ne_8_4, ne_8_5, ne_8_6, ne_8_7, g1, g2, g3.1, hst.1, ht2.2.1, ct_clear g3]
    · rw [u2_at]; rfl
    · rw [u2_nk (by decide), u2_ne (by omega), u2_at]
    · exact TxC.row (x := mm_u2 (mm_u2 it g 2 p) (g + 1) 1 0) tx_clear (u2_row (by omega)) (u2_row (by omega))
    · rw [u2_row q1, u2_row q2, u2_row q1]
  · have hl0 : ¬ l.length = 0 := fun q => hl (List.length_eq_zero_iff.mp q)
    have e1 : ¬ Int32.ofNat l.length = 0 := fun q => hl0 ((i_eq (by omega) (by decide)).mp q)
    cases hq : dsp l 0 0 0 0 with
    | none =>
      obtain ⟨it9, r1, r2, r3⟩ := ct_copy (d := d) (lg := lg) (cc := cc) (ss := ss) (fr := 0) (to := l.length) g3 hst hd (by omega) hn2 hc (Nat.le_refl _) (Nat.zero_le _) ht2
      have z0 : Int32.ofNat 0 = 0 := rfl
      rw [z0] at r1
      have e3 : it9 g 2 = p := by rw [r3 g (by omega) (by omega), u2_at]
      have e4 : it9 t 1 = Int32.ofNat l.length := by rw [r3 t (by omega) (by omega)]; exact ht2.2.1
      refine ⟨mm_u2 it9 g 1 0, ?_, ?_, ?_, ?_, fun b q1 q2 q3 => ?_⟩
      · simp only [sg_X2_aim_0, sg_X2_aim_29, sg_X2_aim_19, sg_X2_aim_68, sg_X2_aim_53, mk_sh, mk_rf, mk_it, mk_lg, mk_cc, mk_ss, mk_si, mk_sl, mk_th, mq_u_s, ↓mq_b_d, mq_r_s, mq_a_s, mq_l_s, ck_mk, ck_ite, if_true, if_false, ite_true, ite_false, Nat.le_refl, and_self, and_true, true_and, or_true, true_or, or_false, false_or, eq_self, ck_none, Nat.reduceAdd, Nat.reduceLT, Nat.reduceLeDiff, Nat.reduceEqDiff, Nat.reduceSub, Nat.reduceMul, Int32.reduceLT, Int32.reduceLE, Int32.reduceOfNat, Int32.reduceToNatClampNeg, not_true_eq_false, not_false_eq_true, Nat.add_zero, cl_eq, clr_n, clr_v, clr_x, clr_ite, cr_eq, crr_n, crr_v, crr_ite, List.length_cons, List.length_nil, ct_0, ne_0_1, ne_0_2, ne_0_3, ne_0_4, ne_0_5, ne_0_6, ne_0_7, ne_0_8, ne_1_0, ne_1_2, ne_1_3, ne_1_4, ne_1_5, ne_1_6, ne_1_7, ne_1_8, ne_2_0, ne_2_1, ne_2_3, ne_2_4, ne_2_5, ne_2_6, ne_2_7, ne_2_8, ne_3_0, ne_3_1, ne_3_2, ne_3_4, ne_3_5, ne_3_6, ne_3_7, ne_3_8, ne_4_0, ne_4_1, ne_4_2, ne_4_3, ne_4_5, ne_4_6, ne_4_7, ne_4_8, ne_5_0, ne_5_1, ne_5_2, ne_5_3, ne_5_4, ne_5_6, ne_5_7, ne_5_8, ne_6_0, ne_6_1, ne_6_2, ne_6_3, ne_6_4, ne_6_5, ne_6_7, ne_6_8, ne_7_0, ne_7_1, ne_7_2, ne_7_3, ne_7_4, ne_7_5, ne_7_6, ne_7_8, ne_8_0, ne_8_1, ne_8_2, ne_8_3, ne_8_4, ne_8_5, ne_8_6, ne_8_7, g1, g2, g3.1, hst.1, ht2.2.1, e1, ct_dotted hst ht2 hc, lcmp_m1, hq, show dres none = -1 from rfl, r1]
      · rw [u2_at]; simp only [goA, hl, hq, if_false]
      · rw [u2_nk (by decide), e3]
      · refine TxC.row (x := it9) ?_ (u2_row (by omega)) (u2_row (by omega))
        simp only [goN, hl, hq, if_false]
        simpa using r2
      · rw [u2_row q1, r3 b q2 (by omega), u2_row q1]
    | some n =>
      refine ⟨mm_u2 (mm_u2 (mm_u2 it g 2 p) (g + 1) 1 0) g 1 (Int32.ofNat n), ?_, ?_, ?_, ?_, fun b q1 q2 q3 => ?_⟩
      · have e5 := dres_i hq
        have e6 := dres_m1 (l := l)
        rw [hq] at e5 e6
        simp only [reduceCtorEq] at e6
        simp only [sg_X2_aim_0, sg_X2_aim_29, sg_X2_aim_19, sg_X2_aim_68, sg_X2_aim_53, mk_sh, mk_rf, mk_it, mk_lg, mk_cc, mk_ss, mk_si, mk_sl, mk_th, mq_u_s, ↓mq_b_d, mq_r_s, mq_a_s, mq_l_s, ck_mk, ck_ite, if_true, if_false, ite_true, ite_false, Nat.le_refl, and_self, and_true, true_and, or_true, true_or, or_false, false_or, eq_self, ck_none, Nat.reduceAdd, Nat.reduceLT, Nat.reduceLeDiff, Nat.reduceEqDiff, Nat.reduceSub, Nat.reduceMul, Int32.reduceLT, Int32.reduceLE, Int32.reduceOfNat, Int32.reduceToNatClampNeg, not_true_eq_false, not_false_eq_true, Nat.add_zero, cl_eq, clr_n, clr_v, clr_x, clr_ite, cr_eq, crr_n, crr_v, crr_ite, List.length_cons, List.length_nil, ct_0, ne_0_1, ne_0_2, ne_0_3, ne_0_4, ne_0_5, ne_0_6, ne_0_7, ne_0_8, ne_1_0, ne_1_2, ne_1_3, ne_1_4, ne_1_5, ne_1_6, ne_1_7, ne_1_8, ne_2_0, ne_2_1, ne_2_3, ne_2_4, ne_2_5, ne_2_6, ne_2_7, ne_2_8, ne_3_0, ne_3_1, ne_3_2, ne_3_4, ne_3_5, ne_3_6, ne_3_7, ne_3_8, ne_4_0, ne_4_1, ne_4_2, ne_4_3, ne_4_5, ne_4_6, ne_4_7, ne_4_8, ne_5_0, ne_5_1, ne_5_2, ne_5_3, ne_5_4, ne_5_6, ne_5_7, ne_5_8, ne_6_0, ne_6_1, ne_6_2, ne_6_3, ne_6_4, ne_6_5, ne_6_7, ne_6_8, ne_7_0, ne_7_1, ne_7_2, ne_7_3, ne_7_4, ne_7_5, ne_7_6, ne_7_8, ne_8_0, ne_8_1, ne_8_2, ne_8_3, ne_8_4, ne_8_5, ne_8_6, ne_8_7, g1, g2, g3.1, hst.1, ht2.2.1, e1, ct_dotted hst ht2 hc, lcmp_m1, hq, e5, e6, ct_clear g3]
      · rw [u2_at]; simp only [goA, hl, hq, if_false]
      · rw [u2_nk (by decide), u2_ne (by omega), u2_at]
      · simp only [goN, hl, hq, if_false]
        exact TxC.row (x := mm_u2 (mm_u2 it g 2 p) (g + 1) 1 0) tx_clear (u2_row (by omega)) (u2_row (by omega))
      · rw [u2_row q1, u2_row q2, u2_row q1]
end PU5
