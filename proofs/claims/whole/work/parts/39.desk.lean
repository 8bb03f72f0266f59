section PU8
variable {rf : Nat → Nat → Option Nat} {it : Nat → Nat → Int32} {lg : Nat → Nat → Int64} {cc ss d : Nat}
theorem gd_app' {α : Type} {l r : List α} {j : Nat} {z : α} (h : j < l.length) : (l ++ r).getD j z = l.getD j z := by simp [List.getD_eq_getElem?_getD, List.getElem?_append_left h]
theorem gd_last {α : Type} {l : List α} {q z : α} : (l ++ [q]).getD l.length z = q := by simp
theorem BkC.push {x y : Nat → Nat → Int32} {rs : List A_ru} {as : List A_ac} {q : A_ru} (h : BkC x rs as) (hn : rs.length < 8) (h1 : y 1 3 = Int32.ofNat (rs.length + 1)) (h2 : y 1 4 = x 1 4) (h3 : ∀ a, 5 ≤ a → a ≤ 40 → a ≠ 5 + 3 * rs.length → a ≠ 6 + 3 * rs.length → a ≠ 7 + 3 * rs.length → y a = x a) (h4 : RuC y (5 + 3 * rs.length) q) : BkC y (rs ++ [q]) as := by
  obtain ⟨⟨a1, a2, a3⟩, b1, b2, b3⟩ := h
  refine ⟨⟨by simp; omega, by rw [h1]; simp, fun i hi => ?_⟩, b1, by rw [h2]; exact b2, fun i hi => ⟨(b3 i hi).1.row (h3 _ (by omega) (by omega) (by omega) (by omega) (by omega)) (h3 _ (by omega) (by omega) (by omega) (by omega) (by omega)), (b3 i hi).2.row (h3 _ (by omega) (by omega) (by omega) (by omega) (by omega)) (h3 _ (by omega) (by omega) (by omega) (by omega) (by omega))⟩⟩
  simp only [List.length_append, List.length_singleton] at hi
  by_cases e : i = rs.length
  · rw [e, gd_last]; exact h4
  · rw [gd_app' (by omega)]
    exact (a3 i (by omega)).row (h3 _ (by omega) (by omega) (by omega) (by omega) (by omega)) (h3 _ (by omega) (by omega) (by omega) (by omega) (by omega)) (h3 _ (by omega) (by omega) (by omega) (by omega) (by omega))
theorem BkC.pusha {x y : Nat → Nat → Int32} {rs : List A_ru} {as : List A_ac} {u p : List Int32} (h : BkC x rs as) (hn : as.length < 3) (h1 : y 1 4 = Int32.ofNat (as.length + 1)) (h2 : y 1 3 = x 1 3) (h3 : ∀ a, 5 ≤ a → a ≤ 40 → a ≠ 29 + 4 * as.length → a ≠ 30 + 4 * as.length → a ≠ 31 + 4 * as.length → a ≠ 32 + 4 * as.length → y a = x a) (h4 : TxC y (29 + 4 * as.length) u) (h5 : TxC y (31 + 4 * as.length) p) : BkC y rs (as ++ [(u, p)]) := by
  obtain ⟨⟨a1, a2, a3⟩, b1, b2, b3⟩ := h
  refine ⟨⟨a1, by rw [h2]; exact a2, fun i hi => (a3 i hi).row (h3 _ (by omega) (by omega) (by omega) (by omega) (by omega) (by omega)) (h3 _ (by omega) (by omega) (by omega) (by omega) (by omega) (by omega)) (h3 _ (by omega) (by omega) (by omega) (by omega) (by omega) (by omega))⟩, by simp; omega, by rw [h1]; simp, fun i hi => ?_⟩
  simp only [List.length_append, List.length_singleton] at hi
  by_cases e : i = as.length
  · rw [e, gd_last]; exact ⟨h4, h5⟩
  · rw [gd_app' (by omega)]
    exact ⟨(b3 i (by omega)).1.row (h3 _ (by omega) (by omega) (by omega) (by omega) (by omega) (by omega)) (h3 _ (by omega) (by omega) (by omega) (by omega) (by omega) (by omega)), (b3 i (by omega)).2.row (h3 _ (by omega) (by omega) (by omega) (by omega) (by omega) (by omega)) (h3 _ (by omega) (by omega) (by omega) (by omega) (by omega) (by omega))⟩
theorem isC_of {v : Int32} (h0 : 0 ≤ v) (h1 : v ≤ 65535) : isC v := by
  refine ⟨v.toNatClampNeg, ?_, i_nn h0⟩
  rw [i_nn h0] at h1
  have := (i_le (Int32.toNatClampNeg_lt v) (show 65535 < 2 ^ 31 by decide)).mp h1
  omega
theorem ile_trans {x y z : Int32} (h1 : x ≤ y) (h2 : y ≤ z) : x ≤ z := by
  rw [Int32.le_iff_toInt_le] at *
  omega
theorem isNm_C {v : Int32} (h : isNm v = true) : isC v := by
  simp only [isNm, isDg, Bool.or_eq_true, Bool.and_eq_true, decide_eq_true_eq] at h
  rcases h with ((⟨h1, h2⟩ | ⟨h1, h2⟩) | h1) | h1
  · exact isC_of (ile_trans (by decide) h1) (ile_trans h2 (by decide))
  · exact isC_of (ile_trans (by decide) h1) (ile_trans h2 (by decide))
  · rw [h1]; exact ⟨46, by decide, rfl⟩
  · rw [h1]; exact ⟨45, by decide, rfl⟩
/-- pad, rules, accounts of the class -/
def DkC (x : Nat → Nat → Int32) (pad : List Int32) (rs : List A_ru) (as : List A_ac) : Prop := TxC x 41 pad ∧ (∀ v ∈ pad, isNm v = true) ∧ BkC x rs as
theorem DkC.row {x y : Nat → Nat → Int32} {pad : List Int32} {rs : List A_ru} {as : List A_ac} (h : DkC x pad rs as) (h1 : ∀ a, a < 43 → y a = x a) : DkC y pad rs as := ⟨h.1.row (h1 _ (by decide)) (h1 _ (by decide)), h.2.1, h.2.2.row (h1 _ (by decide)) (fun a _ q => h1 a (by omega))⟩
theorem sh_0 : SH[0]? = some (0, 10) := rfl
theorem tx41 (hR : RfOk rf) : TxS rf 41 := ⟨rfl, rf_of hR (by decide), rfl⟩
theorem go43 (hR : RfOk rf) : GoS rf 43 := ⟨rfl, rf_of hR (by decide), rfl, rf_of hR (by decide), rfl⟩
theorem sh_41 : SH[41]? = some (0, 9) := rfl
def ptsA (lo hi : Int32) : Bool := decide (0 ≤ lo) && (decide (lo ≤ hi) && decide (hi ≤ 65535))
def rulA (kd bt lo hi : Int32) : Bool := (decide (kd = 0) || (decide (kd = 1) && (decide (0 ≤ bt) && decide (bt ≤ 32)))) && ptsA lo hi
theorem cs_ports {lo hi : Int32} : mm_run md 9000 (d + 6) 91 [.int lo, .int hi] (mk rf it lg cc ss) = if ptsA lo hi = true then some (.inl none, mk rf it lg cc ss) else some (.inr 2, mk rf it lg (cc + 1) (ss + 6)) := by
  rw [en_X10_requirePorts]
  simp only [sg_X10_requirePorts_0, mk_sh, mk_rf, mk_it, mk_lg, mk_cc, mk_ss, mk_si, mk_sl, mk_th, mq_u_s, ↓mq_b_d, mq_r_s, mq_a_s, mq_l_s, ck_mk, ck_ite, if_true, if_false, ite_true, ite_false, Nat.le_refl, and_self, and_true, true_and, or_true, true_or, or_false, false_or, eq_self, ck_none, Nat.reduceAdd, Nat.reduceLT, Nat.reduceLeDiff, Nat.reduceEqDiff, Nat.reduceSub, Nat.reduceMul, Int32.reduceLT, Int32.reduceLE, Int32.reduceOfNat, Int32.reduceToNatClampNeg, not_true_eq_false, not_false_eq_true, Nat.add_zero, cl_eq, clr_n, clr_v, clr_x, clr_ite, cr_eq, crr_n, crr_v, crr_ite, List.length_cons, List.length_nil, ct_0, ne_0_1, ne_0_2, ne_0_3, ne_0_4, ne_0_5, ne_0_6, ne_0_7, ne_0_8, ne_1_0, ne_1_2, ne_1_3, ne_1_4, ne_1_5, ne_1_6, ne_1_7, ne_1_8, ne_2_0, ne_2_1, ne_2_3, ne_2_4, ne_2_5, ne_2_6, ne_2_7, ne_2_8, ne_3_0, ne_3_1, ne_3_2, ne_3_4, ne_3_5, ne_3_6, ne_3_7, ne_3_8, ne_4_0, ne_4_1, ne_4_2, ne_4_3, ne_4_5, ne_4_6, ne_4_7, ne_4_8, ne_5_0, ne_5_1, ne_5_2, ne_5_3, ne_5_4, ne_5_6, ne_5_7, ne_5_8, ne_6_0, ne_6_1, ne_6_2, ne_6_3, ne_6_4, ne_6_5, ne_6_7, ne_6_8, ne_7_0, ne_7_1, ne_7_2, ne_7_3, ne_7_4, ne_7_5, ne_7_6, ne_7_8, ne_8_0, ne_8_1, ne_8_2, ne_8_3, ne_8_4, ne_8_5, ne_8_6, ne_8_7, nle, show 5 ≤ d + 5 by omega, show cc ≤ cc + 1 by omega, show ss ≤ ss + 6 by omega, ptsA]
  by_cases h1 : 0 ≤ lo <;> by_cases h2 : lo ≤ hi <;> by_cases h3 : hi ≤ 65535 <;> simp [h1, h2, h3]
theorem ct_decide {r : Nat} {lb : Bool} {kd lo hi : Int32} (h : SH[r]? = some (0, 8)) : mm_run md 9000 (d + 1) 57 [.ref r, .int (b2i lb), .int kd, .int lo, .int hi] (mk rf it lg cc ss) = some (.inl none, mk rf (mm_u2 (mm_u2 (mm_u2 (mm_u2 it r 1 (b2i lb)) r 2 kd) r 5 lo) r 6 hi) lg cc ss) := by
  rw [en_X8_decide]
  simp only [sg_X8_decide_0, mk_sh, mk_rf, mk_it, mk_lg, mk_cc, mk_ss, mk_si, mk_sl, mk_th, mq_u_s, ↓mq_b_d, mq_r_s, mq_a_s, mq_l_s, ck_mk, ck_ite, if_true, if_false, ite_true, ite_false, Nat.le_refl, and_self, and_true, true_and, or_true, true_or, or_false, false_or, eq_self, ck_none, Nat.reduceAdd, Nat.reduceLT, Nat.reduceLeDiff, Nat.reduceEqDiff, Nat.reduceSub, Nat.reduceMul, Int32.reduceLT, Int32.reduceLE, Int32.reduceOfNat, Int32.reduceToNatClampNeg, not_true_eq_false, not_false_eq_true, Nat.add_zero, cl_eq, clr_n, clr_v, clr_x, clr_ite, cr_eq, crr_n, crr_v, crr_ite, List.length_cons, List.length_nil, ct_0, ne_0_1, ne_0_2, ne_0_3, ne_0_4, ne_0_5, ne_0_6, ne_0_7, ne_0_8, ne_1_0, ne_1_2, ne_1_3, ne_1_4, ne_1_5, ne_1_6, ne_1_7, ne_1_8, ne_2_0, ne_2_1, ne_2_3, ne_2_4, ne_2_5, ne_2_6, ne_2_7, ne_2_8, ne_3_0, ne_3_1, ne_3_2, ne_3_4, ne_3_5, ne_3_6, ne_3_7, ne_3_8, ne_4_0, ne_4_1, ne_4_2, ne_4_3, ne_4_5, ne_4_6, ne_4_7, ne_4_8, ne_5_0, ne_5_1, ne_5_2, ne_5_3, ne_5_4, ne_5_6, ne_5_7, ne_5_8, ne_6_0, ne_6_1, ne_6_2, ne_6_3, ne_6_4, ne_6_5, ne_6_7, ne_6_8, ne_7_0, ne_7_1, ne_7_2, ne_7_3, ne_7_4, ne_7_5, ne_7_6, ne_7_8, ne_8_0, ne_8_1, ne_8_2, ne_8_3, ne_8_4, ne_8_5, ne_8_6, ne_8_7, h, b2i_z]
theorem ct_cover {r : Nat} {ad bt : Int32} (h : SH[r]? = some (0, 8)) : mm_run md 9000 (d + 1) 58 [.ref r, .int ad, .int bt] (mk rf it lg cc ss) = some (.inl none, mk rf (mm_u2 (mm_u2 it r 3 ad) r 4 (maskA bt)) lg cc ss) := by
  rw [en_X8_cover]
  simp only [sg_X8_cover_0, mk_sh, mk_rf, mk_it, mk_lg, mk_cc, mk_ss, mk_si, mk_sl, mk_th, mq_u_s, ↓mq_b_d, mq_r_s, mq_a_s, mq_l_s, ck_mk, ck_ite, if_true, if_false, ite_true, ite_false, Nat.le_refl, and_self, and_true, true_and, or_true, true_or, or_false, false_or, eq_self, ck_none, Nat.reduceAdd, Nat.reduceLT, Nat.reduceLeDiff, Nat.reduceEqDiff, Nat.reduceSub, Nat.reduceMul, Int32.reduceLT, Int32.reduceLE, Int32.reduceOfNat, Int32.reduceToNatClampNeg, not_true_eq_false, not_false_eq_true, Nat.add_zero, cl_eq, clr_n, clr_v, clr_x, clr_ite, cr_eq, crr_n, crr_v, crr_ite, List.length_cons, List.length_nil, ct_0, ne_0_1, ne_0_2, ne_0_3, ne_0_4, ne_0_5, ne_0_6, ne_0_7, ne_0_8, ne_1_0, ne_1_2, ne_1_3, ne_1_4, ne_1_5, ne_1_6, ne_1_7, ne_1_8, ne_2_0, ne_2_1, ne_2_3, ne_2_4, ne_2_5, ne_2_6, ne_2_7, ne_2_8, ne_3_0, ne_3_1, ne_3_2, ne_3_4, ne_3_5, ne_3_6, ne_3_7, ne_3_8, ne_4_0, ne_4_1, ne_4_2, ne_4_3, ne_4_5, ne_4_6, ne_4_7, ne_4_8, ne_5_0, ne_5_1, ne_5_2, ne_5_3, ne_5_4, ne_5_6, ne_5_7, ne_5_8, ne_6_0, ne_6_1, ne_6_2, ne_6_3, ne_6_4, ne_6_5, ne_6_7, ne_6_8, ne_7_0, ne_7_1, ne_7_2, ne_7_3, ne_7_4, ne_7_5, ne_7_6, ne_7_8, ne_8_0, ne_8_1, ne_8_2, ne_8_3, ne_8_4, ne_8_5, ne_8_6, ne_8_7, h, maskA]
  by_cases hb : bt = 0 <;> simp [hb]
theorem cd_type {pad : List Int32} {rs : List A_ru} {as : List A_ac} {c : Int32} (hR : RfOk rf) (hD : DkC it pad rs as) (hc : isC c) : ∃ it9, mm_run md 9000 (d + 3) 70 [.ref 0, .int c] (mk rf it lg cc ss) = some (.inl (some (.int (b2i (isNm c && decide (pad.length < 15))))), mk rf it9 lg cc ss) ∧ DkC it9 (if (isNm c && decide (pad.length < 15)) = true then pad ++ [c] else pad) rs as ∧ ∀ a, 43 ≤ a → it9 a = it a := by
  rw [en_X10_type]
  cases hn : isNm c with
  | false =>
    refine ⟨it, ?_, by simpa using hD, fun _ _ => rfl⟩
    simp only [sg_X10_type_0, sg_X10_type_4, sg_X10_type_15, mk_sh, mk_rf, mk_it, mk_lg, mk_cc, mk_ss, mk_si, mk_sl, mk_th, mq_u_s, ↓mq_b_d, mq_r_s, mq_a_s, mq_l_s, ck_mk, ck_ite, if_true, if_false, ite_true, ite_false, Nat.le_refl, and_self, and_true, true_and, or_true, true_or, or_false, false_or, eq_self, ck_none, Nat.reduceAdd, Nat.reduceLT, Nat.reduceLeDiff, Nat.reduceEqDiff, Nat.reduceSub, Nat.reduceMul, Int32.reduceLT, Int32.reduceLE, Int32.reduceOfNat, Int32.reduceToNatClampNeg, not_true_eq_false, not_false_eq_true, Nat.add_zero, cl_eq, clr_n, clr_v, clr_x, clr_ite, cr_eq, crr_n, crr_v, crr_ite, List.length_cons, List.length_nil, ct_0, ne_0_1, ne_0_2, ne_0_3, ne_0_4, ne_0_5, ne_0_6, ne_0_7, ne_0_8, ne_1_0, ne_1_2, ne_1_3, ne_1_4, ne_1_5, ne_1_6, ne_1_7, ne_1_8, ne_2_0, ne_2_1, ne_2_3, ne_2_4, ne_2_5, ne_2_6, ne_2_7, ne_2_8, ne_3_0, ne_3_1, ne_3_2, ne_3_4, ne_3_5, ne_3_6, ne_3_7, ne_3_8, ne_4_0, ne_4_1, ne_4_2, ne_4_3, ne_4_5, ne_4_6, ne_4_7, ne_4_8, ne_5_0, ne_5_1, ne_5_2, ne_5_3, ne_5_4, ne_5_6, ne_5_7, ne_5_8, ne_6_0, ne_6_1, ne_6_2, ne_6_3, ne_6_4, ne_6_5, ne_6_7, ne_6_8, ne_7_0, ne_7_1, ne_7_2, ne_7_3, ne_7_4, ne_7_5, ne_7_6, ne_7_8, ne_8_0, ne_8_1, ne_8_2, ne_8_3, ne_8_4, ne_8_5, ne_8_6, ne_8_7, cs_isNm, b2i_0, hn, Bool.false_and]
    rfl
  | true =>
    by_cases hl : pad.length < 15
    · refine ⟨txp it 41 pad.length c, ?_, ?_, fun a ha => txp_row (by omega) (by omega)⟩
      · simp only [sg_X10_type_0, sg_X10_type_4, sg_X10_type_15, mk_sh, mk_rf, mk_it, mk_lg, mk_cc, mk_ss, mk_si, mk_sl, mk_th, mq_u_s, ↓mq_b_d, mq_r_s, mq_a_s, mq_l_s, ck_mk, ck_ite, if_true, if_false, ite_true, ite_false, Nat.le_refl, and_self, and_true, true_and, or_true, true_or, or_false, false_or, eq_self, ck_none, Nat.reduceAdd, Nat.reduceLT, Nat.reduceLeDiff, Nat.reduceEqDiff, Nat.reduceSub, Nat.reduceMul, Int32.reduceLT, Int32.reduceLE, Int32.reduceOfNat, Int32.reduceToNatClampNeg, not_true_eq_false, not_false_eq_true, Nat.add_zero, cl_eq, clr_n, clr_v, clr_x, clr_ite, cr_eq, crr_n, crr_v, crr_ite, List.length_cons, List.length_nil, ct_0, ne_0_1, ne_0_2, ne_0_3, ne_0_4, ne_0_5, ne_0_6, ne_0_7, ne_0_8, ne_1_0, ne_1_2, ne_1_3, ne_1_4, ne_1_5, ne_1_6, ne_1_7, ne_1_8, ne_2_0, ne_2_1, ne_2_3, ne_2_4, ne_2_5, ne_2_6, ne_2_7, ne_2_8, ne_3_0, ne_3_1, ne_3_2, ne_3_4, ne_3_5, ne_3_6, ne_3_7, ne_3_8, ne_4_0, ne_4_1, ne_4_2, ne_4_3, ne_4_5, ne_4_6, ne_4_7, ne_4_8, ne_5_0, ne_5_1, ne_5_2, ne_5_3, ne_5_4, ne_5_6, ne_5_7, ne_5_8, ne_6_0, ne_6_1, ne_6_2, ne_6_3, ne_6_4, ne_6_5, ne_6_7, ne_6_8, ne_7_0, ne_7_1, ne_7_2, ne_7_3, ne_7_4, ne_7_5, ne_7_6, ne_7_8, ne_8_0, ne_8_1, ne_8_2, ne_8_3, ne_8_4, ne_8_5, ne_8_6, ne_8_7, cs_isNm, b2i_0, hn, sh_0, sh_41, rf_of hR (show (0, 2, 41) ∈ RFl by decide), ct_put (tx41 hR) hD.1 hc, hl, decide_true, Bool.and_self, Bool.true_eq_false]
        rfl
      · simp only [hl, decide_true, Bool.and_self, if_true]
        refine ⟨txp_ok hD.1 hl, ?_, hD.2.2.row (txp_row (by decide) (by decide)) (fun a q1 q2 => txp_row (by omega) (by omega))⟩
        intro v hv
        rcases List.mem_append.mp hv with q | q
        · exact hD.2.1 v q
        · rw [List.mem_singleton.mp q]; exact hn
    · refine ⟨it, ?_, by simpa [hl] using hD, fun _ _ => rfl⟩
      simp only [sg_X10_type_0, sg_X10_type_4, sg_X10_type_15, mk_sh, mk_rf, mk_it, mk_lg, mk_cc, mk_ss, mk_si, mk_sl, mk_th, mq_u_s, ↓mq_b_d, mq_r_s, mq_a_s, mq_l_s, ck_mk, ck_ite, if_true, if_false, ite_true, ite_false, Nat.le_refl, and_self, and_true, true_and, or_true, true_or, or_false, false_or, eq_self, ck_none, Nat.reduceAdd, Nat.reduceLT, Nat.reduceLeDiff, Nat.reduceEqDiff, Nat.reduceSub, Nat.reduceMul, Int32.reduceLT, Int32.reduceLE, Int32.reduceOfNat, Int32.reduceToNatClampNeg, not_true_eq_false, not_false_eq_true, Nat.add_zero, cl_eq, clr_n, clr_v, clr_x, clr_ite, cr_eq, crr_n, crr_v, crr_ite, List.length_cons, List.length_nil, ct_0, ne_0_1, ne_0_2, ne_0_3, ne_0_4, ne_0_5, ne_0_6, ne_0_7, ne_0_8, ne_1_0, ne_1_2, ne_1_3, ne_1_4, ne_1_5, ne_1_6, ne_1_7, ne_1_8, ne_2_0, ne_2_1, ne_2_3, ne_2_4, ne_2_5, ne_2_6, ne_2_7, ne_2_8, ne_3_0, ne_3_1, ne_3_2, ne_3_4, ne_3_5, ne_3_6, ne_3_7, ne_3_8, ne_4_0, ne_4_1, ne_4_2, ne_4_3, ne_4_5, ne_4_6, ne_4_7, ne_4_8, ne_5_0, ne_5_1, ne_5_2, ne_5_3, ne_5_4, ne_5_6, ne_5_7, ne_5_8, ne_6_0, ne_6_1, ne_6_2, ne_6_3, ne_6_4, ne_6_5, ne_6_7, ne_6_8, ne_7_0, ne_7_1, ne_7_2, ne_7_3, ne_7_4, ne_7_5, ne_7_6, ne_7_8, ne_8_0, ne_8_1, ne_8_2, ne_8_3, ne_8_4, ne_8_5, ne_8_6, ne_8_7, cs_isNm, b2i_0, hn, sh_0, sh_41, rf_of hR (show (0, 2, 41) ∈ RFl by decide), ct_put (tx41 hR) hD.1 hc, hl, decide_false, Bool.and_false, Bool.true_eq_false]
      rfl
theorem cd_rule {pad : List Int32} {rs : List A_ru} {as : List A_ac} {lb : Bool} {kd ad bt lo hi : Int32} (hR : RfOk rf) (hD : DkC it pad rs as) : (rulA kd bt lo hi = false → mm_run md 9000 (d + 7) 71 [.ref 0, .int (b2i lb), .int kd, .int ad, .int bt, .int lo, .int hi] (mk rf it lg cc ss) = some (.inr 2, mk rf it lg (cc + 1) (ss + 6))) ∧
    (rulA kd bt lo hi = true → ¬ rs.length < 8 → mm_run md 9000 (d + 7) 71 [.ref 0, .int (b2i lb), .int kd, .int ad, .int bt, .int lo, .int hi] (mk rf it lg cc ss) = some (.inr 3, mk rf it lg (cc + 1) (ss + 6))) ∧
    (rulA kd bt lo hi = true → rs.length < 8 → ∃ it9, mm_run md 9000 (d + 7) 71 [.ref 0, .int (b2i lb), .int kd, .int ad, .int bt, .int lo, .int hi] (mk rf it lg cc ss) = some (.inl (some (.int (Int32.ofNat (rs.length + 1)))), mk rf it9 lg cc ss) ∧ DkC it9 pad (rs ++ [(lb, kd, ad, bt, lo, hi, [])]) as ∧ ∀ a, 43 ≤ a → it9 a = it a) := by
  rw [en_X10_rule]
  refine ⟨fun h => ?_, fun h h8 => ?_, fun h h8 => ?_⟩
  · simp only [sg_X10_rule_0, sg_X10_rule_53, mk_sh, mk_rf, mk_it, mk_lg, mk_cc, mk_ss, mk_si, mk_sl, mk_th, mq_u_s, ↓mq_b_d, mq_r_s, mq_a_s, mq_l_s, ck_mk, ck_ite, if_true, if_false, ite_true, ite_false, Nat.le_refl, and_self, and_true, true_and, or_true, true_or, or_false, false_or, eq_self, ck_none, Nat.reduceAdd, Nat.reduceLT, Nat.reduceLeDiff, Nat.reduceEqDiff, Nat.reduceSub, Nat.reduceMul, Int32.reduceLT, Int32.reduceLE, Int32.reduceOfNat, Int32.reduceToNatClampNeg, not_true_eq_false, not_false_eq_true, Nat.add_zero, cl_eq, clr_n, clr_v, clr_x, clr_ite, cr_eq, crr_n, crr_v, crr_ite, List.length_cons, List.length_nil, ct_0, ne_0_1, ne_0_2, ne_0_3, ne_0_4, ne_0_5, ne_0_6, ne_0_7, ne_0_8, ne_1_0, ne_1_2, ne_1_3, ne_1_4, ne_1_5, ne_1_6, ne_1_7, ne_1_8, ne_2_0, ne_2_1, ne_2_3, ne_2_4, ne_2_5, ne_2_6, ne_2_7, ne_2_8, ne_3_0, ne_3_1, ne_3_2, ne_3_4, ne_3_5, ne_3_6, ne_3_7, ne_3_8, ne_4_0, ne_4_1, ne_4_2, ne_4_3, ne_4_5, ne_4_6, ne_4_7, ne_4_8, ne_5_0, ne_5_1, ne_5_2, ne_5_3, ne_5_4, ne_5_6, ne_5_7, ne_5_8, ne_6_0, ne_6_1, ne_6_2, ne_6_3, ne_6_4, ne_6_5, ne_6_7, ne_6_8, ne_7_0, ne_7_1, ne_7_2, ne_7_3, ne_7_4, ne_7_5, ne_7_6, ne_7_8, ne_8_0, ne_8_1, ne_8_2, ne_8_3, ne_8_4, ne_8_5, ne_8_6, ne_8_7, nle, cs_ports, show 5 ≤ d + 6 by omega, show cc ≤ cc + 1 by omega, show ss ≤ ss + 6 by omega]
    simp only [rulA] at h
    by_cases k0 : kd = 0
    · subst k0
      have h9 : ptsA lo hi = false := by simpa using h
      simp [h9, ck_mk]
    · by_cases k1 : kd = 1
      · subst k1
        by_cases q1 : 0 ≤ bt <;> by_cases q2 : bt ≤ 32
        · have h9 : ptsA lo hi = false := by simpa [q1, q2] using h
          simp [h9, q1, q2, ck_mk]
        · simp [q1, q2]
        · simp [q1, q2]
        · simp [q1, q2]
      · simp [k0, k1]
  · have hp : ptsA lo hi = true := by simp only [rulA, Bool.and_eq_true] at h; exact h.2
    have hk : kd = 0 ∨ (kd = 1 ∧ 0 ≤ bt ∧ bt ≤ 32) := by simpa [rulA, hp] using h
    rcases hk with rfl | ⟨rfl, q1, q2⟩
    · simp only [sg_X10_rule_0, sg_X10_rule_53, mk_sh, mk_rf, mk_it, mk_lg, mk_cc, mk_ss, mk_si, mk_sl, mk_th, mq_u_s, ↓mq_b_d, mq_r_s, mq_a_s, mq_l_s, ck_mk, ck_ite, if_true, if_false, ite_true, ite_false, Nat.le_refl, and_self, and_true, true_and, or_true, true_or, or_false, false_or, eq_self, ck_none, Nat.reduceAdd, Nat.reduceLT, Nat.reduceLeDiff, Nat.reduceEqDiff, Nat.reduceSub, Nat.reduceMul, Int32.reduceLT, Int32.reduceLE, Int32.reduceOfNat, Int32.reduceToNatClampNeg, not_true_eq_false, not_false_eq_true, Nat.add_zero, cl_eq, clr_n, clr_v, clr_x, clr_ite, cr_eq, crr_n, crr_v, crr_ite, List.length_cons, List.length_nil, ct_0, ne_0_1, ne_0_2, ne_0_3, ne_0_4, ne_0_5, ne_0_6, ne_0_7, ne_0_8, ne_1_0, ne_1_2, ne_1_3, ne_1_4, ne_1_5, ne_1_6, ne_1_7, ne_1_8, ne_2_0, ne_2_1, ne_2_3, ne_2_4, ne_2_5, ne_2_6, ne_2_7, ne_2_8, ne_3_0, ne_3_1, ne_3_2, ne_3_4, ne_3_5, ne_3_6, ne_3_7, ne_3_8, ne_4_0, ne_4_1, ne_4_2, ne_4_3, ne_4_5, ne_4_6, ne_4_7, ne_4_8, ne_5_0, ne_5_1, ne_5_2, ne_5_3, ne_5_4, ne_5_6, ne_5_7, ne_5_8, ne_6_0, ne_6_1, ne_6_2, ne_6_3, ne_6_4, ne_6_5, ne_6_7, ne_6_8, ne_7_0, ne_7_1, ne_7_2, ne_7_3, ne_7_4, ne_7_5, ne_7_6, ne_7_8, ne_8_0, ne_8_1, ne_8_2, ne_8_3, ne_8_4, ne_8_5, ne_8_6, ne_8_7, nle, cs_ports, hp, sh_0, sh_1, rf_of hR (show (0, 1, 1) ∈ RFl by decide), ct_nextRule hR hD.2.2, h8, show cc ≤ cc + 1 by omega, show ss ≤ ss + 6 by omega]
    · simp only [sg_X10_rule_0, sg_X10_rule_53, mk_sh, mk_rf, mk_it, mk_lg, mk_cc, mk_ss, mk_si, mk_sl, mk_th, mq_u_s, ↓mq_b_d, mq_r_s, mq_a_s, mq_l_s, ck_mk, ck_ite, if_true, if_false, ite_true, ite_false, Nat.le_refl, and_self, and_true, true_and, or_true, true_or, or_false, false_or, eq_self, ck_none, Nat.reduceAdd, Nat.reduceLT, Nat.reduceLeDiff, Nat.reduceEqDiff, Nat.reduceSub, Nat.reduceMul, Int32.reduceLT, Int32.reduceLE, Int32.reduceOfNat, Int32.reduceToNatClampNeg, not_true_eq_false, not_false_eq_true, Nat.add_zero, cl_eq, clr_n, clr_v, clr_x, clr_ite, cr_eq, crr_n, crr_v, crr_ite, List.length_cons, List.length_nil, ct_0, ne_0_1, ne_0_2, ne_0_3, ne_0_4, ne_0_5, ne_0_6, ne_0_7, ne_0_8, ne_1_0, ne_1_2, ne_1_3, ne_1_4, ne_1_5, ne_1_6, ne_1_7, ne_1_8, ne_2_0, ne_2_1, ne_2_3, ne_2_4, ne_2_5, ne_2_6, ne_2_7, ne_2_8, ne_3_0, ne_3_1, ne_3_2, ne_3_4, ne_3_5, ne_3_6, ne_3_7, ne_3_8, ne_4_0, ne_4_1, ne_4_2, ne_4_3, ne_4_5, ne_4_6, ne_4_7, ne_4_8, ne_5_0, ne_5_1, ne_5_2, ne_5_3, ne_5_4, ne_5_6, ne_5_7, ne_5_8, ne_6_0, ne_6_1, ne_6_2, ne_6_3, ne_6_4, ne_6_5, ne_6_7, ne_6_8, ne_7_0, ne_7_1, ne_7_2, ne_7_3, ne_7_4, ne_7_5, ne_7_6, ne_7_8, ne_8_0, ne_8_1, ne_8_2, ne_8_3, ne_8_4, ne_8_5, ne_8_6, ne_8_7, nle, cs_ports, hp, q1, q2, sh_0, sh_1, rf_of hR (show (0, 1, 1) ∈ RFl by decide), ct_nextRule hR hD.2.2, h8, show cc ≤ cc + 1 by omega, show ss ≤ ss + 6 by omega]
  · have hp : ptsA lo hi = true := by simp only [rulA, Bool.and_eq_true] at h; exact h.2
    have hk : kd = 0 ∨ (kd = 1 ∧ 0 ≤ bt ∧ bt ≤ 32) := by simpa [rulA, hp] using h
    have hS := (ruS hR _ h8).1
    have hn : ∀ v : Int32, mm_u2 it 1 3 v 1 4 = it 1 4 := fun v => u2_nk (by decide)
    rcases hk with rfl | ⟨rfl, q1, q2⟩
    · refine ⟨mm_u2 (mm_u2 (mm_u2 (mm_u2 (mm_u2 (mm_u2 (mm_u2 it 1 3 (Int32.ofNat (rs.length + 1))) (5 + 3 * rs.length) 1 (b2i lb)) (5 + 3 * rs.length) 2 0) (5 + 3 * rs.length) 5 lo) (5 + 3 * rs.length) 6 hi) (5 + 3 * rs.length) 3 ad) (5 + 3 * rs.length) 4 (maskA 0), ?_, ?_, ?_⟩
      · simp only [sg_X10_rule_0, sg_X10_rule_53, sg_X10_rule_60, sg_X10_rule_73, sg_X10_rule_90, mk_sh, mk_rf, mk_it, mk_lg, mk_cc, mk_ss, mk_si, mk_sl, mk_th, mq_u_s, ↓mq_b_d, mq_r_s, mq_a_s, mq_l_s, ck_mk, ck_ite, if_true, if_false, ite_true, ite_false, Nat.le_refl, and_self, and_true, true_and, or_true, true_or, or_false, false_or, eq_self, ck_none, Nat.reduceAdd, Nat.reduceLT, Nat.reduceLeDiff, Nat.reduceEqDiff, Nat.reduceSub, Nat.reduceMul, Int32.reduceLT, Int32.reduceLE, Int32.reduceOfNat, Int32.reduceToNatClampNeg, not_true_eq_false, not_false_eq_true, Nat.add_zero, cl_eq, clr_n, clr_v, clr_x, clr_ite, cr_eq, crr_n, crr_v, crr_ite, List.length_cons, List.length_nil, ct_0, ne_0_1, ne_0_2, ne_0_3, ne_0_4, ne_0_5, ne_0_6, ne_0_7, ne_0_8, ne_1_0, ne_1_2, ne_1_3, ne_1_4, ne_1_5, ne_1_6, ne_1_7, ne_1_8, ne_2_0, ne_2_1, ne_2_3, ne_2_4, ne_2_5, ne_2_6, ne_2_7, ne_2_8, ne_3_0, ne_3_1, ne_3_2, ne_3_4, ne_3_5, ne_3_6, ne_3_7, ne_3_8, ne_4_0, ne_4_1, ne_4_2, ne_4_3, ne_4_5, ne_4_6, ne_4_7, ne_4_8, ne_5_0, ne_5_1, ne_5_2, ne_5_3, ne_5_4, ne_5_6, ne_5_7, ne_5_8, ne_6_0, ne_6_1, ne_6_2, ne_6_3, ne_6_4, ne_6_5, ne_6_7, ne_6_8, ne_7_0, ne_7_1, ne_7_2, ne_7_3, ne_7_4, ne_7_5, ne_7_6, ne_7_8, ne_8_0, ne_8_1, ne_8_2, ne_8_3, ne_8_4, ne_8_5, ne_8_6, ne_8_7, nle, cs_ports, hp, sh_0, sh_1, rf_of hR (show (0, 1, 1) ∈ RFl by decide), ct_nextRule hR hD.2.2, h8, ct_decide hS.1, ct_cover hS.1, hS.1, u2_ne (show 1 ≠ 5 + 3 * rs.length by omega), u2_at]
      · refine ⟨hD.1.row ?_ ?_, hD.2.1, hD.2.2.push h8 ?_ ?_ (fun a p1 p2 p3 p4 p5 => ?_) ?_⟩
        · rw [u2_row (by omega), u2_row (by omega), u2_row (by omega), u2_row (by omega), u2_row (by omega), u2_row (by omega), u2_row (by omega)]
        · rw [u2_row (by omega), u2_row (by omega), u2_row (by omega), u2_row (by omega), u2_row (by omega), u2_row (by omega), u2_row (by omega)]
        · simp only [u2_ne (show 1 ≠ 5 + 3 * rs.length by omega), u2_at]
        · simp only [u2_ne (show 1 ≠ 5 + 3 * rs.length by omega), hn]
        · rw [u2_row p3, u2_row p3, u2_row p3, u2_row p3, u2_row p3, u2_row p3, u2_row (by omega)]
        · refine ⟨?_, ?_, Or.inl rfl, ?_, ?_, fun z => absurd z (by show ¬ (0 : Int32) = 1; decide), fun z => absurd z (by show ¬ (0 : Int32) = 2; decide)⟩
          · simp [mm_u2]
          · simp [mm_u2]
          · simp [mm_u2]
          · simp [mm_u2]
      · intro a ha
        rw [u2_row (by omega), u2_row (by omega), u2_row (by omega), u2_row (by omega), u2_row (by omega), u2_row (by omega), u2_row (by omega)]
    · refine ⟨mm_u2 (mm_u2 (mm_u2 (mm_u2 (mm_u2 (mm_u2 (mm_u2 it 1 3 (Int32.ofNat (rs.length + 1))) (5 + 3 * rs.length) 1 (b2i lb)) (5 + 3 * rs.length) 2 1) (5 + 3 * rs.length) 5 lo) (5 + 3 * rs.length) 6 hi) (5 + 3 * rs.length) 3 ad) (5 + 3 * rs.length) 4 (maskA bt), ?_, ?_, ?_⟩
      · simp only [sg_X10_rule_0, sg_X10_rule_53, sg_X10_rule_60, sg_X10_rule_73, sg_X10_rule_90, mk_sh, mk_rf, mk_it, mk_lg, mk_cc, mk_ss, mk_si, mk_sl, mk_th, mq_u_s, ↓mq_b_d, mq_r_s, mq_a_s, mq_l_s, ck_mk, ck_ite, if_true, if_false, ite_true, ite_false, Nat.le_refl, and_self, and_true, true_and, or_true, true_or, or_false, false_or, eq_self, ck_none, Nat.reduceAdd, Nat.reduceLT, Nat.reduceLeDiff, Nat.reduceEqDiff, Nat.reduceSub, Nat.reduceMul, Int32.reduceLT, Int32.reduceLE, Int32.reduceOfNat, Int32.reduceToNatClampNeg, not_true_eq_false, not_false_eq_true, Nat.add_zero, cl_eq, clr_n, clr_v, clr_x, clr_ite, cr_eq, crr_n, crr_v, crr_ite, List.length_cons, List.length_nil, ct_0, ne_0_1, ne_0_2, ne_0_3, ne_0_4, ne_0_5, ne_0_6, ne_0_7, ne_0_8, ne_1_0, ne_1_2, ne_1_3, ne_1_4, ne_1_5, ne_1_6, ne_1_7, ne_1_8, ne_2_0, ne_2_1, ne_2_3, ne_2_4, ne_2_5, ne_2_6, ne_2_7, ne_2_8, ne_3_0, ne_3_1, ne_3_2, ne_3_4, ne_3_5, ne_3_6, ne_3_7, ne_3_8, ne_4_0, ne_4_1, ne_4_2, ne_4_3, ne_4_5, ne_4_6, ne_4_7, ne_4_8, ne_5_0, ne_5_1, ne_5_2, ne_5_3, ne_5_4, ne_5_6, ne_5_7, ne_5_8, ne_6_0, ne_6_1, ne_6_2, ne_6_3, ne_6_4, ne_6_5, ne_6_7, ne_6_8, ne_7_0, ne_7_1, ne_7_2, ne_7_3, ne_7_4, ne_7_5, ne_7_6, ne_7_8, ne_8_0, ne_8_1, ne_8_2, ne_8_3, ne_8_4, ne_8_5, ne_8_6, ne_8_7, nle, cs_ports, hp, q1, q2, sh_0, sh_1, rf_of hR (show (0, 1, 1) ∈ RFl by decide), ct_nextRule hR hD.2.2, h8, ct_decide hS.1, ct_cover hS.1, hS.1, u2_ne (show 1 ≠ 5 + 3 * rs.length by omega), u2_at]
      · refine ⟨hD.1.row ?_ ?_, hD.2.1, hD.2.2.push h8 ?_ ?_ (fun a p1 p2 p3 p4 p5 => ?_) ?_⟩
        · rw [u2_row (by omega), u2_row (by omega), u2_row (by omega), u2_row (by omega), u2_row (by omega), u2_row (by omega), u2_row (by omega)]
        · rw [u2_row (by omega), u2_row (by omega), u2_row (by omega), u2_row (by omega), u2_row (by omega), u2_row (by omega), u2_row (by omega)]
        · simp only [u2_ne (show 1 ≠ 5 + 3 * rs.length by omega), u2_at]
        · simp only [u2_ne (show 1 ≠ 5 + 3 * rs.length by omega), hn]
        · rw [u2_row p3, u2_row p3, u2_row p3, u2_row p3, u2_row p3, u2_row p3, u2_row (by omega)]
        · refine ⟨?_, ?_, Or.inr (Or.inl rfl), ?_, ?_, fun _ => ⟨?_, ?_, q1, q2⟩, fun z => absurd z (by show ¬ (1 : Int32) = 2; decide)⟩
          · simp [mm_u2]
          · simp [mm_u2]
          · simp [mm_u2]
          · simp [mm_u2]
          · simp [mm_u2]
          · simp [mm_u2]
      · intro a ha
        rw [u2_row (by omega), u2_row (by omega), u2_row (by omega), u2_row (by omega), u2_row (by omega), u2_row (by omega), u2_row (by omega)]
end PU8
