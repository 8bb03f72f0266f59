section PU2
variable {rf : Nat → Nat → Option Nat} {it : Nat → Nat → Int32} {lg : Nat → Nat → Int64} {cc ss d : Nat}
theorem ck_u {u : mm_M} {x : Option Value ⊕ Nat} : mm_ck u (some (x, u)) = some (x, u) := by simp [mm_ck]
def b2i (b : Bool) : Int32 := if b = true then 1 else 0
theorem b2i_0 {b : Bool} : (b2i b = 0) = (b = false) := by cases b <;> simp [b2i]
theorem b2i_z {b : Bool} : (b2i b = 0 ∨ b2i b = 1) = True := by cases b <;> simp [b2i]
def isDg (v : Int32) : Bool := decide (48 ≤ v) && decide (v ≤ 57)
def isNm (v : Int32) : Bool := (decide (97 ≤ v) && decide (v ≤ 122)) || isDg v || decide (v = 46) || decide (v = 45)
def isSl (v : Int32) : Bool := decide (1 ≤ v) && decide (v ≤ 6)
theorem nle {x y : Int32} : (x < y) = ¬ (y ≤ x) := by
  rw [Int32.lt_iff_toInt_lt, Int32.le_iff_toInt_le, Int.not_le]
theorem cs_isDigit {v : Int32} {u : mm_M} : mm_run md 9000 (d + 1) 93 [.int v] u = some (.inl (some (.int (b2i (isDg v)))), u) := by
  rw [en_X10_isDigit]
  simp only [sg_X10_isDigit_0, mk_sh, mk_rf, mk_it, mk_lg, mk_cc, mk_ss, mk_si, mk_sl, mk_th, mq_u_s, ↓mq_b_d, mq_r_s, mq_a_s, mq_l_s, ck_mk, ck_ite, if_true, if_false, ite_true, ite_false, Nat.le_refl, and_self, and_true, true_and, or_true, true_or, or_false, false_or, eq_self, ck_none, Nat.reduceAdd, Nat.reduceLT, Nat.reduceLeDiff, Nat.reduceEqDiff, Nat.reduceSub, Nat.reduceMul, Int32.reduceLT, Int32.reduceLE, Int32.reduceOfNat, Int32.reduceToNatClampNeg, not_true_eq_false, not_false_eq_true, Nat.add_zero, cl_eq, clr_n, clr_v, clr_x, clr_ite, cr_eq, crr_n, crr_v, crr_ite, List.length_cons, List.length_nil, ct_0, ne_0_1, ne_0_2, ne_0_3, ne_0_4, ne_0_5, ne_0_6, ne_0_7, ne_0_8, ne_1_0, ne_1_2, ne_1_3, ne_1_4, ne_1_5, ne_1_6, ne_1_7, ne_1_8, ne_2_0, ne_2_1, ne_2_3, ne_2_4, ne_2_5, ne_2_6, ne_2_7, ne_2_8, ne_3_0, ne_3_1, ne_3_2, ne_3_4, ne_3_5, ne_3_6, ne_3_7, ne_3_8, ne_4_0, ne_4_1, ne_4_2, ne_4_3, ne_4_5, ne_4_6, ne_4_7, ne_4_8, ne_5_0, ne_5_1, ne_5_2, ne_5_3, ne_5_4, ne_5_6, ne_5_7, ne_5_8, ne_6_0, ne_6_1, ne_6_2, ne_6_3, ne_6_4, ne_6_5, ne_6_7, ne_6_8, ne_7_0, ne_7_1, ne_7_2, ne_7_3, ne_7_4, ne_7_5, ne_7_6, ne_7_8, ne_8_0, ne_8_1, ne_8_2, ne_8_3, ne_8_4, ne_8_5, ne_8_6, ne_8_7, ck_u, nle]
  by_cases h1 : 48 ≤ v <;> by_cases h2 : v ≤ 57 <;> simp [h1, h2, isDg, b2i]
theorem cs_isSl {v : Int32} {u : mm_M} : mm_run md 9000 (d + 1) 92 [.int v] u = some (.inl (some (.int (b2i (isSl v)))), u) := by
  rw [en_X10_isSecretLength]
  simp only [sg_X10_isSecretLength_0, mk_sh, mk_rf, mk_it, mk_lg, mk_cc, mk_ss, mk_si, mk_sl, mk_th, mq_u_s, ↓mq_b_d, mq_r_s, mq_a_s, mq_l_s, ck_mk, ck_ite, if_true, if_false, ite_true, ite_false, Nat.le_refl, and_self, and_true, true_and, or_true, true_or, or_false, false_or, eq_self, ck_none, Nat.reduceAdd, Nat.reduceLT, Nat.reduceLeDiff, Nat.reduceEqDiff, Nat.reduceSub, Nat.reduceMul, Int32.reduceLT, Int32.reduceLE, Int32.reduceOfNat, Int32.reduceToNatClampNeg, not_true_eq_false, not_false_eq_true, Nat.add_zero, cl_eq, clr_n, clr_v, clr_x, clr_ite, cr_eq, crr_n, crr_v, crr_ite, List.length_cons, List.length_nil, ct_0, ne_0_1, ne_0_2, ne_0_3, ne_0_4, ne_0_5, ne_0_6, ne_0_7, ne_0_8, ne_1_0, ne_1_2, ne_1_3, ne_1_4, ne_1_5, ne_1_6, ne_1_7, ne_1_8, ne_2_0, ne_2_1, ne_2_3, ne_2_4, ne_2_5, ne_2_6, ne_2_7, ne_2_8, ne_3_0, ne_3_1, ne_3_2, ne_3_4, ne_3_5, ne_3_6, ne_3_7, ne_3_8, ne_4_0, ne_4_1, ne_4_2, ne_4_3, ne_4_5, ne_4_6, ne_4_7, ne_4_8, ne_5_0, ne_5_1, ne_5_2, ne_5_3, ne_5_4, ne_5_6, ne_5_7, ne_5_8, ne_6_0, ne_6_1, ne_6_2, ne_6_3, ne_6_4, ne_6_5, ne_6_7, ne_6_8, ne_7_0, ne_7_1, ne_7_2, ne_7_3, ne_7_4, ne_7_5, ne_7_6, ne_7_8, ne_8_0, ne_8_1, ne_8_2, ne_8_3, ne_8_4, ne_8_5, ne_8_6, ne_8_7, ck_u, nle]
  by_cases h1 : 1 ≤ v <;> by_cases h2 : v ≤ 6 <;> simp [h1, h2, isSl, b2i]
theorem cs_isNm {v : Int32} {u : mm_M} : mm_run md 9000 (d + 2) 94 [.int v] u = some (.inl (some (.int (b2i (isNm v)))), u) := by
  rw [en_X10_isNamePart]
  simp only [sg_X10_isNamePart_0, sg_X10_isNamePart_16, mk_sh, mk_rf, mk_it, mk_lg, mk_cc, mk_ss, mk_si, mk_sl, mk_th, mq_u_s, ↓mq_b_d, mq_r_s, mq_a_s, mq_l_s, ck_mk, ck_ite, if_true, if_false, ite_true, ite_false, Nat.le_refl, and_self, and_true, true_and, or_true, true_or, or_false, false_or, eq_self, ck_none, Nat.reduceAdd, Nat.reduceLT, Nat.reduceLeDiff, Nat.reduceEqDiff, Nat.reduceSub, Nat.reduceMul, Int32.reduceLT, Int32.reduceLE, Int32.reduceOfNat, Int32.reduceToNatClampNeg, not_true_eq_false, not_false_eq_true, Nat.add_zero, cl_eq, clr_n, clr_v, clr_x, clr_ite, cr_eq, crr_n, crr_v, crr_ite, List.length_cons, List.length_nil, ct_0, ne_0_1, ne_0_2, ne_0_3, ne_0_4, ne_0_5, ne_0_6, ne_0_7, ne_0_8, ne_1_0, ne_1_2, ne_1_3, ne_1_4, ne_1_5, ne_1_6, ne_1_7, ne_1_8, ne_2_0, ne_2_1, ne_2_3, ne_2_4, ne_2_5, ne_2_6, ne_2_7, ne_2_8, ne_3_0, ne_3_1, ne_3_2, ne_3_4, ne_3_5, ne_3_6, ne_3_7, ne_3_8, ne_4_0, ne_4_1, ne_4_2, ne_4_3, ne_4_5, ne_4_6, ne_4_7, ne_4_8, ne_5_0, ne_5_1, ne_5_2, ne_5_3, ne_5_4, ne_5_6, ne_5_7, ne_5_8, ne_6_0, ne_6_1, ne_6_2, ne_6_3, ne_6_4, ne_6_5, ne_6_7, ne_6_8, ne_7_0, ne_7_1, ne_7_2, ne_7_3, ne_7_4, ne_7_5, ne_7_6, ne_7_8, ne_8_0, ne_8_1, ne_8_2, ne_8_3, ne_8_4, ne_8_5, ne_8_6, ne_8_7, ck_u, nle, cs_isDigit, b2i_0]
  by_cases h1 : 97 ≤ v <;> by_cases h2 : v ≤ 122 <;> cases h3 : isDg v <;> by_cases h4 : v = 46 <;> by_cases h5 : v = 45 <;> simp [h1, h2, h3, h4, h5, isNm, b2i, ck_u]
theorem ct_copy {t o to fr : Nat} {lo : List Int32} (hst : TxS rf t) (hso : TxS rf o) (hd1 : o ≠ t) (hd2 : o ≠ t + 1) (hd3 : o + 1 ≠ t) (hc : ∀ v ∈ lo, isC v) (hto : to ≤ lo.length) (hfr : fr ≤ to) (ho : TxC it o lo) : ∃ it9, mm_run md 9000 (d + 2) 63 [.ref t, .ref o, .int (Int32.ofNat fr), .int (Int32.ofNat to)] (mk rf it lg cc ss) = some (.inl none, mk rf it9 lg cc ss) ∧ TxC it9 t ((lo.drop fr).take (to - fr)) ∧ ∀ a, a ≠ t → a ≠ t + 1 → it9 a = it a := by
  have hb : lo.length ≤ 15 := ho.1
  obtain ⟨it9, r1, r2, r3⟩ := cp_loop (d := d) (lg := lg) (cc := cc) (ss := ss) (z2 := Int32.ofNat fr) hst hso hd1 hd2 hd3 hc (show to < 2 ^ 31 by omega) (to - fr) fr 8994 [] (mm_u2 it t 1 0) (by omega) (by omega) (by simp; omega) tx_clear ⟨ho.1, by rw [u2_row hd1]; exact ho.2.1, by rw [u2_row hd3]; exact ho.2.2⟩
  refine ⟨it9, ?_, by simpa using r2, fun a q1 q2 => (r3 a q1 q2).trans (u2_row q1)⟩
  have e1 : (if Int32.ofNat fr < 0 then 0 else Int32.ofNat fr) = Int32.ofNat fr := if_neg (i_lt0 (by omega))
  rw [en_X9_copy]
  simp only [sg_X9_copy_0, sg_X9_copy_4, mk_sh, mk_rf, mk_it, mk_lg, mk_cc, mk_ss, mk_si, mk_sl, mk_th, mq_u_s, ↓mq_b_d, mq_r_s, mq_a_s, mq_l_s, ck_mk, ck_ite, if_true, if_false, ite_true, ite_false, Nat.le_refl, and_self, and_true, true_and, or_true, true_or, or_false, false_or, eq_self, ck_none, Nat.reduceAdd, Nat.reduceLT, Nat.reduceLeDiff, Nat.reduceEqDiff, Nat.reduceSub, Nat.reduceMul, Int32.reduceLT, Int32.reduceLE, Int32.reduceOfNat, Int32.reduceToNatClampNeg, not_true_eq_false, not_false_eq_true, Nat.add_zero, cl_eq, clr_n, clr_v, clr_x, clr_ite, cr_eq, crr_n, crr_v, crr_ite, List.length_cons, List.length_nil, ct_0, ne_0_1, ne_0_2, ne_0_3, ne_0_4, ne_0_5, ne_0_6, ne_0_7, ne_0_8, ne_1_0, ne_1_2, ne_1_3, ne_1_4, ne_1_5, ne_1_6, ne_1_7, ne_1_8, ne_2_0, ne_2_1, ne_2_3, ne_2_4, ne_2_5, ne_2_6, ne_2_7, ne_2_8, ne_3_0, ne_3_1, ne_3_2, ne_3_4, ne_3_5, ne_3_6, ne_3_7, ne_3_8, ne_4_0, ne_4_1, ne_4_2, ne_4_3, ne_4_5, ne_4_6, ne_4_7, ne_4_8, ne_5_0, ne_5_1, ne_5_2, ne_5_3, ne_5_4, ne_5_6, ne_5_7, ne_5_8, ne_6_0, ne_6_1, ne_6_2, ne_6_3, ne_6_4, ne_6_5, ne_6_7, ne_6_8, ne_7_0, ne_7_1, ne_7_2, ne_7_3, ne_7_4, ne_7_5, ne_7_6, ne_7_8, ne_8_0, ne_8_1, ne_8_2, ne_8_3, ne_8_4, ne_8_5, ne_8_6, ne_8_7, hst.1, ct_clear hst, e1, r1]
theorem fd_loop {t : Nat} {l : List Int32} {F : mm_F} (hst : TxS rf t) (ht : TxC it t l) : ∀ (k i m : Nat), i + k = l.length → 40 * k + 40 ≤ m → mm_lp tb_X9_firstDot F m 2 [(1, .int (Int32.ofNat i)), (0, .ref t)] [] (mk rf it lg cc ss) = some (.inl (some (.int (match (l.drop i).findIdx? (fun v => decide (v = 46)) with | some j => Int32.ofNat (i + j) | none => -1))), mk rf it lg cc ss) := by
  have hb : l.length ≤ 15 := ht.1
  intro k
  induction k with
  | zero =>
    intro i m hi hm
    obtain ⟨m, rfl⟩ : ∃ m9, m = m9 + 12 := ⟨m - 12, by omega⟩
    have b1 : i < 2 ^ 31 := by omega
    rw [List.drop_of_length_le (by omega)]
    simp only [sg_X9_firstDot_0, sg_X9_firstDot_2, mk_sh, mk_rf, mk_it, mk_lg, mk_cc, mk_ss, mk_si, mk_sl, mk_th, mq_u_s, ↓mq_b_d, mq_r_s, mq_a_s, mq_l_s, ck_mk, ck_ite, if_true, if_false, ite_true, ite_false, Nat.le_refl, and_self, and_true, true_and, or_true, true_or, or_false, false_or, eq_self, ck_none, Nat.reduceAdd, Nat.reduceLT, Nat.reduceLeDiff, Nat.reduceEqDiff, Nat.reduceSub, Nat.reduceMul, Int32.reduceLT, Int32.reduceLE, Int32.reduceOfNat, Int32.reduceToNatClampNeg, not_true_eq_false, not_false_eq_true, Nat.add_zero, cl_eq, clr_n, clr_v, clr_x, clr_ite, cr_eq, crr_n, crr_v, crr_ite, List.length_cons, List.length_nil, ct_0, ne_0_1, ne_0_2, ne_0_3, ne_0_4, ne_0_5, ne_0_6, ne_0_7, ne_0_8, ne_1_0, ne_1_2, ne_1_3, ne_1_4, ne_1_5, ne_1_6, ne_1_7, ne_1_8, ne_2_0, ne_2_1, ne_2_3, ne_2_4, ne_2_5, ne_2_6, ne_2_7, ne_2_8, ne_3_0, ne_3_1, ne_3_2, ne_3_4, ne_3_5, ne_3_6, ne_3_7, ne_3_8, ne_4_0, ne_4_1, ne_4_2, ne_4_3, ne_4_5, ne_4_6, ne_4_7, ne_4_8, ne_5_0, ne_5_1, ne_5_2, ne_5_3, ne_5_4, ne_5_6, ne_5_7, ne_5_8, ne_6_0, ne_6_1, ne_6_2, ne_6_3, ne_6_4, ne_6_5, ne_6_7, ne_6_8, ne_7_0, ne_7_1, ne_7_2, ne_7_3, ne_7_4, ne_7_5, ne_7_6, ne_7_8, ne_8_0, ne_8_1, ne_8_2, ne_8_3, ne_8_4, ne_8_5, ne_8_6, ne_8_7, hst.1, ht.2.1, Int32.ofNat_le_iff_le (show l.length < 2 ^ 31 by omega) b1, show l.length ≤ i by omega, List.findIdx?_nil]
  | succ k ih =>
    intro i m hi hm
    obtain ⟨m, rfl⟩ : ∃ m9, m = m9 + 12 := ⟨m - 12, by omega⟩
    have b1 : i < 2 ^ 31 := by omega
    have e1 : it (t + 1) i = l.getD i 0 := ht.2.2 i (by omega)
    have e2 : l.drop i = l.getD i 0 :: l.drop (i + 1) := by
      rw [List.drop_eq_getElem_cons (by omega : i < l.length), gd_get (by omega)]
    have ih9 := ih (i + 1) m (by omega) (by omega)
    rw [sg_X9_firstDot_2, e2, List.findIdx?_cons]
    simp only [mk_sh, mk_rf, mk_it, mk_lg, mk_cc, mk_ss, mk_si, mk_sl, mk_th, mq_u_s, ↓mq_b_d, mq_r_s, mq_a_s, mq_l_s, ck_mk, ck_ite, if_true, if_false, ite_true, ite_false, Nat.le_refl, and_self, and_true, true_and, or_true, true_or, or_false, false_or, eq_self, ck_none, Nat.reduceAdd, Nat.reduceLT, Nat.reduceLeDiff, Nat.reduceEqDiff, Nat.reduceSub, Nat.reduceMul, Int32.reduceLT, Int32.reduceLE, Int32.reduceOfNat, Int32.reduceToNatClampNeg, not_true_eq_false, not_false_eq_true, Nat.add_zero, cl_eq, clr_n, clr_v, clr_x, clr_ite, cr_eq, crr_n, crr_v, crr_ite, List.length_cons, List.length_nil, ct_0, ne_0_1, ne_0_2, ne_0_3, ne_0_4, ne_0_5, ne_0_6, ne_0_7, ne_0_8, ne_1_0, ne_1_2, ne_1_3, ne_1_4, ne_1_5, ne_1_6, ne_1_7, ne_1_8, ne_2_0, ne_2_1, ne_2_3, ne_2_4, ne_2_5, ne_2_6, ne_2_7, ne_2_8, ne_3_0, ne_3_1, ne_3_2, ne_3_4, ne_3_5, ne_3_6, ne_3_7, ne_3_8, ne_4_0, ne_4_1, ne_4_2, ne_4_3, ne_4_5, ne_4_6, ne_4_7, ne_4_8, ne_5_0, ne_5_1, ne_5_2, ne_5_3, ne_5_4, ne_5_6, ne_5_7, ne_5_8, ne_6_0, ne_6_1, ne_6_2, ne_6_3, ne_6_4, ne_6_5, ne_6_7, ne_6_8, ne_7_0, ne_7_1, ne_7_2, ne_7_3, ne_7_4, ne_7_5, ne_7_6, ne_7_8, ne_8_0, ne_8_1, ne_8_2, ne_8_3, ne_8_4, ne_8_5, ne_8_6, ne_8_7, hst.1, hst.2.1, hst.2.2, ht.2.1, Int32.ofNat_le_iff_le (show l.length < 2 ^ 31 by omega) b1, show ¬ l.length ≤ i by omega, in_of b1, i_tn b1, show i < 15 by omega, e1, i_suc]
    by_cases h : l.getD i 0 = 46
    · rw [if_neg (fun q => q h)]
      simp only [h, decide_true, if_true, Nat.add_zero]
    · rw [if_pos h, ih9]
      simp only [h, decide_false]
      cases (l.drop (i + 1)).findIdx? (fun v => decide (v = 46)) with
      | none => rfl
      | some j => simp only [Option.map_some]; congr 6; omega
def fdot (l : List Int32) : Int32 := match l.findIdx? (fun v => decide (v = 46)) with
  | some j => Int32.ofNat j
  | none => -1
theorem ct_firstDot {t : Nat} {l : List Int32} (hst : TxS rf t) (ht : TxC it t l) : mm_run md 9000 (d + 1) 64 [.ref t] (mk rf it lg cc ss) = some (.inl (some (.int (fdot l))), mk rf it lg cc ss) := by
  have hb : l.length ≤ 15 := ht.1
  have h := fd_loop (F := (d, mm_run md 9000 d)) (lg := lg) (cc := cc) (ss := ss) hst ht l.length 0 8998 (by omega) (by omega)
  rw [en_X9_firstDot]
  have h0 : Int32.ofNat 0 = 0 := rfl
  rw [h0] at h
  simp only [sg_X9_firstDot_0, mk_sh, mk_rf, mk_it, mk_lg, mk_cc, mk_ss, mk_si, mk_sl, mk_th, mq_u_s, ↓mq_b_d, mq_r_s, mq_a_s, mq_l_s, ck_mk, ck_ite, if_true, if_false, ite_true, ite_false, Nat.le_refl, and_self, and_true, true_and, or_true, true_or, or_false, false_or, eq_self, ck_none, Nat.reduceAdd, Nat.reduceLT, Nat.reduceLeDiff, Nat.reduceEqDiff, Nat.reduceSub, Nat.reduceMul, Int32.reduceLT, Int32.reduceLE, Int32.reduceOfNat, Int32.reduceToNatClampNeg, not_true_eq_false, not_false_eq_true, Nat.add_zero, cl_eq, clr_n, clr_v, clr_x, clr_ite, cr_eq, crr_n, crr_v, crr_ite, List.length_cons, List.length_nil, ct_0, ne_0_1, ne_0_2, ne_0_3, ne_0_4, ne_0_5, ne_0_6, ne_0_7, ne_0_8, ne_1_0, ne_1_2, ne_1_3, ne_1_4, ne_1_5, ne_1_6, ne_1_7, ne_1_8, ne_2_0, ne_2_1, ne_2_3, ne_2_4, ne_2_5, ne_2_6, ne_2_7, ne_2_8, ne_3_0, ne_3_1, ne_3_2, ne_3_4, ne_3_5, ne_3_6, ne_3_7, ne_3_8, ne_4_0, ne_4_1, ne_4_2, ne_4_3, ne_4_5, ne_4_6, ne_4_7, ne_4_8, ne_5_0, ne_5_1, ne_5_2, ne_5_3, ne_5_4, ne_5_6, ne_5_7, ne_5_8, ne_6_0, ne_6_1, ne_6_2, ne_6_3, ne_6_4, ne_6_5, ne_6_7, ne_6_8, ne_7_0, ne_7_1, ne_7_2, ne_7_3, ne_7_4, ne_7_5, ne_7_6, ne_7_8, ne_8_0, ne_8_1, ne_8_2, ne_8_3, ne_8_4, ne_8_5, ne_8_6, ne_8_7, h, fdot, Nat.zero_add, List.drop_zero]
end PU2
