section PU3
variable {rf : Nat → Nat → Option Nat} {it : Nat → Nat → Int32} {lg : Nat → Nat → Int64} {cc ss d : Nat}
theorem hn_loop {t : Nat} {l : List Int32} (hst : TxS rf t) (ht : TxC it t l) : ∀ (k i m : Nat), i + k = l.length → 40 * k + 40 ≤ m → mm_lp tb_X9_hasOnlyNameParts (d + 2, mm_run md 9000 (d + 2)) m 2 [(1, .int (Int32.ofNat i)), (0, .ref t)] [] (mk rf it lg cc ss) = some (.inl (some (.int (b2i ((l.drop i).all isNm)))), mk rf it lg cc ss) := by
  have hb : l.length ≤ 15 := ht.1
  intro k
  induction k with
  | zero =>
    intro i m hi hm
    obtain ⟨m, rfl⟩ : ∃ m9, m = m9 + 9 := ⟨m - 9, by omega⟩
    have b1 : i < 2 ^ 31 := by omega
    rw [List.drop_of_length_le (by omega)]
    simp only [sg_X9_hasOnlyNameParts_0, sg_X9_hasOnlyNameParts_2, sg_X9_hasOnlyNameParts_19, mk_sh, mk_rf, mk_it, mk_lg, mk_cc, mk_ss, mk_si, mk_sl, mk_th, mq_u_s, ↓mq_b_d, mq_r_s, mq_a_s, mq_l_s, ck_mk, ck_ite, if_true, if_false, ite_true, ite_false, Nat.le_refl, and_self, and_true, true_and, or_true, true_or, or_false, false_or, eq_self, ck_none, Nat.reduceAdd, Nat.reduceLT, Nat.reduceLeDiff, Nat.reduceEqDiff, Nat.reduceSub, Nat.reduceMul, Int32.reduceLT, Int32.reduceLE, Int32.reduceOfNat, Int32.reduceToNatClampNeg, not_true_eq_false, not_false_eq_true, Nat.add_zero, cl_eq, clr_n, clr_v, clr_x, clr_ite, cr_eq, crr_n, crr_v, crr_ite, List.length_cons, List.length_nil, ct_0, ne_0_1, ne_0_2, ne_0_3, ne_0_4, ne_0_5, ne_0_6, ne_0_7, ne_0_8, ne_1_0, ne_1_2, ne_1_3, ne_1_4, ne_1_5, ne_1_6, ne_1_7, ne_1_8, ne_2_0, ne_2_1, ne_2_3, ne_2_4, ne_2_5, ne_2_6, ne_2_7, ne_2_8, ne_3_0, ne_3_1, ne_3_2, ne_3_4, ne_3_5, ne_3_6, ne_3_7, ne_3_8, ne_4_0, ne_4_1, ne_4_2, ne_4_3, ne_4_5, ne_4_6, ne_4_7, ne_4_8, ne_5_0, ne_5_1, ne_5_2, ne_5_3, ne_5_4, ne_5_6, ne_5_7, ne_5_8, ne_6_0, ne_6_1, ne_6_2, ne_6_3, ne_6_4, ne_6_5, ne_6_7, ne_6_8, ne_7_0, ne_7_1, ne_7_2, ne_7_3, ne_7_4, ne_7_5, ne_7_6, ne_7_8, ne_8_0, ne_8_1, ne_8_2, ne_8_3, ne_8_4, ne_8_5, ne_8_6, ne_8_7, hst.1, ht.2.1, Int32.ofNat_le_iff_le (show l.length < 2 ^ 31 by omega) b1, show l.length ≤ i by omega, List.all_nil, b2i]
  | succ k ih =>
    intro i m hi hm
    obtain ⟨m, rfl⟩ : ∃ m9, m = m9 + 12 := ⟨m - 12, by omega⟩
    have b1 : i < 2 ^ 31 := by omega
    have e1 : it (t + 1) i = l.getD i 0 := ht.2.2 i (by omega)
    have e2 : l.drop i = l.getD i 0 :: l.drop (i + 1) := by
      rw [List.drop_eq_getElem_cons (by omega : i < l.length), gd_get (by omega)]
    have ih9 := ih (i + 1) m (by omega) (by omega)
    rw [sg_X9_hasOnlyNameParts_2 (m := m + 3), e2, List.all_cons]
    simp only [sg_X9_hasOnlyNameParts_19, mk_sh, mk_rf, mk_it, mk_lg, mk_cc, mk_ss, mk_si, mk_sl, mk_th, mq_u_s, ↓mq_b_d, mq_r_s, mq_a_s, mq_l_s, ck_mk, ck_ite, if_true, if_false, ite_true, ite_false, Nat.le_refl, and_self, and_true, true_and, or_true, true_or, or_false, false_or, eq_self, ck_none, Nat.reduceAdd, Nat.reduceLT, Nat.reduceLeDiff, Nat.reduceEqDiff, Nat.reduceSub, Nat.reduceMul, Int32.reduceLT, Int32.reduceLE, Int32.reduceOfNat, Int32.reduceToNatClampNeg, not_true_eq_false, not_false_eq_true, Nat.add_zero, cl_eq, clr_n, clr_v, clr_x, clr_ite, cr_eq, crr_n, crr_v, crr_ite, List.length_cons, List.length_nil, ct_0, ne_0_1, ne_0_2, ne_0_3, ne_0_4, ne_0_5, ne_0_6, ne_0_7, ne_0_8, ne_1_0, ne_1_2, ne_1_3, ne_1_4, ne_1_5, ne_1_6, ne_1_7, ne_1_8, ne_2_0, ne_2_1, ne_2_3, ne_2_4, ne_2_5, ne_2_6, ne_2_7, ne_2_8, ne_3_0, ne_3_1, ne_3_2, ne_3_4, ne_3_5, ne_3_6, ne_3_7, ne_3_8, ne_4_0, ne_4_1, ne_4_2, ne_4_3, ne_4_5, ne_4_6, ne_4_7, ne_4_8, ne_5_0, ne_5_1, ne_5_2, ne_5_3, ne_5_4, ne_5_6, ne_5_7, ne_5_8, ne_6_0, ne_6_1, ne_6_2, ne_6_3, ne_6_4, ne_6_5, ne_6_7, ne_6_8, ne_7_0, ne_7_1, ne_7_2, ne_7_3, ne_7_4, ne_7_5, ne_7_6, ne_7_8, ne_8_0, ne_8_1, ne_8_2, ne_8_3, ne_8_4, ne_8_5, ne_8_6, ne_8_7, hst.1, hst.2.1, hst.2.2, ht.2.1, Int32.ofNat_le_iff_le (show l.length < 2 ^ 31 by omega) b1, show ¬ l.length ≤ i by omega, in_of b1, i_tn b1, show i < 15 by omega, e1, i_suc, cs_isNm, b2i_0, ih9]
    cases h : isNm (l.getD i 0) <;> simp [b2i]
theorem ct_hasOnly {t : Nat} {l : List Int32} (hst : TxS rf t) (ht : TxC it t l) : mm_run md 9000 (d + 3) 67 [.ref t] (mk rf it lg cc ss) = some (.inl (some (.int (b2i (l.all isNm)))), mk rf it lg cc ss) := by
  have hb : l.length ≤ 15 := ht.1
  have h := hn_loop (d := d) (lg := lg) (cc := cc) (ss := ss) hst ht l.length 0 8998 (by omega) (by omega)
  rw [en_X9_hasOnlyNameParts]
  have h0 : Int32.ofNat 0 = 0 := rfl
  rw [h0] at h
  simp only [sg_X9_hasOnlyNameParts_0, mk_sh, mk_rf, mk_it, mk_lg, mk_cc, mk_ss, mk_si, mk_sl, mk_th, mq_u_s, ↓mq_b_d, mq_r_s, mq_a_s, mq_l_s, ck_mk, ck_ite, if_true, if_false, ite_true, ite_false, Nat.le_refl, and_self, and_true, true_and, or_true, true_or, or_false, false_or, eq_self, ck_none, Nat.reduceAdd, Nat.reduceLT, Nat.reduceLeDiff, Nat.reduceEqDiff, Nat.reduceSub, Nat.reduceMul, Int32.reduceLT, Int32.reduceLE, Int32.reduceOfNat, Int32.reduceToNatClampNeg, not_true_eq_false, not_false_eq_true, Nat.add_zero, cl_eq, clr_n, clr_v, clr_x, clr_ite, cr_eq, crr_n, crr_v, crr_ite, List.length_cons, List.length_nil, ct_0, ne_0_1, ne_0_2, ne_0_3, ne_0_4, ne_0_5, ne_0_6, ne_0_7, ne_0_8, ne_1_0, ne_1_2, ne_1_3, ne_1_4, ne_1_5, ne_1_6, ne_1_7, ne_1_8, ne_2_0, ne_2_1, ne_2_3, ne_2_4, ne_2_5, ne_2_6, ne_2_7, ne_2_8, ne_3_0, ne_3_1, ne_3_2, ne_3_4, ne_3_5, ne_3_6, ne_3_7, ne_3_8, ne_4_0, ne_4_1, ne_4_2, ne_4_3, ne_4_5, ne_4_6, ne_4_7, ne_4_8, ne_5_0, ne_5_1, ne_5_2, ne_5_3, ne_5_4, ne_5_6, ne_5_7, ne_5_8, ne_6_0, ne_6_1, ne_6_2, ne_6_3, ne_6_4, ne_6_5, ne_6_7, ne_6_8, ne_7_0, ne_7_1, ne_7_2, ne_7_3, ne_7_4, ne_7_5, ne_7_6, ne_7_8, ne_8_0, ne_8_1, ne_8_2, ne_8_3, ne_8_4, ne_8_5, ne_8_6, ne_8_7, h, List.drop_zero]
def es (f g : Nat → Int32) : Nat → Nat → Bool
  | 0, _ => true
  | k + 1, i => decide (f i = g i) && es f g k (i + 1)
theorem es_iff {f g : Nat → Int32} : ∀ (k i : Nat), es f g k i = true ↔ ∀ j, i ≤ j → j < i + k → f j = g j := by
  intro k
  induction k with
  | zero => intro i; simp only [es, true_iff]; intro j h1 h2; omega
  | succ k ih =>
    intro i
    simp only [es, Bool.and_eq_true, decide_eq_true_eq, ih]
    refine ⟨fun ⟨h1, h2⟩ j h3 h4 => ?_, fun h => ⟨h i (Nat.le_refl _) (by omega), fun j h3 h4 => h j (by omega) (by omega)⟩⟩
    by_cases e : j = i
    · rw [e]; exact h1
    · exact h2 j (by omega) (by omega)
def ends (l r : List Int32) : Bool := decide (r.length ≤ l.length) && (es (fun j => l.getD (l.length - r.length + j) 0) (fun j => r.getD j 0) r.length 0 && (decide (l.length = r.length) || decide (l.getD (l.length - r.length - 1) 0 = 46)))
theorem en_loop {t o : Nat} {l r : List Int32} {F : mm_F} (hst : TxS rf t) (hso : TxS rf o) (ht : TxC it t l) (ho : TxC it o r) (hle : r.length ≤ l.length) : ∀ (k i m : Nat), i + k = r.length → 40 * k + 40 ≤ m → mm_lp tb_X9_isOrEndsByDotAnd F m 18 [(3, .int (Int32.ofNat i)), (2, .int (Int32.ofNat (l.length - r.length))), (0, .ref t), (1, .ref o)] [] (mk rf it lg cc ss) = some (.inl (some (.int (b2i (es (fun j => l.getD (l.length - r.length + j) 0) (fun j => r.getD j 0) k i && (decide (l.length = r.length) || decide (l.getD (l.length - r.length - 1) 0 = 46)))))), mk rf it lg cc ss) := by
  have hb : l.length ≤ 15 := ht.1
  intro k
  induction k with
  | zero =>
    intro i m hi hm
    obtain ⟨m, rfl⟩ : ∃ m9, m = m9 + 17 := ⟨m - 17, by omega⟩
    have b1 : i < 2 ^ 31 := by omega
    rw [sg_X9_isOrEndsByDotAnd_18]
    simp only [mk_sh, mk_rf, mk_it, mk_lg, mk_cc, mk_ss, mk_si, mk_sl, mk_th, mq_u_s, ↓mq_b_d, mq_r_s, mq_a_s, mq_l_s, ck_mk, ck_ite, if_true, if_false, ite_true, ite_false, Nat.le_refl, and_self, and_true, true_and, or_true, true_or, or_false, false_or, eq_self, ck_none, Nat.reduceAdd, Nat.reduceLT, Nat.reduceLeDiff, Nat.reduceEqDiff, Nat.reduceSub, Nat.reduceMul, Int32.reduceLT, Int32.reduceLE, Int32.reduceOfNat, Int32.reduceToNatClampNeg, not_true_eq_false, not_false_eq_true, Nat.add_zero, cl_eq, clr_n, clr_v, clr_x, clr_ite, cr_eq, crr_n, crr_v, crr_ite, List.length_cons, List.length_nil, ct_0, ne_0_1, ne_0_2, ne_0_3, ne_0_4, ne_0_5, ne_0_6, ne_0_7, ne_0_8, ne_1_0, ne_1_2, ne_1_3, ne_1_4, ne_1_5, ne_1_6, ne_1_7, ne_1_8, ne_2_0, ne_2_1, ne_2_3, ne_2_4, ne_2_5, ne_2_6, ne_2_7, ne_2_8, ne_3_0, ne_3_1, ne_3_2, ne_3_4, ne_3_5, ne_3_6, ne_3_7, ne_3_8, ne_4_0, ne_4_1, ne_4_2, ne_4_3, ne_4_5, ne_4_6, ne_4_7, ne_4_8, ne_5_0, ne_5_1, ne_5_2, ne_5_3, ne_5_4, ne_5_6, ne_5_7, ne_5_8, ne_6_0, ne_6_1, ne_6_2, ne_6_3, ne_6_4, ne_6_5, ne_6_7, ne_6_8, ne_7_0, ne_7_1, ne_7_2, ne_7_3, ne_7_4, ne_7_5, ne_7_6, ne_7_8, ne_8_0, ne_8_1, ne_8_2, ne_8_3, ne_8_4, ne_8_5, ne_8_6, ne_8_7, hst.1, hst.2.1, hst.2.2, hso.1, ho.2.1, Int32.ofNat_le_iff_le (show r.length < 2 ^ 31 by omega) b1, show r.length ≤ i by omega, es, i_eq (show l.length - r.length < 2 ^ 31 by omega) (show 0 < 2 ^ 31 by decide), Bool.true_and]
    by_cases h : l.length - r.length = 0
    · rw [if_pos h]
      simp [b2i, show l.length = r.length by omega]
    · have e1 : Int32.ofNat (l.length - r.length) - 1 = Int32.ofNat (l.length - r.length - 1) := (Int32.ofNat_sub _ 1 (by omega)).symm
      rw [if_neg h, e1]
      simp only [in_of (show l.length - r.length - 1 < 2 ^ 31 by omega), i_tn (show l.length - r.length - 1 < 2 ^ 31 by omega), show l.length - r.length - 1 < 15 by omega, ht.2.2 (l.length - r.length - 1) (by omega), if_true]
      by_cases h9 : l.getD (l.length - r.length - 1) 0 = 46
      · rw [if_neg (fun q => q h9)]
        simp only [h9, decide_true, Bool.or_true, b2i, if_true]
      · rw [if_pos h9]
        simp only [h9, decide_false, Bool.or_false, b2i, show ¬ l.length = r.length by omega]
        simp
  | succ k ih =>
    intro i m hi hm
    obtain ⟨m, rfl⟩ : ∃ m9, m = m9 + 17 := ⟨m - 17, by omega⟩
    have b1 : i < 2 ^ 31 := by omega
    have e1 : it (o + 1) i = r.getD i 0 := ho.2.2 i (by omega)
    have e2 : it (t + 1) (l.length - r.length + i) = l.getD (l.length - r.length + i) 0 := ht.2.2 _ (by omega)
    have ih9 := ih (i + 1) m (by omega) (by omega)
    have e3 : Int32.ofNat (l.length - r.length) + Int32.ofNat i = Int32.ofNat (l.length - r.length + i) := (Int32.ofNat_add _ _).symm
    rw [sg_X9_isOrEndsByDotAnd_18]
    simp only [mk_sh, mk_rf, mk_it, mk_lg, mk_cc, mk_ss, mk_si, mk_sl, mk_th, mq_u_s, ↓mq_b_d, mq_r_s, mq_a_s, mq_l_s, ck_mk, ck_ite, if_true, if_false, ite_true, ite_false, Nat.le_refl, and_self, and_true, true_and, or_true, true_or, or_false, false_or, eq_self, ck_none, Nat.reduceAdd, Nat.reduceLT, Nat.reduceLeDiff, Nat.reduceEqDiff, Nat.reduceSub, Nat.reduceMul, Int32.reduceLT, Int32.reduceLE, Int32.reduceOfNat, Int32.reduceToNatClampNeg, not_true_eq_false, not_false_eq_true, Nat.add_zero, cl_eq, clr_n, clr_v, clr_x, clr_ite, cr_eq, crr_n, crr_v, crr_ite, List.length_cons, List.length_nil, ct_0, ne_0_1, ne_0_2, ne_0_3, ne_0_4, ne_0_5, ne_0_6, ne_0_7, ne_0_8, ne_1_0, ne_1_2, ne_1_3, ne_1_4, ne_1_5, ne_1_6, ne_1_7, ne_1_8, ne_2_0, ne_2_1, ne_2_3, ne_2_4, ne_2_5, ne_2_6, ne_2_7, ne_2_8, ne_3_0, ne_3_1, ne_3_2, ne_3_4, ne_3_5, ne_3_6, ne_3_7, ne_3_8, ne_4_0, ne_4_1, ne_4_2, ne_4_3, ne_4_5, ne_4_6, ne_4_7, ne_4_8, ne_5_0, ne_5_1, ne_5_2, ne_5_3, ne_5_4, ne_5_6, ne_5_7, ne_5_8, ne_6_0, ne_6_1, ne_6_2, ne_6_3, ne_6_4, ne_6_5, ne_6_7, ne_6_8, ne_7_0, ne_7_1, ne_7_2, ne_7_3, ne_7_4, ne_7_5, ne_7_6, ne_7_8, ne_8_0, ne_8_1, ne_8_2, ne_8_3, ne_8_4, ne_8_5, ne_8_6, ne_8_7, hst.1, hst.2.1, hst.2.2, hso.1, hso.2.1, hso.2.2, ho.2.1, Int32.ofNat_le_iff_le (show r.length < 2 ^ 31 by omega) b1, show ¬ r.length ≤ i by omega, e3, in_of b1, i_tn b1, show i < 15 by omega, in_of (show l.length - r.length + i < 2 ^ 31 by omega), i_tn (show l.length - r.length + i < 2 ^ 31 by omega), show l.length - r.length + i < 15 by omega, e1, e2, i_suc, ih9, es]
    by_cases h : l.getD (l.length - r.length + i) 0 = r.getD i 0
    · rw [if_pos h]
      simp only [h, decide_true, Bool.true_and]
    · rw [if_neg h]
      simp only [h, decide_false, Bool.false_and, b2i]
      simp
theorem ct_ends {t o : Nat} {l r : List Int32} (hst : TxS rf t) (hso : TxS rf o) (ht : TxC it t l) (ho : TxC it o r) : mm_run md 9000 (d + 1) 66 [.ref t, .ref o] (mk rf it lg cc ss) = some (.inl (some (.int (b2i (ends l r)))), mk rf it lg cc ss) := by
  have hb : l.length ≤ 15 := ht.1
  have hb2 : r.length ≤ 15 := ho.1
  rw [en_X9_isOrEndsByDotAnd]
  by_cases hle : r.length ≤ l.length
  · have h := en_loop (F := (d, mm_run md 9000 d)) (lg := lg) (cc := cc) (ss := ss) hst hso ht ho hle r.length 0 8990 (by omega) (by omega)
    have h0 : Int32.ofNat 0 = 0 := rfl
    rw [h0] at h
    have e1 : Int32.ofNat l.length - Int32.ofNat r.length = Int32.ofNat (l.length - r.length) := (Int32.ofNat_sub _ _ hle).symm
    simp only [sg_X9_isOrEndsByDotAnd_0, mk_sh, mk_rf, mk_it, mk_lg, mk_cc, mk_ss, mk_si, mk_sl, mk_th, mq_u_s, ↓mq_b_d, mq_r_s, mq_a_s, mq_l_s, ck_mk, ck_ite, if_true, if_false, ite_true, ite_false, Nat.le_refl, and_self, and_true, true_and, or_true, true_or, or_false, false_or, eq_self, ck_none, Nat.reduceAdd, Nat.reduceLT, Nat.reduceLeDiff, Nat.reduceEqDiff, Nat.reduceSub, Nat.reduceMul, Int32.reduceLT, Int32.reduceLE, Int32.reduceOfNat, Int32.reduceToNatClampNeg, not_true_eq_false, not_false_eq_true, Nat.add_zero, cl_eq, clr_n, clr_v, clr_x, clr_ite, cr_eq, crr_n, crr_v, crr_ite, List.length_cons, List.length_nil, ct_0, ne_0_1, ne_0_2, ne_0_3, ne_0_4, ne_0_5, ne_0_6, ne_0_7, ne_0_8, ne_1_0, ne_1_2, ne_1_3, ne_1_4, ne_1_5, ne_1_6, ne_1_7, ne_1_8, ne_2_0, ne_2_1, ne_2_3, ne_2_4, ne_2_5, ne_2_6, ne_2_7, ne_2_8, ne_3_0, ne_3_1, ne_3_2, ne_3_4, ne_3_5, ne_3_6, ne_3_7, ne_3_8, ne_4_0, ne_4_1, ne_4_2, ne_4_3, ne_4_5, ne_4_6, ne_4_7, ne_4_8, ne_5_0, ne_5_1, ne_5_2, ne_5_3, ne_5_4, ne_5_6, ne_5_7, ne_5_8, ne_6_0, ne_6_1, ne_6_2, ne_6_3, ne_6_4, ne_6_5, ne_6_7, ne_6_8, ne_7_0, ne_7_1, ne_7_2, ne_7_3, ne_7_4, ne_7_5, ne_7_6, ne_7_8, ne_8_0, ne_8_1, ne_8_2, ne_8_3, ne_8_4, ne_8_5, ne_8_6, ne_8_7, hst.1, hso.1, ht.2.1, ho.2.1, e1, i_le' (show l.length - r.length < 2 ^ 31 by omega) (show 0 < 2 ^ 31 by decide), Nat.zero_le, h, ends, hle, decide_true, Bool.true_and]
  · have e1 : ¬ (0 : Int32) ≤ Int32.ofNat l.length - Int32.ofNat r.length := by
      have e2 : Int32.ofNat l.length - Int32.ofNat r.length = Int32.ofInt ((l.length : Int) - r.length) := by
        rw [Int32.ofInt_sub, Int32.ofInt_eq_ofNat, Int32.ofInt_eq_ofNat]
      rw [e2, Int32.le_iff_toInt_le, Int32.toInt_ofInt_of_le (by omega) (by omega)]
      simp only [Int32.toInt_zero]
      omega
    simp only [sg_X9_isOrEndsByDotAnd_0, mk_sh, mk_rf, mk_it, mk_lg, mk_cc, mk_ss, mk_si, mk_sl, mk_th, mq_u_s, ↓mq_b_d, mq_r_s, mq_a_s, mq_l_s, ck_mk, ck_ite, if_true, if_false, ite_true, ite_false, Nat.le_refl, and_self, and_true, true_and, or_true, true_or, or_false, false_or, eq_self, ck_none, Nat.reduceAdd, Nat.reduceLT, Nat.reduceLeDiff, Nat.reduceEqDiff, Nat.reduceSub, Nat.reduceMul, Int32.reduceLT, Int32.reduceLE, Int32.reduceOfNat, Int32.reduceToNatClampNeg, not_true_eq_false, not_false_eq_true, Nat.add_zero, cl_eq, clr_n, clr_v, clr_x, clr_ite, cr_eq, crr_n, crr_v, crr_ite, List.length_cons, List.length_nil, ct_0, ne_0_1, ne_0_2, ne_0_3, ne_0_4, ne_0_5, ne_0_6, ne_0_7, ne_0_8, ne_1_0, ne_1_2, ne_1_3, ne_1_4, ne_1_5, ne_1_6, ne_1_7, ne_1_8, ne_2_0, ne_2_1, ne_2_3, ne_2_4, ne_2_5, ne_2_6, ne_2_7, ne_2_8, ne_3_0, ne_3_1, ne_3_2, ne_3_4, ne_3_5, ne_3_6, ne_3_7, ne_3_8, ne_4_0, ne_4_1, ne_4_2, ne_4_3, ne_4_5, ne_4_6, ne_4_7, ne_4_8, ne_5_0, ne_5_1, ne_5_2, ne_5_3, ne_5_4, ne_5_6, ne_5_7, ne_5_8, ne_6_0, ne_6_1, ne_6_2, ne_6_3, ne_6_4, ne_6_5, ne_6_7, ne_6_8, ne_7_0, ne_7_1, ne_7_2, ne_7_3, ne_7_4, ne_7_5, ne_7_6, ne_7_8, ne_8_0, ne_8_1, ne_8_2, ne_8_3, ne_8_4, ne_8_5, ne_8_6, ne_8_7, hst.1, hso.1, ht.2.1, ho.2.1, e1, ends, hle, decide_false, Bool.false_and, b2i]
    simp
theorem ends_same {l r : List Int32} (h : l.length = r.length) : ends l r = decide (l = r) := by
  rw [Bool.eq_iff_iff, decide_eq_true_eq]
  simp only [ends, h, Nat.le_refl, decide_true, Bool.true_and, Nat.sub_self, Bool.true_or, Bool.and_true, Nat.zero_add, es_iff]
  refine ⟨fun q => ?_, fun q => by rw [q]; intros; rfl⟩
  apply List.ext_getElem h
  intro j h1 h2
  have := q j (Nat.zero_le _) h2
  rwa [gd_get h1, gd_get h2] at this
theorem ct_same {t o : Nat} {l r : List Int32} (hst : TxS rf t) (hso : TxS rf o) (ht : TxC it t l) (ho : TxC it o r) : mm_run md 9000 (d + 2) 65 [.ref t, .ref o] (mk rf it lg cc ss) = some (.inl (some (.int (b2i (decide (l = r))))), mk rf it lg cc ss) := by
  have hb : l.length ≤ 15 := ht.1
  have hb2 : r.length ≤ 15 := ho.1
  rw [en_X9_isSame]
  simp only [sg_X9_isSame_0, sg_X9_isSame_16, mk_sh, mk_rf, mk_it, mk_lg, mk_cc, mk_ss, mk_si, mk_sl, mk_th, mq_u_s, ↓mq_b_d, mq_r_s, mq_a_s, mq_l_s, ck_mk, ck_ite, if_true, if_false, ite_true, ite_false, Nat.le_refl, and_self, and_true, true_and, or_true, true_or, or_false, false_or, eq_self, ck_none, Nat.reduceAdd, Nat.reduceLT, Nat.reduceLeDiff, Nat.reduceEqDiff, Nat.reduceSub, Nat.reduceMul, Int32.reduceLT, Int32.reduceLE, Int32.reduceOfNat, Int32.reduceToNatClampNeg, not_true_eq_false, not_false_eq_true, Nat.add_zero, cl_eq, clr_n, clr_v, clr_x, clr_ite, cr_eq, crr_n, crr_v, crr_ite, List.length_cons, List.length_nil, ct_0, ne_0_1, ne_0_2, ne_0_3, ne_0_4, ne_0_5, ne_0_6, ne_0_7, ne_0_8, ne_1_0, ne_1_2, ne_1_3, ne_1_4, ne_1_5, ne_1_6, ne_1_7, ne_1_8, ne_2_0, ne_2_1, ne_2_3, ne_2_4, ne_2_5, ne_2_6, ne_2_7, ne_2_8, ne_3_0, ne_3_1, ne_3_2, ne_3_4, ne_3_5, ne_3_6, ne_3_7, ne_3_8, ne_4_0, ne_4_1, ne_4_2, ne_4_3, ne_4_5, ne_4_6, ne_4_7, ne_4_8, ne_5_0, ne_5_1, ne_5_2, ne_5_3, ne_5_4, ne_5_6, ne_5_7, ne_5_8, ne_6_0, ne_6_1, ne_6_2, ne_6_3, ne_6_4, ne_6_5, ne_6_7, ne_6_8, ne_7_0, ne_7_1, ne_7_2, ne_7_3, ne_7_4, ne_7_5, ne_7_6, ne_7_8, ne_8_0, ne_8_1, ne_8_2, ne_8_3, ne_8_4, ne_8_5, ne_8_6, ne_8_7, hst.1, hso.1, ht.2.1, ho.2.1, i_inj (show l.length < 2 ^ 31 by omega) (show r.length < 2 ^ 31 by omega), ct_ends hst hso ht ho, b2i_0]
  by_cases h : l.length = r.length
  · rw [if_neg (fun q => q h), ends_same h]
    by_cases h9 : l = r <;> simp [h9, b2i]
  · rw [if_pos h]
    have h9 : ¬ l = r := fun q => h (by rw [q])
    simp [h9, b2i]
end PU3
