section PU7
variable {rf : Nat → Nat → Option Nat} {it : Nat → Nat → Int32} {lg : Nat → Nat → Int64} {cc ss d : Nat}
def A_r0 : A_ru := (false, 0, 0, 0, 0, 0, [])
abbrev A_ac : Type := List Int32 × List Int32
def BkC (x : Nat → Nat → Int32) (rs : List A_ru) (as : List A_ac) : Prop := (rs.length ≤ 8 ∧ x 1 3 = Int32.ofNat rs.length ∧ ∀ i, i < rs.length → RuC x (5 + 3 * i) (rs.getD i A_r0)) ∧ as.length ≤ 3 ∧ x 1 4 = Int32.ofNat as.length ∧ ∀ i, i < as.length → TxC x (29 + 4 * i) (as.getD i ([], [])).1 ∧ TxC x (31 + 4 * i) (as.getD i ([], [])).2
theorem rf_of (hR : RfOk rf) {a k b : Nat} (h : (a, k, b) ∈ RFl) : rf a k = some b := hR _ h
theorem ruS (hR : RfOk rf) : ∀ i, i < 8 → RuS rf (5 + 3 * i) ∧ rf 2 i = some (5 + 3 * i) := by
  intro i hi
  match i with
  | 0 => exact ⟨⟨rfl, rf_of hR (by decide), rfl, rf_of hR (by decide), rfl⟩, rf_of hR (by decide)⟩
  | 1 => exact ⟨⟨rfl, rf_of hR (by decide), rfl, rf_of hR (by decide), rfl⟩, rf_of hR (by decide)⟩
  | 2 => exact ⟨⟨rfl, rf_of hR (by decide), rfl, rf_of hR (by decide), rfl⟩, rf_of hR (by decide)⟩
  | 3 => exact ⟨⟨rfl, rf_of hR (by decide), rfl, rf_of hR (by decide), rfl⟩, rf_of hR (by decide)⟩
  | 4 => exact ⟨⟨rfl, rf_of hR (by decide), rfl, rf_of hR (by decide), rfl⟩, rf_of hR (by decide)⟩
  | 5 => exact ⟨⟨rfl, rf_of hR (by decide), rfl, rf_of hR (by decide), rfl⟩, rf_of hR (by decide)⟩
  | 6 => exact ⟨⟨rfl, rf_of hR (by decide), rfl, rf_of hR (by decide), rfl⟩, rf_of hR (by decide)⟩
  | 7 => exact ⟨⟨rfl, rf_of hR (by decide), rfl, rf_of hR (by decide), rfl⟩, rf_of hR (by decide)⟩
  | i + 8 => omega
theorem acS (hR : RfOk rf) : ∀ i, i < 3 → (TxS rf (29 + 4 * i) ∧ TxS rf (31 + 4 * i)) ∧ rf 3 i = some (29 + 4 * i) ∧ rf 4 i = some (31 + 4 * i) := by
  intro i hi
  match i with
  | 0 => exact ⟨⟨⟨rfl, rf_of hR (by decide), rfl⟩, rfl, rf_of hR (by decide), rfl⟩, rf_of hR (by decide), rf_of hR (by decide)⟩
  | 1 => exact ⟨⟨⟨rfl, rf_of hR (by decide), rfl⟩, rfl, rf_of hR (by decide), rfl⟩, rf_of hR (by decide), rf_of hR (by decide)⟩
  | 2 => exact ⟨⟨⟨rfl, rf_of hR (by decide), rfl⟩, rfl, rf_of hR (by decide), rfl⟩, rf_of hR (by decide), rf_of hR (by decide)⟩
  | i + 3 => omega
theorem sh_1 : SH[1]? = some (0, 0) := rfl
theorem sh_2 : SH[2]? = some (6, 8) := rfl
theorem sh_3 : SH[3]? = some (7, 3) := rfl
theorem sh_4 : SH[4]? = some (7, 3) := rfl
theorem RuC.row {x y : Nat → Nat → Int32} {r : Nat} {q : A_ru} (h : RuC x r q) (h1 : y r = x r) (h2 : y (r + 1) = x (r + 1)) (h3 : y (r + 2) = x (r + 2)) : RuC y r q := by
  unfold RuC TxC
  rw [h1, h2, h3]
  exact h
theorem BkC.row {x y : Nat → Nat → Int32} {rs : List A_ru} {as : List A_ac} (h : BkC x rs as) (h1 : y 1 = x 1) (h2 : ∀ a, 5 ≤ a → a ≤ 40 → y a = x a) : BkC y rs as := by
  obtain ⟨⟨a1, a2, a3⟩, b1, b2, b3⟩ := h
  refine ⟨⟨a1, by rw [h1]; exact a2, fun i hi => (a3 i hi).row (h2 _ (by omega) (by omega)) (h2 _ (by omega) (by omega)) (h2 _ (by omega) (by omega))⟩, b1, by rw [h1]; exact b2, fun i hi => ⟨(b3 i hi).1.row (h2 _ (by omega) (by omega)) (h2 _ (by omega) (by omega)), (b3 i hi).2.row (h2 _ (by omega) (by omega)) (h2 _ (by omega) (by omega))⟩⟩
theorem drop_gd {α : Type} {l : List α} {i : Nat} {z : α} (h : i < l.length) : l.drop i = l.getD i z :: l.drop (i + 1) := by
  rw [List.drop_eq_getElem_cons h]
  simp [List.getD_eq_getElem?_getD, h]
theorem lt_loop {g : Nat} {rs : List A_ru} {as : List A_ac} {a p : Int32} {n : List Int32} (hR : RfOk rf) (hg : GoS rf g) (hB : BkC it rs as) (hG : GoC it g a n p) : ∀ (k i m : Nat), i + k = rs.length → 40 * k + 40 ≤ m → mm_lp tb_X0_letsThrough (d + 2, mm_run md 9000 (d + 2)) m 2 [(2, .int (Int32.ofNat i)), (0, .ref 1), (1, .ref g)] [] (mk rf it lg cc ss) = some (.inl (some (.int (b2i (allA (rs.drop i) a n p)))), mk rf it lg cc ss) := by
  have hb : rs.length ≤ 8 := hB.1.1
  have hc := hB.1.2.1
  intro k
  induction k with
  | zero =>
    intro i m hi hm
    obtain ⟨m, rfl⟩ : ∃ m9, m = m9 + 15 := ⟨m - 15, by omega⟩
    have b1 : i < 2 ^ 31 := by omega
    rw [List.drop_of_length_le (by omega)]
    simp only [sg_X0_letsThrough_2, mk_sh, mk_rf, mk_it, mk_lg, mk_cc, mk_ss, mk_si, mk_sl, mk_th, mq_u_s, ↓mq_b_d, mq_r_s, mq_a_s, mq_l_s, ck_mk, ck_ite, if_true, if_false, ite_true, ite_false, Nat.le_refl, and_self, and_true, true_and, or_true, true_or, or_false, false_or, eq_self, ck_none, Nat.reduceAdd, Nat.reduceLT, Nat.reduceLeDiff, Nat.reduceEqDiff, Nat.reduceSub, Nat.reduceMul, Int32.reduceLT, Int32.reduceLE, Int32.reduceOfNat, Int32.reduceToNatClampNeg, not_true_eq_false, not_false_eq_true, Nat.add_zero, cl_eq, clr_n, clr_v, clr_x, clr_ite, cr_eq, crr_n, crr_v, crr_ite, List.length_cons, List.length_nil, ct_0, ne_0_1, ne_0_2, ne_0_3, ne_0_4, ne_0_5, ne_0_6, ne_0_7, ne_0_8, ne_1_0, ne_1_2, ne_1_3, ne_1_4, ne_1_5, ne_1_6, ne_1_7, ne_1_8, ne_2_0, ne_2_1, ne_2_3, ne_2_4, ne_2_5, ne_2_6, ne_2_7, ne_2_8, ne_3_0, ne_3_1, ne_3_2, ne_3_4, ne_3_5, ne_3_6, ne_3_7, ne_3_8, ne_4_0, ne_4_1, ne_4_2, ne_4_3, ne_4_5, ne_4_6, ne_4_7, ne_4_8, ne_5_0, ne_5_1, ne_5_2, ne_5_3, ne_5_4, ne_5_6, ne_5_7, ne_5_8, ne_6_0, ne_6_1, ne_6_2, ne_6_3, ne_6_4, ne_6_5, ne_6_7, ne_6_8, ne_7_0, ne_7_1, ne_7_2, ne_7_3, ne_7_4, ne_7_5, ne_7_6, ne_7_8, ne_8_0, ne_8_1, ne_8_2, ne_8_3, ne_8_4, ne_8_5, ne_8_6, ne_8_7, sh_1, hc, Int32.ofNat_le_iff_le (show rs.length < 2 ^ 31 by omega) b1, show rs.length ≤ i by omega, allA, b2i]
    simp
  | succ k ih =>
    intro i m hi hm
    obtain ⟨m, rfl⟩ : ∃ m9, m = m9 + 22 := ⟨m - 22, by omega⟩
    have b1 : i < 2 ^ 31 := by omega
    have ih9 := ih (i + 1) (m + 4) (by omega) (by omega)
    have hi8 : i < 8 := by omega
    have hq := hB.1.2.2 i (by omega)
    rw [drop_gd (z := A_r0) (show i < rs.length by omega), allA]
    generalize rs.getD i A_r0 = q at hq
    have hps := hq.1
    simp only [sg_X0_letsThrough_2 (m := m + 7), sg_X0_letsThrough_29, mk_sh, mk_rf, mk_it, mk_lg, mk_cc, mk_ss, mk_si, mk_sl, mk_th, mq_u_s, ↓mq_b_d, mq_r_s, mq_a_s, mq_l_s, ck_mk, ck_ite, if_true, if_false, ite_true, ite_false, Nat.le_refl, and_self, and_true, true_and, or_true, true_or, or_false, false_or, eq_self, ck_none, Nat.reduceAdd, Nat.reduceLT, Nat.reduceLeDiff, Nat.reduceEqDiff, Nat.reduceSub, Nat.reduceMul, Int32.reduceLT, Int32.reduceLE, Int32.reduceOfNat, Int32.reduceToNatClampNeg, not_true_eq_false, not_false_eq_true, Nat.add_zero, cl_eq, clr_n, clr_v, clr_x, clr_ite, cr_eq, crr_n, crr_v, crr_ite, List.length_cons, List.length_nil, ct_0, ne_0_1, ne_0_2, ne_0_3, ne_0_4, ne_0_5, ne_0_6, ne_0_7, ne_0_8, ne_1_0, ne_1_2, ne_1_3, ne_1_4, ne_1_5, ne_1_6, ne_1_7, ne_1_8, ne_2_0, ne_2_1, ne_2_3, ne_2_4, ne_2_5, ne_2_6, ne_2_7, ne_2_8, ne_3_0, ne_3_1, ne_3_2, ne_3_4, ne_3_5, ne_3_6, ne_3_7, ne_3_8, ne_4_0, ne_4_1, ne_4_2, ne_4_3, ne_4_5, ne_4_6, ne_4_7, ne_4_8, ne_5_0, ne_5_1, ne_5_2, ne_5_3, ne_5_4, ne_5_6, ne_5_7, ne_5_8, ne_6_0, ne_6_1, ne_6_2, ne_6_3, ne_6_4, ne_6_5, ne_6_7, ne_6_8, ne_7_0, ne_7_1, ne_7_2, ne_7_3, ne_7_4, ne_7_5, ne_7_6, ne_7_8, ne_8_0, ne_8_1, ne_8_2, ne_8_3, ne_8_4, ne_8_5, ne_8_6, ne_8_7, sh_1, sh_2, hc, rf_of hR (show (1, 0, 2) ∈ RFl by decide), (ruS hR i hi8).2, (ruS hR i hi8).1.1, Int32.ofNat_le_iff_le (show rs.length < 2 ^ 31 by omega) b1, show ¬ rs.length ≤ i by omega, i_le' b1 (show 8 < 2 ^ 31 by decide), show ¬ 8 ≤ i by omega, in_of b1, i_tn b1, hi8, ct_meant (ruS hR i hi8).1 hg hq hG, b2i_0, i_suc, ih9, hps, b2i_z]
    cases h : meantA q a n p <;> cases h2 : q.1 <;> simp [b2i]
theorem ct_lets {g : Nat} {rs : List A_ru} {as : List A_ac} {a p : Int32} {n : List Int32} (hR : RfOk rf) (hg : GoS rf g) (hB : BkC it rs as) (hG : GoC it g a n p) : mm_run md 9000 (d + 3) 5 [.ref 1, .ref g] (mk rf it lg cc ss) = some (.inl (some (.int (b2i (allA rs a n p)))), mk rf it lg cc ss) := by
  have hb : rs.length ≤ 8 := hB.1.1
  have h := lt_loop (d := d) (lg := lg) (cc := cc) (ss := ss) hR hg hB hG rs.length 0 8998 (by omega) (by omega)
  rw [en_X0_letsThrough]
  have h0 : Int32.ofNat 0 = 0 := rfl
  rw [h0] at h
  simp only [sg_X0_letsThrough_0, mk_sh, mk_rf, mk_it, mk_lg, mk_cc, mk_ss, mk_si, mk_sl, mk_th, mq_u_s, ↓mq_b_d, mq_r_s, mq_a_s, mq_l_s, ck_mk, ck_ite, if_true, if_false, ite_true, ite_false, Nat.le_refl, and_self, and_true, true_and, or_true, true_or, or_false, false_or, eq_self, ck_none, Nat.reduceAdd, Nat.reduceLT, Nat.reduceLeDiff, Nat.reduceEqDiff, Nat.reduceSub, Nat.reduceMul, Int32.reduceLT, Int32.reduceLE, Int32.reduceOfNat, Int32.reduceToNatClampNeg, not_true_eq_false, not_false_eq_true, Nat.add_zero, cl_eq, clr_n, clr_v, clr_x, clr_ite, cr_eq, crr_n, crr_v, crr_ite, List.length_cons, List.length_nil, ct_0, ne_0_1, ne_0_2, ne_0_3, ne_0_4, ne_0_5, ne_0_6, ne_0_7, ne_0_8, ne_1_0, ne_1_2, ne_1_3, ne_1_4, ne_1_5, ne_1_6, ne_1_7, ne_1_8, ne_2_0, ne_2_1, ne_2_3, ne_2_4, ne_2_5, ne_2_6, ne_2_7, ne_2_8, ne_3_0, ne_3_1, ne_3_2, ne_3_4, ne_3_5, ne_3_6, ne_3_7, ne_3_8, ne_4_0, ne_4_1, ne_4_2, ne_4_3, ne_4_5, ne_4_6, ne_4_7, ne_4_8, ne_5_0, ne_5_1, ne_5_2, ne_5_3, ne_5_4, ne_5_6, ne_5_7, ne_5_8, ne_6_0, ne_6_1, ne_6_2, ne_6_3, ne_6_4, ne_6_5, ne_6_7, ne_6_8, ne_7_0, ne_7_1, ne_7_2, ne_7_3, ne_7_4, ne_7_5, ne_7_6, ne_7_8, ne_8_0, ne_8_1, ne_8_2, ne_8_3, ne_8_4, ne_8_5, ne_8_6, ne_8_7, h, List.drop_zero]
def hasA (as : List A_ac) (u p : List Int32) : Bool := as.any (fun q => decide (q.1 = u) && decide (q.2 = p))
theorem ha_loop {t o : Nat} {rs : List A_ru} {as : List A_ac} {u p : List Int32} (hR : RfOk rf) (hB : BkC it rs as) (ht : TxS rf t) (ho : TxS rf o) (hu : TxC it t u) (hp : TxC it o p) : ∀ (k i m : Nat), i + k = as.length → 60 * k + 60 ≤ m → mm_lp tb_X0_hasAccount (d + 2, mm_run md 9000 (d + 2)) m 2 [(3, .int (Int32.ofNat i)), (0, .ref 1), (1, .ref t), (2, .ref o)] [] (mk rf it lg cc ss) = some (.inl (some (.int (b2i (hasA (as.drop i) u p)))), mk rf it lg cc ss) := by
  have hb : as.length ≤ 3 := hB.2.1
  have hc := hB.2.2.1
  intro k
  induction k with
  | zero =>
    intro i m hi hm
    obtain ⟨m, rfl⟩ : ∃ m9, m = m9 + 20 := ⟨m - 20, by omega⟩
    have b1 : i < 2 ^ 31 := by omega
    rw [List.drop_of_length_le (by omega)]
    simp only [sg_X0_hasAccount_2, mk_sh, mk_rf, mk_it, mk_lg, mk_cc, mk_ss, mk_si, mk_sl, mk_th, mq_u_s, ↓mq_b_d, mq_r_s, mq_a_s, mq_l_s, ck_mk, ck_ite, if_true, if_false, ite_true, ite_false, Nat.le_refl, and_self, and_true, true_and, or_true, true_or, or_false, false_or, eq_self, ck_none, Nat.reduceAdd, Nat.reduceLT, Nat.reduceLeDiff, Nat.reduceEqDiff, Nat.reduceSub, Nat.reduceMul, Int32.reduceLT, Int32.reduceLE, Int32.reduceOfNat, Int32.reduceToNatClampNeg, not_true_eq_false, not_false_eq_true, Nat.add_zero, cl_eq, clr_n, clr_v, clr_x, clr_ite, cr_eq, crr_n, crr_v, crr_ite, List.length_cons, List.length_nil, ct_0, ne_0_1, ne_0_2, ne_0_3, ne_0_4, ne_0_5, ne_0_6, ne_0_7, ne_0_8, ne_1_0, ne_1_2, ne_1_3, ne_1_4, ne_1_5, ne_1_6, ne_1_7, ne_1_8, ne_2_0, ne_2_1, ne_2_3, ne_2_4, ne_2_5, ne_2_6, ne_2_7, ne_2_8, ne_3_0, ne_3_1, ne_3_2, ne_3_4, ne_3_5, ne_3_6, ne_3_7, ne_3_8, ne_4_0, ne_4_1, ne_4_2, ne_4_3, ne_4_5, ne_4_6, ne_4_7, ne_4_8, ne_5_0, ne_5_1, ne_5_2, ne_5_3, ne_5_4, ne_5_6, ne_5_7, ne_5_8, ne_6_0, ne_6_1, ne_6_2, ne_6_3, ne_6_4, ne_6_5, ne_6_7, ne_6_8, ne_7_0, ne_7_1, ne_7_2, ne_7_3, ne_7_4, ne_7_5, ne_7_6, ne_7_8, ne_8_0, ne_8_1, ne_8_2, ne_8_3, ne_8_4, ne_8_5, ne_8_6, ne_8_7, sh_1, hc, Int32.ofNat_le_iff_le (show as.length < 2 ^ 31 by omega) b1, show as.length ≤ i by omega, hasA, List.any_nil, b2i]
    simp
  | succ k ih =>
    intro i m hi hm
    obtain ⟨m, rfl⟩ : ∃ m9, m = m9 + 30 := ⟨m - 30, by omega⟩
    have b1 : i < 2 ^ 31 := by omega
    have ih9 := ih (i + 1) m (by omega) (by omega)
    have ih8 := ih (i + 1) (m + 7) (by omega) (by omega)
    have hi3 : i < 3 := by omega
    have hq := hB.2.2.2 i (by omega)
    rw [drop_gd (z := ([], [])) (show i < as.length by omega), hasA, List.any_cons, ← hasA]
    generalize as.getD i ([], []) = q at hq
    have hS := acS hR i hi3
    simp only [sg_X0_hasAccount_2 (m := m + 10), sg_X0_hasAccount_38 (m := m + 3), sg_X0_hasAccount_51 (m := m), mk_sh, mk_rf, mk_it, mk_lg, mk_cc, mk_ss, mk_si, mk_sl, mk_th, mq_u_s, ↓mq_b_d, mq_r_s, mq_a_s, mq_l_s, ck_mk, ck_ite, if_true, if_false, ite_true, ite_false, Nat.le_refl, and_self, and_true, true_and, or_true, true_or, or_false, false_or, eq_self, ck_none, Nat.reduceAdd, Nat.reduceLT, Nat.reduceLeDiff, Nat.reduceEqDiff, Nat.reduceSub, Nat.reduceMul, Int32.reduceLT, Int32.reduceLE, Int32.reduceOfNat, Int32.reduceToNatClampNeg, not_true_eq_false, not_false_eq_true, Nat.add_zero, cl_eq, clr_n, clr_v, clr_x, clr_ite, cr_eq, crr_n, crr_v, crr_ite, List.length_cons, List.length_nil, ct_0, ne_0_1, ne_0_2, ne_0_3, ne_0_4, ne_0_5, ne_0_6, ne_0_7, ne_0_8, ne_1_0, ne_1_2, ne_1_3, ne_1_4, ne_1_5, ne_1_6, ne_1_7, ne_1_8, ne_2_0, ne_2_1, ne_2_3, ne_2_4, ne_2_5, ne_2_6, ne_2_7, ne_2_8, ne_3_0, ne_3_1, ne_3_2, ne_3_4, ne_3_5, ne_3_6, ne_3_7, ne_3_8, ne_4_0, ne_4_1, ne_4_2, ne_4_3, ne_4_5, ne_4_6, ne_4_7, ne_4_8, ne_5_0, ne_5_1, ne_5_2, ne_5_3, ne_5_4, ne_5_6, ne_5_7, ne_5_8, ne_6_0, ne_6_1, ne_6_2, ne_6_3, ne_6_4, ne_6_5, ne_6_7, ne_6_8, ne_7_0, ne_7_1, ne_7_2, ne_7_3, ne_7_4, ne_7_5, ne_7_6, ne_7_8, ne_8_0, ne_8_1, ne_8_2, ne_8_3, ne_8_4, ne_8_5, ne_8_6, ne_8_7, sh_1, sh_3, sh_4, hc, rf_of hR (show (1, 1, 3) ∈ RFl by decide), rf_of hR (show (1, 2, 4) ∈ RFl by decide), hS.2.1, hS.2.2, hS.1.1.1, hS.1.2.1, Int32.ofNat_le_iff_le (show as.length < 2 ^ 31 by omega) b1, show ¬ as.length ≤ i by omega, i_le' b1 (show 3 < 2 ^ 31 by decide), show ¬ 3 ≤ i by omega, in_of b1, i_tn b1, hi3, ct_same hS.1.1 ht hq.1 hu, ct_same hS.1.2 ho hq.2 hp, b2i_0, i_suc, ih9, ih8]
    by_cases h1 : q.1 = u <;> by_cases h2 : q.2 = p <;> simp [h1, h2, b2i]
theorem ct_hasAcc {t o : Nat} {rs : List A_ru} {as : List A_ac} {u p : List Int32} (hR : RfOk rf) (hB : BkC it rs as) (ht : TxS rf t) (ho : TxS rf o) (hu : TxC it t u) (hp : TxC it o p) : mm_run md 9000 (d + 3) 4 [.ref 1, .ref t, .ref o] (mk rf it lg cc ss) = some (.inl (some (.int (b2i (hasA as u p)))), mk rf it lg cc ss) := by
  have hb : as.length ≤ 3 := hB.2.1
  have h := ha_loop (d := d) (lg := lg) (cc := cc) (ss := ss) hR hB ht ho hu hp as.length 0 8998 (by omega) (by omega)
  rw [en_X0_hasAccount]
  have h0 : Int32.ofNat 0 = 0 := rfl
  rw [h0] at h
  simp only [sg_X0_hasAccount_0, mk_sh, mk_rf, mk_it, mk_lg, mk_cc, mk_ss, mk_si, mk_sl, mk_th, mq_u_s, ↓mq_b_d, mq_r_s, mq_a_s, mq_l_s, ck_mk, ck_ite, if_true, if_false, ite_true, ite_false, Nat.le_refl, and_self, and_true, true_and, or_true, true_or, or_false, false_or, eq_self, ck_none, Nat.reduceAdd, Nat.reduceLT, Nat.reduceLeDiff, Nat.reduceEqDiff, Nat.reduceSub, Nat.reduceMul, Int32.reduceLT, Int32.reduceLE, Int32.reduceOfNat, Int32.reduceToNatClampNeg, not_true_eq_false, not_false_eq_true, Nat.add_zero, cl_eq, clr_n, clr_v, clr_x, clr_ite, cr_eq, crr_n, crr_v, crr_ite, List.length_cons, List.length_nil, ct_0, ne_0_1, ne_0_2, ne_0_3, ne_0_4, ne_0_5, ne_0_6, ne_0_7, ne_0_8, ne_1_0, ne_1_2, ne_1_3, ne_1_4, ne_1_5, ne_1_6, ne_1_7, ne_1_8, ne_2_0, ne_2_1, ne_2_3, ne_2_4, ne_2_5, ne_2_6, ne_2_7, ne_2_8, ne_3_0, ne_3_1, ne_3_2, ne_3_4, ne_3_5, ne_3_6, ne_3_7, ne_3_8, ne_4_0, ne_4_1, ne_4_2, ne_4_3, ne_4_5, ne_4_6, ne_4_7, ne_4_8, ne_5_0, ne_5_1, ne_5_2, ne_5_3, ne_5_4, ne_5_6, ne_5_7, ne_5_8, ne_6_0, ne_6_1, ne_6_2, ne_6_3, ne_6_4, ne_6_5, ne_6_7, ne_6_8, ne_7_0, ne_7_1, ne_7_2, ne_7_3, ne_7_4, ne_7_5, ne_7_6, ne_7_8, ne_8_0, ne_8_1, ne_8_2, ne_8_3, ne_8_4, ne_8_5, ne_8_6, ne_8_7, h, List.drop_zero]
theorem ct_bclear : mm_run md 9000 (d + 1) 1 [.ref 1] (mk rf it lg cc ss) = some (.inl none, mk rf (mm_u2 (mm_u2 it 1 3 0) 1 4 0) lg cc ss) := by
  rw [en_X0_clear]
  simp only [sg_X0_clear_0, mk_sh, mk_rf, mk_it, mk_lg, mk_cc, mk_ss, mk_si, mk_sl, mk_th, mq_u_s, ↓mq_b_d, mq_r_s, mq_a_s, mq_l_s, ck_mk, ck_ite, if_true, if_false, ite_true, ite_false, Nat.le_refl, and_self, and_true, true_and, or_true, true_or, or_false, false_or, eq_self, ck_none, Nat.reduceAdd, Nat.reduceLT, Nat.reduceLeDiff, Nat.reduceEqDiff, Nat.reduceSub, Nat.reduceMul, Int32.reduceLT, Int32.reduceLE, Int32.reduceOfNat, Int32.reduceToNatClampNeg, not_true_eq_false, not_false_eq_true, Nat.add_zero, cl_eq, clr_n, clr_v, clr_x, clr_ite, cr_eq, crr_n, crr_v, crr_ite, List.length_cons, List.length_nil, ct_0, ne_0_1, ne_0_2, ne_0_3, ne_0_4, ne_0_5, ne_0_6, ne_0_7, ne_0_8, ne_1_0, ne_1_2, ne_1_3, ne_1_4, ne_1_5, ne_1_6, ne_1_7, ne_1_8, ne_2_0, ne_2_1, ne_2_3, ne_2_4, ne_2_5, ne_2_6, ne_2_7, ne_2_8, ne_3_0, ne_3_1, ne_3_2, ne_3_4, ne_3_5, ne_3_6, ne_3_7, ne_3_8, ne_4_0, ne_4_1, ne_4_2, ne_4_3, ne_4_5, ne_4_6, ne_4_7, ne_4_8, ne_5_0, ne_5_1, ne_5_2, ne_5_3, ne_5_4, ne_5_6, ne_5_7, ne_5_8, ne_6_0, ne_6_1, ne_6_2, ne_6_3, ne_6_4, ne_6_5, ne_6_7, ne_6_8, ne_7_0, ne_7_1, ne_7_2, ne_7_3, ne_7_4, ne_7_5, ne_7_6, ne_7_8, ne_8_0, ne_8_1, ne_8_2, ne_8_3, ne_8_4, ne_8_5, ne_8_6, ne_8_7, sh_1]
theorem bclear_ok : BkC (mm_u2 (mm_u2 it 1 3 0) 1 4 0) [] [] := by
  refine ⟨⟨by decide, ?_, fun i hi => absurd hi (Nat.not_lt_zero _)⟩, by decide, ?_, fun i hi => absurd hi (Nat.not_lt_zero _)⟩
  · rw [u2_nk (by decide), u2_at]; rfl
  · rw [u2_at]; rfl
theorem ct_nextRule {rs : List A_ru} {as : List A_ac} (hR : RfOk rf) (hB : BkC it rs as) : mm_run md 9000 (d + 6) 2 [.ref 1] (mk rf it lg cc ss) = if rs.length < 8 then some (.inl (some (.ref (5 + 3 * rs.length))), mk rf (mm_u2 it 1 3 (Int32.ofNat (rs.length + 1))) lg cc ss) else some (.inr 3, mk rf it lg (cc + 1) (ss + 6)) := by
  have hb : rs.length ≤ 8 := hB.1.1
  have hc := hB.1.2.1
  rw [en_X0_nextRule]
  by_cases h : rs.length < 8
  · simp only [sg_X0_nextRule_0, mk_sh, mk_rf, mk_it, mk_lg, mk_cc, mk_ss, mk_si, mk_sl, mk_th, mq_u_s, ↓mq_b_d, mq_r_s, mq_a_s, mq_l_s, ck_mk, ck_ite, if_true, if_false, ite_true, ite_false, Nat.le_refl, and_self, and_true, true_and, or_true, true_or, or_false, false_or, eq_self, ck_none, Nat.reduceAdd, Nat.reduceLT, Nat.reduceLeDiff, Nat.reduceEqDiff, Nat.reduceSub, Nat.reduceMul, Int32.reduceLT, Int32.reduceLE, Int32.reduceOfNat, Int32.reduceToNatClampNeg, not_true_eq_false, not_false_eq_true, Nat.add_zero, cl_eq, clr_n, clr_v, clr_x, clr_ite, cr_eq, crr_n, crr_v, crr_ite, List.length_cons, List.length_nil, ct_0, ne_0_1, ne_0_2, ne_0_3, ne_0_4, ne_0_5, ne_0_6, ne_0_7, ne_0_8, ne_1_0, ne_1_2, ne_1_3, ne_1_4, ne_1_5, ne_1_6, ne_1_7, ne_1_8, ne_2_0, ne_2_1, ne_2_3, ne_2_4, ne_2_5, ne_2_6, ne_2_7, ne_2_8, ne_3_0, ne_3_1, ne_3_2, ne_3_4, ne_3_5, ne_3_6, ne_3_7, ne_3_8, ne_4_0, ne_4_1, ne_4_2, ne_4_3, ne_4_5, ne_4_6, ne_4_7, ne_4_8, ne_5_0, ne_5_1, ne_5_2, ne_5_3, ne_5_4, ne_5_6, ne_5_7, ne_5_8, ne_6_0, ne_6_1, ne_6_2, ne_6_3, ne_6_4, ne_6_5, ne_6_7, ne_6_8, ne_7_0, ne_7_1, ne_7_2, ne_7_3, ne_7_4, ne_7_5, ne_7_6, ne_7_8, ne_8_0, ne_8_1, ne_8_2, ne_8_3, ne_8_4, ne_8_5, ne_8_6, ne_8_7, sh_1, sh_2, hc, rf_of hR (show (1, 0, 2) ∈ RFl by decide), (ruS hR _ h).2, i_lt0 (show rs.length < 2 ^ 31 by omega), i_lt (show rs.length < 2 ^ 31 by omega) (show 8 < 2 ^ 31 by decide), h, in_of (show rs.length < 2 ^ 31 by omega), i_tn (show rs.length < 2 ^ 31 by omega), i_suc]
  · simp only [sg_X0_nextRule_0, mk_sh, mk_rf, mk_it, mk_lg, mk_cc, mk_ss, mk_si, mk_sl, mk_th, mq_u_s, ↓mq_b_d, mq_r_s, mq_a_s, mq_l_s, ck_mk, ck_ite, if_true, if_false, ite_true, ite_false, Nat.le_refl, and_self, and_true, true_and, or_true, true_or, or_false, false_or, eq_self, ck_none, Nat.reduceAdd, Nat.reduceLT, Nat.reduceLeDiff, Nat.reduceEqDiff, Nat.reduceSub, Nat.reduceMul, Int32.reduceLT, Int32.reduceLE, Int32.reduceOfNat, Int32.reduceToNatClampNeg, not_true_eq_false, not_false_eq_true, Nat.add_zero, cl_eq, clr_n, clr_v, clr_x, clr_ite, cr_eq, crr_n, crr_v, crr_ite, List.length_cons, List.length_nil, ct_0, ne_0_1, ne_0_2, ne_0_3, ne_0_4, ne_0_5, ne_0_6, ne_0_7, ne_0_8, ne_1_0, ne_1_2, ne_1_3, ne_1_4, ne_1_5, ne_1_6, ne_1_7, ne_1_8, ne_2_0, ne_2_1, ne_2_3, ne_2_4, ne_2_5, ne_2_6, ne_2_7, ne_2_8, ne_3_0, ne_3_1, ne_3_2, ne_3_4, ne_3_5, ne_3_6, ne_3_7, ne_3_8, ne_4_0, ne_4_1, ne_4_2, ne_4_3, ne_4_5, ne_4_6, ne_4_7, ne_4_8, ne_5_0, ne_5_1, ne_5_2, ne_5_3, ne_5_4, ne_5_6, ne_5_7, ne_5_8, ne_6_0, ne_6_1, ne_6_2, ne_6_3, ne_6_4, ne_6_5, ne_6_7, ne_6_8, ne_7_0, ne_7_1, ne_7_2, ne_7_3, ne_7_4, ne_7_5, ne_7_6, ne_7_8, ne_8_0, ne_8_1, ne_8_2, ne_8_3, ne_8_4, ne_8_5, ne_8_6, ne_8_7, sh_1, sh_2, hc, rf_of hR (show (1, 0, 2) ∈ RFl by decide), i_lt0 (show rs.length < 2 ^ 31 by omega), i_lt (show rs.length < 2 ^ 31 by omega) (show 8 < 2 ^ 31 by decide), h, show 5 ≤ d + 5 by omega, show cc ≤ cc + 1 by omega, show ss ≤ ss + 6 by omega]
end PU7
