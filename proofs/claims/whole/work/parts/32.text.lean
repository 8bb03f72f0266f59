section PU1
variable {rf : Nat → Nat → Option Nat} {it : Nat → Nat → Int32} {lg : Nat → Nat → Int64} {cc ss d : Nat}
theorem ct_clear {t : Nat} (h : TxS rf t) : mm_run md 9000 (d + 1) 61 [.ref t] (mk rf it lg cc ss) = some (.inl none, mk rf (mm_u2 it t 1 0) lg cc ss) := by
  obtain ⟨h1, h2, h3⟩ := h
  rw [en_X9_clear]
  simp only [sg_X9_clear_0, mk_sh, mk_rf, mk_it, mk_lg, mk_cc, mk_ss, mk_si, mk_sl, mk_th, mq_u_s, ↓mq_b_d, mq_r_s, mq_a_s, mq_l_s, ck_mk, ck_ite, if_true, if_false, ite_true, ite_false, Nat.le_refl, and_self, and_true, true_and, or_true, true_or, or_false, false_or, eq_self, ck_none, Nat.reduceAdd, Nat.reduceLT, Nat.reduceLeDiff, Nat.reduceEqDiff, Nat.reduceSub, Nat.reduceMul, Int32.reduceLT, Int32.reduceLE, Int32.reduceOfNat, Int32.reduceToNatClampNeg, not_true_eq_false, not_false_eq_true, Nat.add_zero, cl_eq, clr_n, clr_v, clr_x, clr_ite, cr_eq, crr_n, crr_v, crr_ite, List.length_cons, List.length_nil, ct_0, ne_0_1, ne_0_2, ne_0_3, ne_0_4, ne_0_5, ne_0_6, ne_0_7, ne_0_8, ne_1_0, ne_1_2, ne_1_3, ne_1_4, ne_1_5, ne_1_6, ne_1_7, ne_1_8, ne_2_0, ne_2_1, ne_2_3, ne_2_4, ne_2_5, ne_2_6, ne_2_7, ne_2_8, ne_3_0, ne_3_1, ne_3_2, ne_3_4, ne_3_5, ne_3_6, ne_3_7, ne_3_8, ne_4_0, ne_4_1, ne_4_2, ne_4_3, ne_4_5, ne_4_6, ne_4_7, ne_4_8, ne_5_0, ne_5_1, ne_5_2, ne_5_3, ne_5_4, ne_5_6, ne_5_7, ne_5_8, ne_6_0, ne_6_1, ne_6_2, ne_6_3, ne_6_4, ne_6_5, ne_6_7, ne_6_8, ne_7_0, ne_7_1, ne_7_2, ne_7_3, ne_7_4, ne_7_5, ne_7_6, ne_7_8, ne_8_0, ne_8_1, ne_8_2, ne_8_3, ne_8_4, ne_8_5, ne_8_6, ne_8_7, h1]
theorem tx_clear {t : Nat} : TxC (mm_u2 it t 1 0) t [] := ⟨by decide, u2_at, fun j hj => absurd hj (Nat.not_lt_zero _)⟩
def txp (it : Nat → Nat → Int32) (t n : Nat) (v : Int32) : Nat → Nat → Int32 := mm_u2 (mm_u2 it (t + 1) n v) t 1 (Int32.ofNat (n + 1))
theorem txp_row {t n a : Nat} {v : Int32} (h1 : a ≠ t) (h2 : a ≠ t + 1) : txp it t n v a = it a := by
  unfold txp
  rw [u2_row h1, u2_row h2]
theorem txp_ok {t : Nat} {l : List Int32} {v : Int32} (h : TxC it t l) (hl : l.length < 15) : TxC (txp it t l.length v) t (l ++ [v]) := by
  obtain ⟨h1, h2, h3⟩ := h
  refine ⟨by simp; omega, by simp only [txp, u2_at, List.length_append, List.length_singleton], fun j hj => ?_⟩
  simp only [List.length_append, List.length_singleton] at hj
  simp only [txp]
  rw [u2_ne (by omega)]
  by_cases hj9 : j = l.length
  · rw [hj9, u2_at]
    simp
  · rw [u2_nk hj9, h3 j (by omega), gd_app (by omega)]
theorem ct_put {t : Nat} {l : List Int32} {v : Int32} (h : TxS rf t) (ht : TxC it t l) (hv : isC v) : mm_run md 9000 (d + 1) 62 [.ref t, .int v] (mk rf it lg cc ss) = if l.length < 15 then some (.inl (some (.int 1)), mk rf (txp it t l.length v) lg cc ss) else some (.inl (some (.int 0)), mk rf it lg cc ss) := by
  obtain ⟨h1, h2, h3⟩ := h
  obtain ⟨g1, g2, g3⟩ := ht
  have b1 : l.length < 2 ^ 31 := by omega
  rw [en_X9_put]
  simp only [sg_X9_put_0, mk_sh, mk_rf, mk_it, mk_lg, mk_cc, mk_ss, mk_si, mk_sl, mk_th, mq_u_s, ↓mq_b_d, mq_r_s, mq_a_s, mq_l_s, ck_mk, ck_ite, if_true, if_false, ite_true, ite_false, Nat.le_refl, and_self, and_true, true_and, or_true, true_or, or_false, false_or, eq_self, ck_none, Nat.reduceAdd, Nat.reduceLT, Nat.reduceLeDiff, Nat.reduceEqDiff, Nat.reduceSub, Nat.reduceMul, Int32.reduceLT, Int32.reduceLE, Int32.reduceOfNat, Int32.reduceToNatClampNeg, not_true_eq_false, not_false_eq_true, Nat.add_zero, cl_eq, clr_n, clr_v, clr_x, clr_ite, cr_eq, crr_n, crr_v, crr_ite, List.length_cons, List.length_nil, ct_0, ne_0_1, ne_0_2, ne_0_3, ne_0_4, ne_0_5, ne_0_6, ne_0_7, ne_0_8, ne_1_0, ne_1_2, ne_1_3, ne_1_4, ne_1_5, ne_1_6, ne_1_7, ne_1_8, ne_2_0, ne_2_1, ne_2_3, ne_2_4, ne_2_5, ne_2_6, ne_2_7, ne_2_8, ne_3_0, ne_3_1, ne_3_2, ne_3_4, ne_3_5, ne_3_6, ne_3_7, ne_3_8, ne_4_0, ne_4_1, ne_4_2, ne_4_3, ne_4_5, ne_4_6, ne_4_7, ne_4_8, ne_5_0, ne_5_1, ne_5_2, ne_5_3, ne_5_4, ne_5_6, ne_5_7, ne_5_8, ne_6_0, ne_6_1, ne_6_2, ne_6_3, ne_6_4, ne_6_5, ne_6_7, ne_6_8, ne_7_0, ne_7_1, ne_7_2, ne_7_3, ne_7_4, ne_7_5, ne_7_6, ne_7_8, ne_8_0, ne_8_1, ne_8_2, ne_8_3, ne_8_4, ne_8_5, ne_8_6, ne_8_7, h1, h2, h3, g2, i_lt0 b1, u2_ne (show t ≠ t + 1 by omega), i_suc, in_of b1, i_tn b1, hv.chr, i_lt b1 (show 15 < 2 ^ 31 by decide)]
  by_cases h9 : l.length < 15
  · rw [if_pos h9, if_pos h9, if_pos h9]
    rfl
  · rw [if_neg h9, if_neg h9]
theorem cp_loop {t o : Nat} {to : Nat} {lo : List Int32} {z2 : Int32} (hst : TxS rf t) (hso : TxS rf o) (hd1 : o ≠ t) (hd2 : o ≠ t + 1) (hd3 : o + 1 ≠ t) (hc : ∀ v ∈ lo, isC v) (hto : to < 2 ^ 31) : ∀ (k i m : Nat) (l : List Int32) (it : Nat → Nat → Int32), i + k = min to lo.length → 40 * k + 40 ≤ m → l.length + k ≤ 15 → TxC it t l → TxC it o lo → ∃ it9, mm_lp tb_X9_copy (d + 1, mm_run md 9000 (d + 1)) m 11 [(4, .int (Int32.ofNat i)), (0, .ref t), (1, .ref o), (2, .int z2), (3, .int (Int32.ofNat to))] [] (mk rf it lg cc ss) = some (.inl none, mk rf it9 lg cc ss) ∧ TxC it9 t (l ++ (lo.drop i).take k) ∧ ∀ a, a ≠ t → a ≠ t + 1 → it9 a = it a := by
  intro k
  induction k with
  | zero =>
    intro i m l it hi hm hl ht ho
    obtain ⟨m, rfl⟩ : ∃ m9, m = m9 + 13 := ⟨m - 13, by omega⟩
    refine ⟨it, ?_, by simpa using ht, fun _ _ _ => rfl⟩
    have b1 : i < 2 ^ 31 := by omega
    have b2 : lo.length < 2 ^ 31 := by have := ho.1; omega
    simp only [sg_X9_copy_0, sg_X9_copy_4, sg_X9_copy_11, sg_X9_copy_37, mk_sh, mk_rf, mk_it, mk_lg, mk_cc, mk_ss, mk_si, mk_sl, mk_th, mq_u_s, ↓mq_b_d, mq_r_s, mq_a_s, mq_l_s, ck_mk, ck_ite, if_true, if_false, ite_true, ite_false, Nat.le_refl, and_self, and_true, true_and, or_true, true_or, or_false, false_or, eq_self, ck_none, Nat.reduceAdd, Nat.reduceLT, Nat.reduceLeDiff, Nat.reduceEqDiff, Nat.reduceSub, Nat.reduceMul, Int32.reduceLT, Int32.reduceLE, Int32.reduceOfNat, Int32.reduceToNatClampNeg, not_true_eq_false, not_false_eq_true, Nat.add_zero, cl_eq, clr_n, clr_v, clr_x, clr_ite, cr_eq, crr_n, crr_v, crr_ite, List.length_cons, List.length_nil, ct_0, ne_0_1, ne_0_2, ne_0_3, ne_0_4, ne_0_5, ne_0_6, ne_0_7, ne_0_8, ne_1_0, ne_1_2, ne_1_3, ne_1_4, ne_1_5, ne_1_6, ne_1_7, ne_1_8, ne_2_0, ne_2_1, ne_2_3, ne_2_4, ne_2_5, ne_2_6, ne_2_7, ne_2_8, ne_3_0, ne_3_1, ne_3_2, ne_3_4, ne_3_5, ne_3_6, ne_3_7, ne_3_8, ne_4_0, ne_4_1, ne_4_2, ne_4_3, ne_4_5, ne_4_6, ne_4_7, ne_4_8, ne_5_0, ne_5_1, ne_5_2, ne_5_3, ne_5_4, ne_5_6, ne_5_7, ne_5_8, ne_6_0, ne_6_1, ne_6_2, ne_6_3, ne_6_4, ne_6_5, ne_6_7, ne_6_8, ne_7_0, ne_7_1, ne_7_2, ne_7_3, ne_7_4, ne_7_5, ne_7_6, ne_7_8, ne_8_0, ne_8_1, ne_8_2, ne_8_3, ne_8_4, ne_8_5, ne_8_6, ne_8_7, hso.1, hso.2.1, hso.2.2, ho.2.1, Int32.ofNat_le_iff_le hto b1, Int32.ofNat_le_iff_le b2 b1]
    by_cases h : to ≤ i
    · rw [if_pos h]
    · rw [if_neg h, if_pos (by omega)]
  | succ k ih =>
    intro i m l it hi hm hl ht ho
    obtain ⟨m, rfl⟩ : ∃ m9, m = m9 + 16 := ⟨m - 16, by omega⟩
    have b1 : i < 2 ^ 31 := by omega
    have b2 : lo.length < 2 ^ 31 := by have := ho.1; omega
    have c1 : ¬ to ≤ i := by omega
    have c2 : ¬ lo.length ≤ i := by omega
    have c3 : i < 15 := by have := ho.1; omega
    have hv : isC (lo.getD i 0) := by
      rw [gd_get (by omega)]
      exact hc _ (List.getElem_mem _)
    have e1 : it (o + 1) i = lo.getD i 0 := ho.2.2 i (by omega)
    obtain ⟨it9, r1, r2, r3⟩ := ih (i + 1) m (l ++ [lo.getD i 0]) (txp it t l.length (lo.getD i 0)) (by omega) (by omega) (by simp; omega) (txp_ok ht (by omega)) ⟨ho.1, by rw [txp_row hd1 hd2]; exact ho.2.1, by rw [txp_row hd3 (by omega)]; exact ho.2.2⟩
    refine ⟨it9, ?_, ?_, fun a q1 q2 => (r3 a q1 q2).trans (txp_row q1 q2)⟩
    · rw [← r1]
      simp only [sg_X9_copy_0, sg_X9_copy_4, sg_X9_copy_37, sg_X9_copy_11 (m := m + 3), mk_sh, mk_rf, mk_it, mk_lg, mk_cc, mk_ss, mk_si, mk_sl, mk_th, mq_u_s, ↓mq_b_d, mq_r_s, mq_a_s, mq_l_s, ck_mk, ck_ite, if_true, if_false, ite_true, ite_false, Nat.le_refl, and_self, and_true, true_and, or_true, true_or, or_false, false_or, eq_self, ck_none, Nat.reduceAdd, Nat.reduceLT, Nat.reduceLeDiff, Nat.reduceEqDiff, Nat.reduceSub, Nat.reduceMul, Int32.reduceLT, Int32.reduceLE, Int32.reduceOfNat, Int32.reduceToNatClampNeg, not_true_eq_false, not_false_eq_true, Nat.add_zero, cl_eq, clr_n, clr_v, clr_x, clr_ite, cr_eq, crr_n, crr_v, crr_ite, List.length_cons, List.length_nil, ct_0, ne_0_1, ne_0_2, ne_0_3, ne_0_4, ne_0_5, ne_0_6, ne_0_7, ne_0_8, ne_1_0, ne_1_2, ne_1_3, ne_1_4, ne_1_5, ne_1_6, ne_1_7, ne_1_8, ne_2_0, ne_2_1, ne_2_3, ne_2_4, ne_2_5, ne_2_6, ne_2_7, ne_2_8, ne_3_0, ne_3_1, ne_3_2, ne_3_4, ne_3_5, ne_3_6, ne_3_7, ne_3_8, ne_4_0, ne_4_1, ne_4_2, ne_4_3, ne_4_5, ne_4_6, ne_4_7, ne_4_8, ne_5_0, ne_5_1, ne_5_2, ne_5_3, ne_5_4, ne_5_6, ne_5_7, ne_5_8, ne_6_0, ne_6_1, ne_6_2, ne_6_3, ne_6_4, ne_6_5, ne_6_7, ne_6_8, ne_7_0, ne_7_1, ne_7_2, ne_7_3, ne_7_4, ne_7_5, ne_7_6, ne_7_8, ne_8_0, ne_8_1, ne_8_2, ne_8_3, ne_8_4, ne_8_5, ne_8_6, ne_8_7, hst.1, hso.1, hso.2.1, hso.2.2, ho.2.1, Int32.ofNat_le_iff_le hto b1, Int32.ofNat_le_iff_le b2 b1, c1, c2, in_of b1, i_tn b1, c3, e1, cl_eq, ct_put (d := d) hst ht hv, show l.length < 15 by omega, clr_v, List.length_cons, List.length_nil, ct_0, i_suc]
    · have e2 : (lo.drop i).take (k + 1) = lo.getD i 0 :: (lo.drop (i + 1)).take k := by
        rw [List.drop_eq_getElem_cons (by omega : i < lo.length), List.take_succ_cons, gd_get (by omega)]
      rw [e2]
      simpa using r2
end PU1
