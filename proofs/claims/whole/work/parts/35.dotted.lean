section PU4
variable {rf : Nat → Nat → Option Nat} {it : Nat → Nat → Int32} {lg : Nat → Nat → Int64} {cc ss d : Nat}
/-- four numbers with dots between: the address; ad: what stands before, nu: the number so far, di: its digits, dt: dots -/
def dsp : List Int32 → Nat → Nat → Nat → Nat → Option Nat
  | [], ad, nu, di, dt => if dt = 3 ∧ 0 < di then some (ad * 256 + nu) else none
  | c :: r, ad, nu, di, dt =>
    if c = 46 ∧ 0 < di ∧ dt < 3 then dsp r (ad * 256 + nu) 0 0 (dt + 1)
    else if isDg c = true ∧ di < 3 ∧ nu * 10 + (c.toNatClampNeg - 48) ≤ 255 then dsp r ad (nu * 10 + (c.toNatClampNeg - 48)) (di + 1) dt
    else none
def dres (o : Option Nat) : Int64 := match o with
  | some n => Int64.ofNat n
  | none => -1
theorem sh8 {ad nu : Nat} (h1 : ad < 2 ^ 32) (h2 : nu < 256) : (Int64.ofNat ad) <<< (Int32.toInt64 (8 : Int32) &&& 63) ||| (Int32.ofNat nu).toInt64 = Int64.ofNat (ad * 256 + nu) := by
  have e0 : (Int32.toInt64 (8 : Int32) &&& 63) = 8 := by decide
  have e1 : (Int32.ofNat nu).toInt64 = Int64.ofNat nu := by
    apply Int64.toInt_inj.mp
    rw [Int32.toInt_toInt64, Int32.toInt_ofNat_of_lt (by omega), Int64.toInt_ofNat_of_lt (by omega)]
  rw [e0, e1]
  apply Int64.toBitVec_inj.mp
  apply BitVec.eq_of_toNat_eq
  simp only [Int64.toBitVec_or, Int64.toBitVec_shiftLeft, BitVec.toNat_or]
  have e2 : ((8 : Int64).toBitVec.smod 64) = 8#64 := by decide
  rw [e2]
  show (BitVec.shiftLeft (BitVec.ofNat 64 ad) (8#64).toNat).toNat ||| (BitVec.ofNat 64 nu).toNat = (BitVec.ofNat 64 (ad * 256 + nu)).toNat
  have e3 : (8#64).toNat = 8 := by decide
  rw [e3]
  simp only [BitVec.shiftLeft_eq, BitVec.toNat_shiftLeft, BitVec.toNat_ofNat]
  rw [Nat.mod_eq_of_lt (show nu < 2 ^ 64 by omega), Nat.mod_eq_of_lt (show ad < 2 ^ 64 by omega), Nat.mod_eq_of_lt (show ad * 256 + nu < 2 ^ 64 by omega), Nat.mod_eq_of_lt (show ad <<< 8 < 2 ^ 64 by rw [Nat.shiftLeft_eq]; omega), ← Nat.shiftLeft_add_eq_or_of_lt (show nu < 2 ^ 8 by omega), Nat.shiftLeft_eq]
theorem n10 {nu cn : Nat} (h : 48 ≤ cn) : Int32.ofNat nu * 10 + Int32.ofNat cn - 48 = Int32.ofNat (nu * 10 + (cn - 48)) := by
  have e : nu * 10 + (cn - 48) = nu * 10 + cn - 48 := by omega
  rw [e, Int32.ofNat_sub _ _ (by omega), Int32.ofNat_add, Int32.ofNat_mul]
  rfl
theorem isDg_nat {cn : Nat} (h : cn < 65536) : isDg (Int32.ofNat cn) = true ↔ 48 ≤ cn ∧ cn ≤ 57 := by
  simp only [isDg, Bool.and_eq_true, decide_eq_true_eq]
  rw [i_le' (by omega) (by decide), i_le (by omega) (by decide)]
def dlv (t : Nat) (i ad nu di dt : Nat) (lv : mm_L) : Prop :=
  lv = [(6, .int (Int32.ofNat i)), (5, .int (Int32.ofNat dt)), (4, .int (Int32.ofNat di)), (3, .int (Int32.ofNat nu)), (1, .long (Int64.ofNat ad)), (0, .ref t)] ∨
  (∃ z : Int32, lv = [(6, .int (Int32.ofNat i)), (4, .int (Int32.ofNat di)), (3, .int (Int32.ofNat nu)), (5, .int (Int32.ofNat dt)), (1, .long (Int64.ofNat ad)), (7, .int z), (0, .ref t)]) ∨
  (∃ z : Int32, lv = [(6, .int (Int32.ofNat i)), (4, .int (Int32.ofNat di)), (3, .int (Int32.ofNat nu)), (7, .int z), (5, .int (Int32.ofNat dt)), (1, .long (Int64.ofNat ad)), (0, .ref t)])
theorem da_loop {t : Nat} {l : List Int32} (hst : TxS rf t) (ht : TxC it t l) (hc : ∀ v ∈ l, isC v) : ∀ (k i m ad nu di dt : Nat) (lv : mm_L), i + k = l.length → 80 * k + 80 ≤ m → nu < 256 → di ≤ 3 → dt ≤ 3 → ad < 256 ^ dt → dlv t i ad nu di dt lv → mm_lp tb_X9_dottedAddress (d + 1, mm_run md 9000 (d + 1)) m 13 lv [] (mk rf it lg cc ss) = some (.inl (some (.long (dres (dsp (l.drop i) ad nu di dt)))), mk rf it lg cc ss) := by
  have hb : l.length ≤ 15 := ht.1
  intro k
  induction k with
  | zero =>
    intro i m ad nu di dt lv hi hm hnu hdi hdt had hlv
    obtain ⟨m, rfl⟩ : ∃ m9, m = m9 + 35 := ⟨m - 35, by omega⟩
    have b1 : i < 2 ^ 31 := by omega
    have had9 : ad < 2 ^ 32 := Nat.lt_of_lt_of_le had (Nat.le_trans (Nat.pow_le_pow_right (by decide) hdt) (by decide))
    rw [List.drop_of_length_le (by omega)]
    rcases hlv with rfl | ⟨z, rfl⟩ | ⟨z, rfl⟩ <;>
    · simp only [sg_X9_dottedAddress_13, sg_X9_dottedAddress_13b, sg_X9_dottedAddress_13c, mk_sh, mk_rf, mk_it, mk_lg, mk_cc, mk_ss, mk_si, mk_sl, mk_th, mq_u_s, ↓mq_b_d, mq_r_s, mq_a_s, mq_l_s, ck_mk, ck_ite, if_true, if_false, ite_true, ite_false, Nat.le_refl, and_self, and_true, true_and, or_true, true_or, or_false, false_or, eq_self, ck_none, Nat.reduceAdd, Nat.reduceLT, Nat.reduceLeDiff, Nat.reduceEqDiff, Nat.reduceSub, Nat.reduceMul, Int32.reduceLT, Int32.reduceLE, Int32.reduceOfNat, Int32.reduceToNatClampNeg, not_true_eq_false, not_false_eq_true, Nat.add_zero, cl_eq, clr_n, clr_v, clr_x, clr_ite, cr_eq, crr_n, crr_v, crr_ite, List.length_cons, List.length_nil, ct_0, ne_0_1, ne_0_2, ne_0_3, ne_0_4, ne_0_5, ne_0_6, ne_0_7, ne_0_8, ne_1_0, ne_1_2, ne_1_3, ne_1_4, ne_1_5, ne_1_6, ne_1_7, ne_1_8, ne_2_0, ne_2_1, ne_2_3, ne_2_4, ne_2_5, ne_2_6, ne_2_7, ne_2_8, ne_3_0, ne_3_1, ne_3_2, ne_3_4, ne_3_5, ne_3_6, ne_3_7, ne_3_8, ne_4_0, ne_4_1, ne_4_2, ne_4_3, ne_4_5, ne_4_6, ne_4_7, ne_4_8, ne_5_0, ne_5_1, ne_5_2, ne_5_3, ne_5_4, ne_5_6, ne_5_7, ne_5_8, ne_6_0, ne_6_1, ne_6_2, ne_6_3, ne_6_4, ne_6_5, ne_6_7, ne_6_8, ne_7_0, ne_7_1, ne_7_2, ne_7_3, ne_7_4, ne_7_5, ne_7_6, ne_7_8, ne_8_0, ne_8_1, ne_8_2, ne_8_3, ne_8_4, ne_8_5, ne_8_6, ne_8_7, hst.1, ht.2.1, Int32.ofNat_le_iff_le (show l.length < 2 ^ 31 by omega) b1, show l.length ≤ i by omega, sh8 had9 hnu, i_eq (show dt < 2 ^ 31 by omega) (show 3 < 2 ^ 31 by decide), i_le (show di < 2 ^ 31 by omega) (show 0 < 2 ^ 31 by decide), dsp]
      by_cases h1 : dt = 3 <;> by_cases h2 : di ≤ 0
      · rw [if_neg (fun q => q h1), if_pos h2, if_neg (by omega)]; rfl
      · rw [if_neg (fun q => q h1), if_neg h2, if_pos ⟨h1, by omega⟩]; rfl
      · rw [if_pos h1, if_neg (by omega)]; rfl
      · rw [if_pos h1, if_neg (by omega)]; rfl
  | succ k ih =>
    intro i m ad nu di dt lv hi hm hnu hdi hdt had hlv
    obtain ⟨m, rfl⟩ : ∃ m9, m = m9 + 60 := ⟨m - 60, by omega⟩
    have b1 : i < 2 ^ 31 := by omega
    have had9 : ad < 2 ^ 32 := Nat.lt_of_lt_of_le had (Nat.le_trans (Nat.pow_le_pow_right (by decide) hdt) (by decide))
    have e1 : it (t + 1) i = l.getD i 0 := ht.2.2 i (by omega)
    have e2 : l.drop i = l.getD i 0 :: l.drop (i + 1) := by
      rw [List.drop_eq_getElem_cons (by omega : i < l.length), gd_get (by omega)]
    have hcc : isC (l.getD i 0) := by
      rw [gd_get (by omega)]
      exact hc _ (List.getElem_mem _)
    obtain ⟨cn, hcn, ec⟩ := hcc
    rw [e2, dsp]
    have z0 : (0 : Int32) = Int32.ofNat 0 := rfl
    by_cases hA : l.getD i 0 = 46 ∧ 0 < di ∧ dt < 3
    · rw [if_pos hA]
      have q1 : ad * 256 + nu < 256 ^ (dt + 1) := by rw [Nat.pow_succ]; omega
      have ih9 := fun z => ih (i + 1) (m + 25) (ad * 256 + nu) 0 0 (dt + 1) _ (by omega) (by omega) (by omega) (by omega) (by omega) q1 (Or.inr (Or.inl ⟨z, rfl⟩))
      rcases hlv with rfl | ⟨z, rfl⟩ | ⟨z, rfl⟩ <;>
      · simp only [sg_X9_dottedAddress_13 (m := m + 25), sg_X9_dottedAddress_13b (m := m + 25), sg_X9_dottedAddress_13c (m := m + 25), mk_sh, mk_rf, mk_it, mk_lg, mk_cc, mk_ss, mk_si, mk_sl, mk_th, mq_u_s, ↓mq_b_d, mq_r_s, mq_a_s, mq_l_s, ck_mk, ck_ite, if_true, if_false, ite_true, ite_false, Nat.le_refl, and_self, and_true, true_and, or_true, true_or, or_false, false_or, eq_self, ck_none, Nat.reduceAdd, Nat.reduceLT, Nat.reduceLeDiff, Nat.reduceEqDiff, Nat.reduceSub, Nat.reduceMul, Int32.reduceLT, Int32.reduceLE, Int32.reduceOfNat, Int32.reduceToNatClampNeg, not_true_eq_false, not_false_eq_true, Nat.add_zero, cl_eq, clr_n, clr_v, clr_x, clr_ite, cr_eq, crr_n, crr_v, crr_ite, List.length_cons, List.length_nil, ct_0, ne_0_1, ne_0_2, ne_0_3, ne_0_4, ne_0_5, ne_0_6, ne_0_7, ne_0_8, ne_1_0, ne_1_2, ne_1_3, ne_1_4, ne_1_5, ne_1_6, ne_1_7, ne_1_8, ne_2_0, ne_2_1, ne_2_3, ne_2_4, ne_2_5, ne_2_6, ne_2_7, ne_2_8, ne_3_0, ne_3_1, ne_3_2, ne_3_4, ne_3_5, ne_3_6, ne_3_7, ne_3_8, ne_4_0, ne_4_1, ne_4_2, ne_4_3, ne_4_5, ne_4_6, ne_4_7, ne_4_8, ne_5_0, ne_5_1, ne_5_2, ne_5_3, ne_5_4, ne_5_6, ne_5_7, ne_5_8, ne_6_0, ne_6_1, ne_6_2, ne_6_3, ne_6_4, ne_6_5, ne_6_7, ne_6_8, ne_7_0, ne_7_1, ne_7_2, ne_7_3, ne_7_4, ne_7_5, ne_7_6, ne_7_8, ne_8_0, ne_8_1, ne_8_2, ne_8_3, ne_8_4, ne_8_5, ne_8_6, ne_8_7, hst.1, hst.2.1, hst.2.2, ht.2.1, Int32.ofNat_le_iff_le (show l.length < 2 ^ 31 by omega) b1, show ¬ l.length ≤ i by omega, in_of b1, i_tn b1, show i < 15 by omega, e1, hA.1, i_le (show di < 2 ^ 31 by omega) (show 0 < 2 ^ 31 by decide), show ¬ di ≤ 0 by omega, i_le' (show dt < 2 ^ 31 by omega) (show 3 < 2 ^ 31 by decide), show ¬ 3 ≤ dt by omega, sh8 had9 hnu, i_suc]
        exact ih9 46
    · rw [if_neg hA]
      have e3 : it (t + 1) i = Int32.ofNat cn := e1.trans ec
      rw [ec, i_tn (show cn < 2 ^ 31 by omega)]
      by_cases h1 : cn = 46
      · subst h1
        have hD : isDg (Int32.ofNat 46) = false := by decide
        have hE : (46 : Int32) = Int32.ofNat 46 := rfl
        have hq : di ≤ 0 ∨ (¬ di ≤ 0 ∧ 3 ≤ dt) := by
          have : ¬ (0 < di ∧ dt < 3) := fun q => hA ⟨ec, q⟩
          omega
        rw [if_neg (by rw [hD]; simp)]
        rcases hq with hq | ⟨hq1, hq2⟩
        · rcases hlv with rfl | ⟨z, rfl⟩ | ⟨z, rfl⟩ <;>
          · simp only [sg_X9_dottedAddress_13 (m := m + 25), sg_X9_dottedAddress_13b (m := m + 25), sg_X9_dottedAddress_13c (m := m + 25), sg_X9_dottedAddress_73, sg_X9_dottedAddress_73b, mk_sh, mk_rf, mk_it, mk_lg, mk_cc, mk_ss, mk_si, mk_sl, mk_th, mq_u_s, ↓mq_b_d, mq_r_s, mq_a_s, mq_l_s, ck_mk, ck_ite, if_true, if_false, ite_true, ite_false, Nat.le_refl, and_self, and_true, true_and, or_true, true_or, or_false, false_or, eq_self, ck_none, Nat.reduceAdd, Nat.reduceLT, Nat.reduceLeDiff, Nat.reduceEqDiff, Nat.reduceSub, Nat.reduceMul, Int32.reduceLT, Int32.reduceLE, Int32.reduceOfNat, Int32.reduceToNatClampNeg, not_true_eq_false, not_false_eq_true, Nat.add_zero, cl_eq, clr_n, clr_v, clr_x, clr_ite, cr_eq, crr_n, crr_v, crr_ite, List.length_cons, List.length_nil, ct_0, ne_0_1, ne_0_2, ne_0_3, ne_0_4, ne_0_5, ne_0_6, ne_0_7, ne_0_8, ne_1_0, ne_1_2, ne_1_3, ne_1_4, ne_1_5, ne_1_6, ne_1_7, ne_1_8, ne_2_0, ne_2_1, ne_2_3, ne_2_4, ne_2_5, ne_2_6, ne_2_7, ne_2_8, ne_3_0, ne_3_1, ne_3_2, ne_3_4, ne_3_5, ne_3_6, ne_3_7, ne_3_8, ne_4_0, ne_4_1, ne_4_2, ne_4_3, ne_4_5, ne_4_6, ne_4_7, ne_4_8, ne_5_0, ne_5_1, ne_5_2, ne_5_3, ne_5_4, ne_5_6, ne_5_7, ne_5_8, ne_6_0, ne_6_1, ne_6_2, ne_6_3, ne_6_4, ne_6_5, ne_6_7, ne_6_8, ne_7_0, ne_7_1, ne_7_2, ne_7_3, ne_7_4, ne_7_5, ne_7_6, ne_7_8, ne_8_0, ne_8_1, ne_8_2, ne_8_3, ne_8_4, ne_8_5, ne_8_6, ne_8_7, hst.1, hst.2.1, hst.2.2, ht.2.1, Int32.ofNat_le_iff_le (show l.length < 2 ^ 31 by omega) b1, show ¬ l.length ≤ i by omega, in_of b1, i_tn b1, show i < 15 by omega, e3, i_le (show di < 2 ^ 31 by omega) (show 0 < 2 ^ 31 by decide), i_le' (show dt < 2 ^ 31 by omega) (show 3 < 2 ^ 31 by decide), i_le' (show di < 2 ^ 31 by omega) (show 3 < 2 ^ 31 by decide), cs_isDigit, b2i_0, i_suc, hq, show isDg 46 = false from by decide]
            rfl
        · rcases hlv with rfl | ⟨z, rfl⟩ | ⟨z, rfl⟩ <;>
          · simp only [sg_X9_dottedAddress_13 (m := m + 25), sg_X9_dottedAddress_13b (m := m + 25), sg_X9_dottedAddress_13c (m := m + 25), sg_X9_dottedAddress_73, sg_X9_dottedAddress_73b, mk_sh, mk_rf, mk_it, mk_lg, mk_cc, mk_ss, mk_si, mk_sl, mk_th, mq_u_s, ↓mq_b_d, mq_r_s, mq_a_s, mq_l_s, ck_mk, ck_ite, if_true, if_false, ite_true, ite_false, Nat.le_refl, and_self, and_true, true_and, or_true, true_or, or_false, false_or, eq_self, ck_none, Nat.reduceAdd, Nat.reduceLT, Nat.reduceLeDiff, Nat.reduceEqDiff, Nat.reduceSub, Nat.reduceMul, Int32.reduceLT, Int32.reduceLE, Int32.reduceOfNat, Int32.reduceToNatClampNeg, not_true_eq_false, not_false_eq_true, Nat.add_zero, cl_eq, clr_n, clr_v, clr_x, clr_ite, cr_eq, crr_n, crr_v, crr_ite, List.length_cons, List.length_nil, ct_0, ne_0_1, ne_0_2, ne_0_3, ne_0_4, ne_0_5, ne_0_6, ne_0_7, ne_0_8, ne_1_0, ne_1_2, ne_1_3, ne_1_4, ne_1_5, ne_1_6, ne_1_7, ne_1_8, ne_2_0, ne_2_1, ne_2_3, ne_2_4, ne_2_5, ne_2_6, ne_2_7, ne_2_8, ne_3_0, ne_3_1, ne_3_2, ne_3_4, ne_3_5, ne_3_6, ne_3_7, ne_3_8, ne_4_0, ne_4_1, ne_4_2, ne_4_3, ne_4_5, ne_4_6, ne_4_7, ne_4_8, ne_5_0, ne_5_1, ne_5_2, ne_5_3, ne_5_4, ne_5_6, ne_5_7, ne_5_8, ne_6_0, ne_6_1, ne_6_2, ne_6_3, ne_6_4, ne_6_5, ne_6_7, ne_6_8, ne_7_0, ne_7_1, ne_7_2, ne_7_3, ne_7_4, ne_7_5, ne_7_6, ne_7_8, ne_8_0, ne_8_1, ne_8_2, ne_8_3, ne_8_4, ne_8_5, ne_8_6, ne_8_7, hst.1, hst.2.1, hst.2.2, ht.2.1, Int32.ofNat_le_iff_le (show l.length < 2 ^ 31 by omega) b1, show ¬ l.length ≤ i by omega, in_of b1, i_tn b1, show i < 15 by omega, e3, i_le (show di < 2 ^ 31 by omega) (show 0 < 2 ^ 31 by decide), i_le' (show dt < 2 ^ 31 by omega) (show 3 < 2 ^ 31 by decide), i_le' (show di < 2 ^ 31 by omega) (show 3 < 2 ^ 31 by decide), cs_isDigit, b2i_0, i_suc, hq1, hq2, show isDg 46 = false from by decide]
            rfl
      · have hne : ¬ Int32.ofNat cn = 46 := fun q => h1 ((i_eq (by omega) (by decide)).mp q)
        by_cases h2 : isDg (Int32.ofNat cn) = true
        · have h48 := (isDg_nat hcn).mp h2
          by_cases h3 : di < 3
          · by_cases h4 : nu * 10 + (cn - 48) ≤ 255
            · rw [if_pos ⟨h2, h3, h4⟩]
              have ih9 := fun z => ih (i + 1) (m + 27) ad (nu * 10 + (cn - 48)) (di + 1) dt _ (by omega) (by omega) (by omega) (by omega) (by omega) had (Or.inr (Or.inr ⟨z, rfl⟩))
              rcases hlv with rfl | ⟨z, rfl⟩ | ⟨z, rfl⟩ <;>
              · simp only [sg_X9_dottedAddress_13 (m := m + 25), sg_X9_dottedAddress_13b (m := m + 25), sg_X9_dottedAddress_13c (m := m + 25), sg_X9_dottedAddress_73, sg_X9_dottedAddress_73b, mk_sh, mk_rf, mk_it, mk_lg, mk_cc, mk_ss, mk_si, mk_sl, mk_th, mq_u_s, ↓mq_b_d, mq_r_s, mq_a_s, mq_l_s, ck_mk, ck_ite, if_true, if_false, ite_true, ite_false, Nat.le_refl, and_self, and_true, true_and, or_true, true_or, or_false, false_or, eq_self, ck_none, Nat.reduceAdd, Nat.reduceLT, Nat.reduceLeDiff, Nat.reduceEqDiff, Nat.reduceSub, Nat.reduceMul, Int32.reduceLT, Int32.reduceLE, Int32.reduceOfNat, Int32.reduceToNatClampNeg, not_true_eq_false, not_false_eq_true, Nat.add_zero, cl_eq, clr_n, clr_v, clr_x, clr_ite, cr_eq, crr_n, crr_v, crr_ite, List.length_cons, List.length_nil, ct_0, ne_0_1, ne_0_2, ne_0_3, ne_0_4, ne_0_5, ne_0_6, ne_0_7, ne_0_8, ne_1_0, ne_1_2, ne_1_3, ne_1_4, ne_1_5, ne_1_6, ne_1_7, ne_1_8, ne_2_0, ne_2_1, ne_2_3, ne_2_4, ne_2_5, ne_2_6, ne_2_7, ne_2_8, ne_3_0, ne_3_1, ne_3_2, ne_3_4, ne_3_5, ne_3_6, ne_3_7, ne_3_8, ne_4_0, ne_4_1, ne_4_2, ne_4_3, ne_4_5, ne_4_6, ne_4_7, ne_4_8, ne_5_0, ne_5_1, ne_5_2, ne_5_3, ne_5_4, ne_5_6, ne_5_7, ne_5_8, ne_6_0, ne_6_1, ne_6_2, ne_6_3, ne_6_4, ne_6_5, ne_6_7, ne_6_8, ne_7_0, ne_7_1, ne_7_2, ne_7_3, ne_7_4, ne_7_5, ne_7_6, ne_7_8, ne_8_0, ne_8_1, ne_8_2, ne_8_3, ne_8_4, ne_8_5, ne_8_6, ne_8_7, hst.1, hst.2.1, hst.2.2, ht.2.1, Int32.ofNat_le_iff_le (show l.length < 2 ^ 31 by omega) b1, show ¬ l.length ≤ i by omega, in_of b1, i_tn b1, show i < 15 by omega, e3, i_le (show di < 2 ^ 31 by omega) (show 0 < 2 ^ 31 by decide), i_le' (show dt < 2 ^ 31 by omega) (show 3 < 2 ^ 31 by decide), i_le' (show di < 2 ^ 31 by omega) (show 3 < 2 ^ 31 by decide), cs_isDigit, b2i_0, i_suc, hne, h2, Bool.true_eq_false, show ¬ 3 ≤ di by omega, n10 h48.1, i_le (show nu * 10 + (cn - 48) < 2 ^ 31 by omega) (show 255 < 2 ^ 31 by decide), h4]
                exact ih9 _
            · rw [if_neg (fun q => h4 q.2.2)]
              rcases hlv with rfl | ⟨z, rfl⟩ | ⟨z, rfl⟩ <;>
              · simp only [sg_X9_dottedAddress_13 (m := m + 25), sg_X9_dottedAddress_13b (m := m + 25), sg_X9_dottedAddress_13c (m := m + 25), sg_X9_dottedAddress_73, sg_X9_dottedAddress_73b, mk_sh, mk_rf, mk_it, mk_lg, mk_cc, mk_ss, mk_si, mk_sl, mk_th, mq_u_s, ↓mq_b_d, mq_r_s, mq_a_s, mq_l_s, ck_mk, ck_ite, if_true, if_false, ite_true, ite_false, Nat.le_refl, and_self, and_true, true_and, or_true, true_or, or_false, false_or, eq_self, ck_none, Nat.reduceAdd, Nat.reduceLT, Nat.reduceLeDiff, Nat.reduceEqDiff, Nat.reduceSub, Nat.reduceMul, Int32.reduceLT, Int32.reduceLE, Int32.reduceOfNat, Int32.reduceToNatClampNeg, not_true_eq_false, not_false_eq_true, Nat.add_zero, cl_eq, clr_n, clr_v, clr_x, clr_ite, cr_eq, crr_n, crr_v, crr_ite, List.length_cons, List.length_nil, ct_0, ne_0_1, ne_0_2, ne_0_3, ne_0_4, ne_0_5, ne_0_6, ne_0_7, ne_0_8, ne_1_0, ne_1_2, ne_1_3, ne_1_4, ne_1_5, ne_1_6, ne_1_7, ne_1_8, ne_2_0, ne_2_1, ne_2_3, ne_2_4, ne_2_5, ne_2_6, ne_2_7, ne_2_8, ne_3_0, ne_3_1, ne_3_2, ne_3_4, ne_3_5, ne_3_6, ne_3_7, ne_3_8, ne_4_0, ne_4_1, ne_4_2, ne_4_3, ne_4_5, ne_4_6, ne_4_7, ne_4_8, ne_5_0, ne_5_1, ne_5_2, ne_5_3, ne_5_4, ne_5_6, ne_5_7, ne_5_8, ne_6_0, ne_6_1, ne_6_2, ne_6_3, ne_6_4, ne_6_5, ne_6_7, ne_6_8, ne_7_0, ne_7_1, ne_7_2, ne_7_3, ne_7_4, ne_7_5, ne_7_6, ne_7_8, ne_8_0, ne_8_1, ne_8_2, ne_8_3, ne_8_4, ne_8_5, ne_8_6, ne_8_7, hst.1, hst.2.1, hst.2.2, ht.2.1, Int32.ofNat_le_iff_le (show l.length < 2 ^ 31 by omega) b1, show ¬ l.length ≤ i by omega, in_of b1, i_tn b1, show i < 15 by omega, e3, i_le (show di < 2 ^ 31 by omega) (show 0 < 2 ^ 31 by decide), i_le' (show dt < 2 ^ 31 by omega) (show 3 < 2 ^ 31 by decide), i_le' (show di < 2 ^ 31 by omega) (show 3 < 2 ^ 31 by decide), cs_isDigit, b2i_0, i_suc, hne, h2, Bool.true_eq_false, show ¬ 3 ≤ di by omega, n10 h48.1, i_le (show nu * 10 + (cn - 48) < 2 ^ 31 by omega) (show 255 < 2 ^ 31 by decide), h4]
                rfl
          · rw [if_neg (fun q => h3 q.2.1)]
            rcases hlv with rfl | ⟨z, rfl⟩ | ⟨z, rfl⟩ <;>
            · simp only [sg_X9_dottedAddress_13 (m := m + 25), sg_X9_dottedAddress_13b (m := m + 25), sg_X9_dottedAddress_13c (m := m + 25), sg_X9_dottedAddress_73, sg_X9_dottedAddress_73b, mk_sh, mk_rf, mk_it, mk_lg, mk_cc, mk_ss, mk_si, mk_sl, mk_th, mq_u_s, ↓mq_b_d, mq_r_s, mq_a_s, mq_l_s, ck_mk, ck_ite, if_true, if_false, ite_true, ite_false, Nat.le_refl, and_self, and_true, true_and, or_true, true_or, or_false, false_or, eq_self, ck_none, Nat.reduceAdd, Nat.reduceLT, Nat.reduceLeDiff, Nat.reduceEqDiff, Nat.reduceSub, Nat.reduceMul, Int32.reduceLT, Int32.reduceLE, Int32.reduceOfNat, Int32.reduceToNatClampNeg, not_true_eq_false, not_false_eq_true, Nat.add_zero, cl_eq, clr_n, clr_v, clr_x, clr_ite, cr_eq, crr_n, crr_v, crr_ite, List.length_cons, List.length_nil, ct_0, ne_0_1, ne_0_2, ne_0_3, ne_0_4, ne_0_5, ne_0_6, ne_0_7, ne_0_8, ne_1_0, ne_1_2, ne_1_3, ne_1_4, ne_1_5, ne_1_6, ne_1_7, ne_1_8, ne_2_0, ne_2_1, ne_2_3, ne_2_4, ne_2_5, ne_2_6, ne_2_7, ne_2_8, ne_3_0, ne_3_1, ne_3_2, ne_3_4, ne_3_5, ne_3_6, ne_3_7, ne_3_8, ne_4_0, ne_4_1, ne_4_2, ne_4_3, ne_4_5, ne_4_6, ne_4_7, ne_4_8, ne_5_0, ne_5_1, ne_5_2, ne_5_3, ne_5_4, ne_5_6, ne_5_7, ne_5_8, ne_6_0, ne_6_1, ne_6_2, ne_6_3, ne_6_4, ne_6_5, ne_6_7, ne_6_8, ne_7_0, ne_7_1, ne_7_2, ne_7_3, ne_7_4, ne_7_5, ne_7_6, ne_7_8, ne_8_0, ne_8_1, ne_8_2, ne_8_3, ne_8_4, ne_8_5, ne_8_6, ne_8_7, hst.1, hst.2.1, hst.2.2, ht.2.1, Int32.ofNat_le_iff_le (show l.length < 2 ^ 31 by omega) b1, show ¬ l.length ≤ i by omega, in_of b1, i_tn b1, show i < 15 by omega, e3, i_le (show di < 2 ^ 31 by omega) (show 0 < 2 ^ 31 by decide), i_le' (show dt < 2 ^ 31 by omega) (show 3 < 2 ^ 31 by decide), i_le' (show di < 2 ^ 31 by omega) (show 3 < 2 ^ 31 by decide), cs_isDigit, b2i_0, i_suc, hne, h2, Bool.true_eq_false, show 3 ≤ di by omega]
              rfl
        · rw [if_neg (fun q => h2 q.1)]
          have h2 := Bool.eq_false_iff.mpr h2
          rcases hlv with rfl | ⟨z, rfl⟩ | ⟨z, rfl⟩ <;>
          · simp only [sg_X9_dottedAddress_13 (m := m + 25), sg_X9_dottedAddress_13b (m := m + 25), sg_X9_dottedAddress_13c (m := m + 25), sg_X9_dottedAddress_73, sg_X9_dottedAddress_73b, mk_sh, mk_rf, mk_it, mk_lg, mk_cc, mk_ss, mk_si, mk_sl, mk_th, mq_u_s, ↓mq_b_d, mq_r_s, mq_a_s, mq_l_s, ck_mk, ck_ite, if_true, if_false, ite_true, ite_false, Nat.le_refl, and_self, and_true, true_and, or_true, true_or, or_false, false_or, eq_self, ck_none, Nat.reduceAdd, Nat.reduceLT, Nat.reduceLeDiff, Nat.reduceEqDiff, Nat.reduceSub, Nat.reduceMul, Int32.reduceLT, Int32.reduceLE, Int32.reduceOfNat, Int32.reduceToNatClampNeg, not_true_eq_false, not_false_eq_true, Nat.add_zero, cl_eq, clr_n, clr_v, clr_x, clr_ite, cr_eq, crr_n, crr_v, crr_ite, List.length_cons, List.length_nil, ct_0, ne_0_1, ne_0_2, ne_0_3, ne_0_4, ne_0_5, ne_0_6, ne_0_7, ne_0_8, ne_1_0, ne_1_2, ne_1_3, ne_1_4, ne_1_5, ne_1_6, ne_1_7, ne_1_8, ne_2_0, ne_2_1, ne_2_3, ne_2_4, ne_2_5, ne_2_6, ne_2_7, ne_2_8, ne_3_0, ne_3_1, ne_3_2, ne_3_4, ne_3_5, ne_3_6, ne_3_7, ne_3_8, ne_4_0, ne_4_1, ne_4_2, ne_4_3, ne_4_5, ne_4_6, ne_4_7, ne_4_8, ne_5_0, ne_5_1, ne_5_2, ne_5_3, ne_5_4, ne_5_6, ne_5_7, ne_5_8, ne_6_0, ne_6_1, ne_6_2, ne_6_3, ne_6_4, ne_6_5, ne_6_7, ne_6_8, ne_7_0, ne_7_1, ne_7_2, ne_7_3, ne_7_4, ne_7_5, ne_7_6, ne_7_8, ne_8_0, ne_8_1, ne_8_2, ne_8_3, ne_8_4, ne_8_5, ne_8_6, ne_8_7, hst.1, hst.2.1, hst.2.2, ht.2.1, Int32.ofNat_le_iff_le (show l.length < 2 ^ 31 by omega) b1, show ¬ l.length ≤ i by omega, in_of b1, i_tn b1, show i < 15 by omega, e3, i_le (show di < 2 ^ 31 by omega) (show 0 < 2 ^ 31 by decide), i_le' (show dt < 2 ^ 31 by omega) (show 3 < 2 ^ 31 by decide), i_le' (show di < 2 ^ 31 by omega) (show 3 < 2 ^ 31 by decide), cs_isDigit, b2i_0, i_suc, hne, h2]
            rfl
theorem ct_dotted {t : Nat} {l : List Int32} (hst : TxS rf t) (ht : TxC it t l) (hc : ∀ v ∈ l, isC v) : mm_run md 9000 (d + 2) 68 [.ref t] (mk rf it lg cc ss) = some (.inl (some (.long (dres (dsp l 0 0 0 0)))), mk rf it lg cc ss) := by
  have hb : l.length ≤ 15 := ht.1
  have h := da_loop (d := d) (lg := lg) (cc := cc) (ss := ss) hst ht hc l.length 0 8990 0 0 0 0 _ (by omega) (by omega) (by omega) (by omega) (by omega) (by decide) (Or.inl rfl)
  rw [en_X9_dottedAddress]
  have h0 : Int32.ofNat 0 = 0 := rfl
  have h1 : Int64.ofNat 0 = 0 := rfl
  rw [h0, h1] at h
  simp only [sg_X9_dottedAddress_0, mk_sh, mk_rf, mk_it, mk_lg, mk_cc, mk_ss, mk_si, mk_sl, mk_th, mq_u_s, ↓mq_b_d, mq_r_s, mq_a_s, mq_l_s, ck_mk, ck_ite, if_true, if_false, ite_true, ite_false, Nat.le_refl, and_self, and_true, true_and, or_true, true_or, or_false, false_or, eq_self, ck_none, Nat.reduceAdd, Nat.reduceLT, Nat.reduceLeDiff, Nat.reduceEqDiff, Nat.reduceSub, Nat.reduceMul, Int32.reduceLT, Int32.reduceLE, Int32.reduceOfNat, Int32.reduceToNatClampNeg, not_true_eq_false, not_false_eq_true, Nat.add_zero, cl_eq, clr_n, clr_v, clr_x, clr_ite, cr_eq, crr_n, crr_v, crr_ite, List.length_cons, List.length_nil, ct_0, ne_0_1, ne_0_2, ne_0_3, ne_0_4, ne_0_5, ne_0_6, ne_0_7, ne_0_8, ne_1_0, ne_1_2, ne_1_3, ne_1_4, ne_1_5, ne_1_6, ne_1_7, ne_1_8, ne_2_0, ne_2_1, ne_2_3, ne_2_4, ne_2_5, ne_2_6, ne_2_7, ne_2_8, ne_3_0, ne_3_1, ne_3_2, ne_3_4, ne_3_5, ne_3_6, ne_3_7, ne_3_8, ne_4_0, ne_4_1, ne_4_2, ne_4_3, ne_4_5, ne_4_6, ne_4_7, ne_4_8, ne_5_0, ne_5_1, ne_5_2, ne_5_3, ne_5_4, ne_5_6, ne_5_7, ne_5_8, ne_6_0, ne_6_1, ne_6_2, ne_6_3, ne_6_4, ne_6_5, ne_6_7, ne_6_8, ne_7_0, ne_7_1, ne_7_2, ne_7_3, ne_7_4, ne_7_5, ne_7_6, ne_7_8, ne_8_0, ne_8_1, ne_8_2, ne_8_3, ne_8_4, ne_8_5, ne_8_6, ne_8_7, h, List.drop_zero]
end PU4
