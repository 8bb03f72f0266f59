section PU6
variable {rf : Nat → Nat → Option Nat} {it : Nat → Nat → Int32} {lg : Nat → Nat → Int64} {cc ss d : Nat}
theorem bv_mask (A B : BitVec 32) (s : Nat) : ((A ^^^ B) &&& (BitVec.allOnes 32 <<< s)) = 0#32 ↔ A >>> s = B >>> s := by
  constructor
  · intro h
    apply BitVec.eq_of_getLsbD_eq
    intro i hi
    rw [BitVec.getLsbD_ushiftRight, BitVec.getLsbD_ushiftRight]
    by_cases hs : s + i < 32
    · have h9 := congrArg (fun v => BitVec.getLsbD v (s + i)) h
      simp only [BitVec.getLsbD_and, BitVec.getLsbD_xor, BitVec.getLsbD_shiftLeft, BitVec.getLsbD_allOnes, BitVec.getLsbD_zero] at h9
      have e1 : decide (s + i < 32) = true := decide_eq_true hs
      have e2 : decide (s + i < s) = false := decide_eq_false (by omega)
      have e3 : decide (s + i - s < 32) = true := decide_eq_true (by omega)
      rw [e1, e2, e3] at h9
      cases hA : A.getLsbD (s + i) <;> cases hB : B.getLsbD (s + i) <;> simp [hA, hB] at h9 ⊢
    · rw [BitVec.getLsbD_of_ge _ _ (by omega), BitVec.getLsbD_of_ge _ _ (by omega)]
  · intro h
    apply BitVec.eq_of_getLsbD_eq
    intro i hi
    simp only [BitVec.getLsbD_and, BitVec.getLsbD_xor, BitVec.getLsbD_shiftLeft, BitVec.getLsbD_allOnes, BitVec.getLsbD_zero]
    by_cases hs : i < s
    · simp [hs]
    · have h9 := congrArg (fun v => BitVec.getLsbD v (i - s)) h
      simp only [BitVec.getLsbD_ushiftRight] at h9
      rw [show s + (i - s) = i by omega] at h9
      rw [h9]
      simp
def ushr (x y : Int32) : Int32 := (Int32.toUInt32 x >>> (Int32.toUInt32 y &&& Int32.toUInt32 31)).toInt32
def mtA (bt a b : Int32) : Bool := decide (bt = 0) || decide (ushr a (32 - bt) = ushr b (32 - bt))
def maskA (bt : Int32) : Int32 := if bt = 0 then 0 else (-1 : Int32) <<< (((32 : Int32) - bt) &&& 31)
theorem and31 {n : Nat} : Int32.ofNat n &&& 31 = Int32.ofNat (n % 32) := by
  apply Int32.toBitVec_inj.mp
  apply BitVec.eq_of_toNat_eq
  rw [Int32.toBitVec_and, BitVec.toNat_and]
  show n % 2 ^ 32 &&& 31 = n % 32 % 2 ^ 32
  rw [Nat.and_two_pow_sub_one_eq_mod _ 5]
  omega
theorem ushr_bv {s : Nat} (hs : s < 32) (x : Int32) : (ushr x (Int32.ofNat s)).toBitVec = x.toBitVec >>> s := by
  have e : ∀ s : Nat, s < 32 → (((Int32.ofNat s).toUInt32 &&& Int32.toUInt32 31).toBitVec % 32).toNat = s := by decide
  show x.toBitVec >>> ((((Int32.ofNat s).toUInt32 &&& Int32.toUInt32 31).toBitVec % 32).toNat) = _
  rw [e s hs]
theorem m1_bv : ∀ s : Nat, s < 32 → ((-1 : Int32) <<< (Int32.ofNat s &&& 31)).toBitVec = BitVec.allOnes 32 <<< s := by decide
theorem mask_ok {bt a b : Int32} (h0 : 0 ≤ bt) (h1 : bt ≤ 32) : ((a ^^^ b) &&& maskA bt = 0) ↔ mtA bt a b = true := by
  unfold maskA mtA
  by_cases hz : bt = 0
  · simp [hz]
  · obtain ⟨k, hk⟩ : ∃ k, bt = Int32.ofNat k ∧ k < 2 ^ 31 := ⟨_, i_nn h0, Int32.toNatClampNeg_lt bt⟩
    obtain ⟨rfl, hk9⟩ := hk
    have hk1 : k ≤ 32 := (i_le hk9 (by decide)).mp h1
    have hk0 : k ≠ 0 := fun q => hz (by rw [q]; rfl)
    have e1 : (32 : Int32) - Int32.ofNat k = Int32.ofNat (32 - k) := (Int32.ofNat_sub 32 k hk1).symm
    rw [if_neg hz, e1]
    simp only [hz, decide_false, Bool.false_or, decide_eq_true_eq]
    have hs : 32 - k < 32 := by omega
    generalize 32 - k = s at hs
    rw [← Int32.toBitVec_inj, ← Int32.toBitVec_inj, ushr_bv hs, ushr_bv hs, Int32.toBitVec_and, Int32.toBitVec_xor, m1_bv s hs]
    exact bv_mask _ _ s
/-- a rule: lets through, kind, address, bits, low, high, name -/
abbrev A_ru : Type := Bool × Int32 × Int32 × Int32 × Int32 × Int32 × List Int32
def meantA (q : A_ru) (a : Int32) (n : List Int32) (p : Int32) : Bool := decide (q.2.2.2.2.1 ≤ p) && (decide (p ≤ q.2.2.2.2.2.1) && (if q.2.1 = 0 then true else if q.2.1 = 1 then decide (n = []) && mtA q.2.2.2.1 a q.2.2.1 else !decide (n = []) && ends n q.2.2.2.2.2.2))
def allA : List A_ru → Int32 → List Int32 → Int32 → Bool
  | [], _, _, _ => false
  | q :: r, a, n, p => if meantA q a n p = true then q.1 else allA r a n p
def RuS (rf : Nat → Nat → Option Nat) (r : Nat) : Prop := SH[r]? = some (0, 8) ∧ rf r 0 = some (r + 1) ∧ TxS rf (r + 1)
def RuC (x : Nat → Nat → Int32) (r : Nat) (q : A_ru) : Prop := x r 1 = b2i q.1 ∧ x r 2 = q.2.1 ∧ (q.2.1 = 0 ∨ q.2.1 = 1 ∨ q.2.1 = 2) ∧ x r 5 = q.2.2.2.2.1 ∧ x r 6 = q.2.2.2.2.2.1 ∧ (q.2.1 = 1 → x r 3 = q.2.2.1 ∧ x r 4 = maskA q.2.2.2.1 ∧ 0 ≤ q.2.2.2.1 ∧ q.2.2.2.1 ≤ 32) ∧ (q.2.1 = 2 → TxC x (r + 1) q.2.2.2.2.2.2)
def GoC (x : Nat → Nat → Int32) (g : Nat) (a : Int32) (n : List Int32) (p : Int32) : Prop := x g 1 = a ∧ x g 2 = p ∧ TxC x (g + 1) n
theorem len0 {n : List Int32} (h : n.length ≤ 15) : (Int32.ofNat n.length ≤ 0) = (n = []) := by
  apply propext
  rw [i_le (by omega) (by decide), Nat.le_zero, List.length_eq_zero_iff]
theorem ct_meant {r g : Nat} {q : A_ru} {a p : Int32} {n : List Int32} (hr : RuS rf r) (hg : GoS rf g) (hq : RuC it r q) (hG : GoC it g a n p) : mm_run md 9000 (d + 2) 59 [.ref r, .ref g] (mk rf it lg cc ss) = some (.inl (some (.int (b2i (meantA q a n p)))), mk rf it lg cc ss) := by
  obtain ⟨ps, kd, ad, bt, lo, hi, nm⟩ := q
  obtain ⟨q1, q2, q3, q4, q5, q6, q7⟩ := hq
  dsimp only at q1 q2 q3 q4 q5 q6 q7
  obtain ⟨g1, g2, g3⟩ := hG
  obtain ⟨r1, r2, r3⟩ := hr
  obtain ⟨s1, s2, s3⟩ := hg
  have hb := g3.1
  rw [en_X8_isMeantFor]
  have hsw0 : mm_sw 0 101 [(0, 72), (1, 74)] = 72 := by decide
  have hsw1 : mm_sw 1 101 [(0, 72), (1, 74)] = 74 := by decide
  have hsw2 : mm_sw 2 101 [(0, 72), (1, 74)] = 101 := by decide
  by_cases c1 : lo ≤ p
  · by_cases c2 : p ≤ hi
    · by_cases c3 : n = []
      · rcases q3 with rfl | rfl | rfl
        · simp only [sg_X8_isMeantFor_0, sg_X8_isMeantFor_72, sg_X8_isMeantFor_74, sg_X8_isMeantFor_101, sg_X8_isMeantFor_116, mk_sh, mk_rf, mk_it, mk_lg, mk_cc, mk_ss, mk_si, mk_sl, mk_th, mq_u_s, ↓mq_b_d, mq_r_s, mq_a_s, mq_l_s, ck_mk, ck_ite, if_true, if_false, ite_true, ite_false, Nat.le_refl, and_self, and_true, true_and, or_true, true_or, or_false, false_or, eq_self, ck_none, Nat.reduceAdd, Nat.reduceLT, Nat.reduceLeDiff, Nat.reduceEqDiff, Nat.reduceSub, Nat.reduceMul, Int32.reduceLT, Int32.reduceLE, Int32.reduceOfNat, Int32.reduceToNatClampNeg, not_true_eq_false, not_false_eq_true, Nat.add_zero, cl_eq, clr_n, clr_v, clr_x, clr_ite, cr_eq, crr_n, crr_v, crr_ite, List.length_cons, List.length_nil, ct_0, ne_0_1, ne_0_2, ne_0_3, ne_0_4, ne_0_5, ne_0_6, ne_0_7, ne_0_8, ne_1_0, ne_1_2, ne_1_3, ne_1_4, ne_1_5, ne_1_6, ne_1_7, ne_1_8, ne_2_0, ne_2_1, ne_2_3, ne_2_4, ne_2_5, ne_2_6, ne_2_7, ne_2_8, ne_3_0, ne_3_1, ne_3_2, ne_3_4, ne_3_5, ne_3_6, ne_3_7, ne_3_8, ne_4_0, ne_4_1, ne_4_2, ne_4_3, ne_4_5, ne_4_6, ne_4_7, ne_4_8, ne_5_0, ne_5_1, ne_5_2, ne_5_3, ne_5_4, ne_5_6, ne_5_7, ne_5_8, ne_6_0, ne_6_1, ne_6_2, ne_6_3, ne_6_4, ne_6_5, ne_6_7, ne_6_8, ne_7_0, ne_7_1, ne_7_2, ne_7_3, ne_7_4, ne_7_5, ne_7_6, ne_7_8, ne_8_0, ne_8_1, ne_8_2, ne_8_3, ne_8_4, ne_8_5, ne_8_6, ne_8_7, r1, r2, s1, s2, s3.1, q2, q4, q5, g1, g2, g3.2.1, len0 hb, nle, c1, c2, c3, hsw0, meantA, decide_true, Bool.and_self, b2i]
        · obtain ⟨t1, t2, t3, t4⟩ := q6 rfl
          simp only [sg_X8_isMeantFor_0, sg_X8_isMeantFor_72, sg_X8_isMeantFor_74, sg_X8_isMeantFor_101, sg_X8_isMeantFor_116, mk_sh, mk_rf, mk_it, mk_lg, mk_cc, mk_ss, mk_si, mk_sl, mk_th, mq_u_s, ↓mq_b_d, mq_r_s, mq_a_s, mq_l_s, ck_mk, ck_ite, if_true, if_false, ite_true, ite_false, Nat.le_refl, and_self, and_true, true_and, or_true, true_or, or_false, false_or, eq_self, ck_none, Nat.reduceAdd, Nat.reduceLT, Nat.reduceLeDiff, Nat.reduceEqDiff, Nat.reduceSub, Nat.reduceMul, Int32.reduceLT, Int32.reduceLE, Int32.reduceOfNat, Int32.reduceToNatClampNeg, not_true_eq_false, not_false_eq_true, Nat.add_zero, cl_eq, clr_n, clr_v, clr_x, clr_ite, cr_eq, crr_n, crr_v, crr_ite, List.length_cons, List.length_nil, ct_0, ne_0_1, ne_0_2, ne_0_3, ne_0_4, ne_0_5, ne_0_6, ne_0_7, ne_0_8, ne_1_0, ne_1_2, ne_1_3, ne_1_4, ne_1_5, ne_1_6, ne_1_7, ne_1_8, ne_2_0, ne_2_1, ne_2_3, ne_2_4, ne_2_5, ne_2_6, ne_2_7, ne_2_8, ne_3_0, ne_3_1, ne_3_2, ne_3_4, ne_3_5, ne_3_6, ne_3_7, ne_3_8, ne_4_0, ne_4_1, ne_4_2, ne_4_3, ne_4_5, ne_4_6, ne_4_7, ne_4_8, ne_5_0, ne_5_1, ne_5_2, ne_5_3, ne_5_4, ne_5_6, ne_5_7, ne_5_8, ne_6_0, ne_6_1, ne_6_2, ne_6_3, ne_6_4, ne_6_5, ne_6_7, ne_6_8, ne_7_0, ne_7_1, ne_7_2, ne_7_3, ne_7_4, ne_7_5, ne_7_6, ne_7_8, ne_8_0, ne_8_1, ne_8_2, ne_8_3, ne_8_4, ne_8_5, ne_8_6, ne_8_7, r1, r2, s1, s2, s3.1, q2, q4, q5, g1, g2, g3.2.1, len0 hb, nle, c1, c2, c3, hsw1, t1, t2, mask_ok t3 t4, meantA, decide_true]
          cases mtA bt a ad <;> simp [b2i]
        · simp only [sg_X8_isMeantFor_0, sg_X8_isMeantFor_72, sg_X8_isMeantFor_74, sg_X8_isMeantFor_101, sg_X8_isMeantFor_116, mk_sh, mk_rf, mk_it, mk_lg, mk_cc, mk_ss, mk_si, mk_sl, mk_th, mq_u_s, ↓mq_b_d, mq_r_s, mq_a_s, mq_l_s, ck_mk, ck_ite, if_true, if_false, ite_true, ite_false, Nat.le_refl, and_self, and_true, true_and, or_true, true_or, or_false, false_or, eq_self, ck_none, Nat.reduceAdd, Nat.reduceLT, Nat.reduceLeDiff, Nat.reduceEqDiff, Nat.reduceSub, Nat.reduceMul, Int32.reduceLT, Int32.reduceLE, Int32.reduceOfNat, Int32.reduceToNatClampNeg, not_true_eq_false, not_false_eq_true, Nat.add_zero, cl_eq, clr_n, clr_v, clr_x, clr_ite, cr_eq, crr_n, crr_v, crr_ite, List.length_cons, List.length_nil, ct_0, ne_0_1, ne_0_2, ne_0_3, ne_0_4, ne_0_5, ne_0_6, ne_0_7, ne_0_8, ne_1_0, ne_1_2, ne_1_3, ne_1_4, ne_1_5, ne_1_6, ne_1_7, ne_1_8, ne_2_0, ne_2_1, ne_2_3, ne_2_4, ne_2_5, ne_2_6, ne_2_7, ne_2_8, ne_3_0, ne_3_1, ne_3_2, ne_3_4, ne_3_5, ne_3_6, ne_3_7, ne_3_8, ne_4_0, ne_4_1, ne_4_2, ne_4_3, ne_4_5, ne_4_6, ne_4_7, ne_4_8, ne_5_0, ne_5_1, ne_5_2, ne_5_3, ne_5_4, ne_5_6, ne_5_7, ne_5_8, ne_6_0, ne_6_1, ne_6_2, ne_6_3, ne_6_4, ne_6_5, ne_6_7, ne_6_8, ne_7_0, ne_7_1, ne_7_2, ne_7_3, ne_7_4, ne_7_5, ne_7_6, ne_7_8, ne_8_0, ne_8_1, ne_8_2, ne_8_3, ne_8_4, ne_8_5, ne_8_6, ne_8_7, r1, r2, s1, s2, s3.1, q2, q4, q5, g1, g2, g3.2.1, len0 hb, nle, c1, c2, c3, hsw2, meantA, decide_true]
          simp [b2i]
      · rcases q3 with rfl | rfl | rfl
        · simp only [sg_X8_isMeantFor_0, sg_X8_isMeantFor_72, sg_X8_isMeantFor_74, sg_X8_isMeantFor_101, sg_X8_isMeantFor_116, mk_sh, mk_rf, mk_it, mk_lg, mk_cc, mk_ss, mk_si, mk_sl, mk_th, mq_u_s, ↓mq_b_d, mq_r_s, mq_a_s, mq_l_s, ck_mk, ck_ite, if_true, if_false, ite_true, ite_false, Nat.le_refl, and_self, and_true, true_and, or_true, true_or, or_false, false_or, eq_self, ck_none, Nat.reduceAdd, Nat.reduceLT, Nat.reduceLeDiff, Nat.reduceEqDiff, Nat.reduceSub, Nat.reduceMul, Int32.reduceLT, Int32.reduceLE, Int32.reduceOfNat, Int32.reduceToNatClampNeg, not_true_eq_false, not_false_eq_true, Nat.add_zero, cl_eq, clr_n, clr_v, clr_x, clr_ite, cr_eq, crr_n, crr_v, crr_ite, List.length_cons, List.length_nil, ct_0, ne_0_1, ne_0_2, ne_0_3, ne_0_4, ne_0_5, ne_0_6, ne_0_7, ne_0_8, ne_1_0, ne_1_2, ne_1_3, ne_1_4, ne_1_5, ne_1_6, ne_1_7, ne_1_8, ne_2_0, ne_2_1, ne_2_3, ne_2_4, ne_2_5, ne_2_6, ne_2_7, ne_2_8, ne_3_0, ne_3_1, ne_3_2, ne_3_4, ne_3_5, ne_3_6, ne_3_7, ne_3_8, ne_4_0, ne_4_1, ne_4_2, ne_4_3, ne_4_5, ne_4_6, ne_4_7, ne_4_8, ne_5_0, ne_5_1, ne_5_2, ne_5_3, ne_5_4, ne_5_6, ne_5_7, ne_5_8, ne_6_0, ne_6_1, ne_6_2, ne_6_3, ne_6_4, ne_6_5, ne_6_7, ne_6_8, ne_7_0, ne_7_1, ne_7_2, ne_7_3, ne_7_4, ne_7_5, ne_7_6, ne_7_8, ne_8_0, ne_8_1, ne_8_2, ne_8_3, ne_8_4, ne_8_5, ne_8_6, ne_8_7, r1, r2, s1, s2, s3.1, q2, q4, q5, g1, g2, g3.2.1, len0 hb, nle, c1, c2, c3, hsw0, meantA, decide_true, Bool.and_self, b2i]
        · simp only [sg_X8_isMeantFor_0, sg_X8_isMeantFor_72, sg_X8_isMeantFor_74, sg_X8_isMeantFor_101, sg_X8_isMeantFor_116, mk_sh, mk_rf, mk_it, mk_lg, mk_cc, mk_ss, mk_si, mk_sl, mk_th, mq_u_s, ↓mq_b_d, mq_r_s, mq_a_s, mq_l_s, ck_mk, ck_ite, if_true, if_false, ite_true, ite_false, Nat.le_refl, and_self, and_true, true_and, or_true, true_or, or_false, false_or, eq_self, ck_none, Nat.reduceAdd, Nat.reduceLT, Nat.reduceLeDiff, Nat.reduceEqDiff, Nat.reduceSub, Nat.reduceMul, Int32.reduceLT, Int32.reduceLE, Int32.reduceOfNat, Int32.reduceToNatClampNeg, not_true_eq_false, not_false_eq_true, Nat.add_zero, cl_eq, clr_n, clr_v, clr_x, clr_ite, cr_eq, crr_n, crr_v, crr_ite, List.length_cons, List.length_nil, ct_0, ne_0_1, ne_0_2, ne_0_3, ne_0_4, ne_0_5, ne_0_6, ne_0_7, ne_0_8, ne_1_0, ne_1_2, ne_1_3, ne_1_4, ne_1_5, ne_1_6, ne_1_7, ne_1_8, ne_2_0, ne_2_1, ne_2_3, ne_2_4, ne_2_5, ne_2_6, ne_2_7, ne_2_8, ne_3_0, ne_3_1, ne_3_2, ne_3_4, ne_3_5, ne_3_6, ne_3_7, ne_3_8, ne_4_0, ne_4_1, ne_4_2, ne_4_3, ne_4_5, ne_4_6, ne_4_7, ne_4_8, ne_5_0, ne_5_1, ne_5_2, ne_5_3, ne_5_4, ne_5_6, ne_5_7, ne_5_8, ne_6_0, ne_6_1, ne_6_2, ne_6_3, ne_6_4, ne_6_5, ne_6_7, ne_6_8, ne_7_0, ne_7_1, ne_7_2, ne_7_3, ne_7_4, ne_7_5, ne_7_6, ne_7_8, ne_8_0, ne_8_1, ne_8_2, ne_8_3, ne_8_4, ne_8_5, ne_8_6, ne_8_7, r1, r2, s1, s2, s3.1, q2, q4, q5, g1, g2, g3.2.1, len0 hb, nle, c1, c2, c3, hsw1, meantA, decide_true]
          simp [b2i]
        · simp only [sg_X8_isMeantFor_0, sg_X8_isMeantFor_72, sg_X8_isMeantFor_74, sg_X8_isMeantFor_101, sg_X8_isMeantFor_116, mk_sh, mk_rf, mk_it, mk_lg, mk_cc, mk_ss, mk_si, mk_sl, mk_th, mq_u_s, ↓mq_b_d, mq_r_s, mq_a_s, mq_l_s, ck_mk, ck_ite, if_true, if_false, ite_true, ite_false, Nat.le_refl, and_self, and_true, true_and, or_true, true_or, or_false, false_or, eq_self, ck_none, Nat.reduceAdd, Nat.reduceLT, Nat.reduceLeDiff, Nat.reduceEqDiff, Nat.reduceSub, Nat.reduceMul, Int32.reduceLT, Int32.reduceLE, Int32.reduceOfNat, Int32.reduceToNatClampNeg, not_true_eq_false, not_false_eq_true, Nat.add_zero, cl_eq, clr_n, clr_v, clr_x, clr_ite, cr_eq, crr_n, crr_v, crr_ite, List.length_cons, List.length_nil, ct_0, ne_0_1, ne_0_2, ne_0_3, ne_0_4, ne_0_5, ne_0_6, ne_0_7, ne_0_8, ne_1_0, ne_1_2, ne_1_3, ne_1_4, ne_1_5, ne_1_6, ne_1_7, ne_1_8, ne_2_0, ne_2_1, ne_2_3, ne_2_4, ne_2_5, ne_2_6, ne_2_7, ne_2_8, ne_3_0, ne_3_1, ne_3_2, ne_3_4, ne_3_5, ne_3_6, ne_3_7, ne_3_8, ne_4_0, ne_4_1, ne_4_2, ne_4_3, ne_4_5, ne_4_6, ne_4_7, ne_4_8, ne_5_0, ne_5_1, ne_5_2, ne_5_3, ne_5_4, ne_5_6, ne_5_7, ne_5_8, ne_6_0, ne_6_1, ne_6_2, ne_6_3, ne_6_4, ne_6_5, ne_6_7, ne_6_8, ne_7_0, ne_7_1, ne_7_2, ne_7_3, ne_7_4, ne_7_5, ne_7_6, ne_7_8, ne_8_0, ne_8_1, ne_8_2, ne_8_3, ne_8_4, ne_8_5, ne_8_6, ne_8_7, r1, r2, s1, s2, s3.1, q2, q4, q5, g1, g2, g3.2.1, len0 hb, nle, c1, c2, c3, hsw2, ct_ends s3 r3 g3 (q7 rfl), b2i_0, meantA, decide_true]
          cases ends n nm <;> simp [b2i]
    · simp only [sg_X8_isMeantFor_0, sg_X8_isMeantFor_72, sg_X8_isMeantFor_74, sg_X8_isMeantFor_101, sg_X8_isMeantFor_116, mk_sh, mk_rf, mk_it, mk_lg, mk_cc, mk_ss, mk_si, mk_sl, mk_th, mq_u_s, ↓mq_b_d, mq_r_s, mq_a_s, mq_l_s, ck_mk, ck_ite, if_true, if_false, ite_true, ite_false, Nat.le_refl, and_self, and_true, true_and, or_true, true_or, or_false, false_or, eq_self, ck_none, Nat.reduceAdd, Nat.reduceLT, Nat.reduceLeDiff, Nat.reduceEqDiff, Nat.reduceSub, Nat.reduceMul, Int32.reduceLT, Int32.reduceLE, Int32.reduceOfNat, Int32.reduceToNatClampNeg, not_true_eq_false, not_false_eq_true, Nat.add_zero, cl_eq, clr_n, clr_v, clr_x, clr_ite, cr_eq, crr_n, crr_v, crr_ite, List.length_cons, List.length_nil, ct_0, ne_0_1, ne_0_2, ne_0_3, ne_0_4, ne_0_5, ne_0_6, ne_0_7, ne_0_8, ne_1_0, ne_1_2, ne_1_3, ne_1_4, ne_1_5, ne_1_6, ne_1_7, ne_1_8, ne_2_0, ne_2_1, ne_2_3, ne_2_4, ne_2_5, ne_2_6, ne_2_7, ne_2_8, ne_3_0, ne_3_1, ne_3_2, ne_3_4, ne_3_5, ne_3_6, ne_3_7, ne_3_8, ne_4_0, ne_4_1, ne_4_2, ne_4_3, ne_4_5, ne_4_6, ne_4_7, ne_4_8, ne_5_0, ne_5_1, ne_5_2, ne_5_3, ne_5_4, ne_5_6, ne_5_7, ne_5_8, ne_6_0, ne_6_1, ne_6_2, ne_6_3, ne_6_4, ne_6_5, ne_6_7, ne_6_8, ne_7_0, ne_7_1, ne_7_2, ne_7_3, ne_7_4, ne_7_5, ne_7_6, ne_7_8, ne_8_0, ne_8_1, ne_8_2, ne_8_3, ne_8_4, ne_8_5, ne_8_6, ne_8_7, r1, r2, s1, s2, s3.1, q2, q4, q5, g1, g2, g3.2.1, nle, c1, c2, meantA, decide_true]
      simp [b2i]
  · simp only [sg_X8_isMeantFor_0, sg_X8_isMeantFor_72, sg_X8_isMeantFor_74, sg_X8_isMeantFor_101, sg_X8_isMeantFor_116, mk_sh, mk_rf, mk_it, mk_lg, mk_cc, mk_ss, mk_si, mk_sl, mk_th, mq_u_s, ↓mq_b_d, mq_r_s, mq_a_s, mq_l_s, ck_mk, ck_ite, if_true, if_false, ite_true, ite_false, Nat.le_refl, and_self, and_true, true_and, or_true, true_or, or_false, false_or, eq_self, ck_none, Nat.reduceAdd, Nat.reduceLT, Nat.reduceLeDiff, Nat.reduceEqDiff, Nat.reduceSub, Nat.reduceMul, Int32.reduceLT, Int32.reduceLE, Int32.reduceOfNat, Int32.reduceToNatClampNeg, not_true_eq_false, not_false_eq_true, Nat.add_zero, cl_eq, clr_n, clr_v, clr_x, clr_ite, cr_eq, crr_n, crr_v, crr_ite, List.length_cons, List.length_nil, ct_0, ne_0_1, ne_0_2, ne_0_3, ne_0_4, ne_0_5, ne_0_6, ne_0_7, ne_0_8, ne_1_0, ne_1_2, ne_1_3, ne_1_4, ne_1_5, ne_1_6, ne_1_7, ne_1_8, ne_2_0, ne_2_1, ne_2_3, ne_2_4, ne_2_5, ne_2_6, ne_2_7, ne_2_8, ne_3_0, ne_3_1, ne_3_2, ne_3_4, ne_3_5, ne_3_6, ne_3_7, ne_3_8, ne_4_0, ne_4_1, ne_4_2, ne_4_3, ne_4_5, ne_4_6, ne_4_7, ne_4_8, ne_5_0, ne_5_1, ne_5_2, ne_5_3, ne_5_4, ne_5_6, ne_5_7, ne_5_8, ne_6_0, ne_6_1, ne_6_2, ne_6_3, ne_6_4, ne_6_5, ne_6_7, ne_6_8, ne_7_0, ne_7_1, ne_7_2, ne_7_3, ne_7_4, ne_7_5, ne_7_6, ne_7_8, ne_8_0, ne_8_1, ne_8_2, ne_8_3, ne_8_4, ne_8_5, ne_8_6, ne_8_7, r1, r2, s1, s2, s3.1, q2, q4, q5, g1, g2, g3.2.1, nle, c1, meantA]
    simp [b2i]
end PU6
