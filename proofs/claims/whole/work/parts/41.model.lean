section PV0
variable {rf : Nat → Nat → Option Nat} {it : Nat → Nat → Int32} {lg : Nat → Nat → Int64} {cc ss d : Nat}
theorem rm_0 (hR : RfOk rf) : rf 127 0 = some 128 := rf_of hR (by decide)
theorem rm_2 (hR : RfOk rf) : rf 127 2 = some 129 := rf_of hR (by decide)
theorem rm_5 (hR : RfOk rf) : rf 127 5 = some 130 := rf_of hR (by decide)
theorem rm_6 (hR : RfOk rf) : rf 127 6 = some 131 := rf_of hR (by decide)
theorem rm_7 (hR : RfOk rf) : rf 127 7 = some 132 := rf_of hR (by decide)
theorem rm_8 (hR : RfOk rf) : rf 127 8 = some 133 := rf_of hR (by decide)
theorem rm_9 (hR : RfOk rf) : rf 127 9 = some 134 := rf_of hR (by decide)
theorem rm_10 (hR : RfOk rf) : rf 127 10 = some 135 := rf_of hR (by decide)
theorem rm_11 (hR : RfOk rf) : rf 127 11 = some 136 := rf_of hR (by decide)
theorem rm_12 (hR : RfOk rf) : rf 127 12 = some 137 := rf_of hR (by decide)
theorem rm_14 (hR : RfOk rf) : rf 127 14 = some 138 := rf_of hR (by decide)
theorem rm_15 (hR : RfOk rf) : rf 127 15 = some 139 := rf_of hR (by decide)
theorem rm_16 (hR : RfOk rf) : rf 127 16 = some 140 := rf_of hR (by decide)
theorem rm_17 (hR : RfOk rf) : rf 127 17 = some 141 := rf_of hR (by decide)
theorem rm_18 (hR : RfOk rf) : rf 127 18 = some 142 := rf_of hR (by decide)
theorem rm_19 (hR : RfOk rf) : rf 127 19 = some 143 := rf_of hR (by decide)
theorem rm_20 (hR : RfOk rf) : rf 127 20 = some 144 := rf_of hR (by decide)
theorem rm_21 (hR : RfOk rf) : rf 127 21 = some 145 := rf_of hR (by decide)
theorem rm_22 (hR : RfOk rf) : rf 127 22 = some 146 := rf_of hR (by decide)
theorem rm_23 (hR : RfOk rf) : rf 127 23 = some 147 := rf_of hR (by decide)
theorem rm_24 (hR : RfOk rf) : rf 127 24 = some 148 := rf_of hR (by decide)
theorem rm_25 (hR : RfOk rf) : rf 127 25 = some 149 := rf_of hR (by decide)
theorem rm_26 (hR : RfOk rf) : rf 127 26 = some 150 := rf_of hR (by decide)
theorem rm_27 (hR : RfOk rf) : rf 127 27 = some 151 := rf_of hR (by decide)
theorem rm_28 (hR : RfOk rf) : rf 127 28 = some 152 := rf_of hR (by decide)
theorem rm_29 (hR : RfOk rf) : rf 127 29 = some 153 := rf_of hR (by decide)
theorem rm_30 (hR : RfOk rf) : rf 127 30 = some 154 := rf_of hR (by decide)
theorem rm_31 (hR : RfOk rf) : rf 127 31 = some 155 := rf_of hR (by decide)
theorem rm_32 (hR : RfOk rf) : rf 127 32 = some 156 := rf_of hR (by decide)
theorem rm_33 (hR : RfOk rf) : rf 127 33 = some 157 := rf_of hR (by decide)
theorem rm_34 (hR : RfOk rf) : rf 127 34 = some 158 := rf_of hR (by decide)
theorem rm_35 (hR : RfOk rf) : rf 127 35 = some 159 := rf_of hR (by decide)
theorem rm_36 (hR : RfOk rf) : rf 127 36 = some 160 := rf_of hR (by decide)
theorem sm_127 : SH[127]? = some (0, 11) := rfl
theorem sm_128 : SH[128]? = some (1, 8) := rfl
theorem sm_129 : SH[129]? = some (1, 15) := rfl
theorem sm_130 : SH[130]? = some (2, 8) := rfl
theorem sm_131 : SH[131]? = some (1, 8) := rfl
theorem sm_132 : SH[132]? = some (1, 8) := rfl
theorem sm_133 : SH[133]? = some (1, 8) := rfl
theorem sm_134 : SH[134]? = some (1, 8) := rfl
theorem sm_135 : SH[135]? = some (1, 8) := rfl
theorem sm_136 : SH[136]? = some (1, 8) := rfl
theorem sm_137 : SH[137]? = some (1, 120) := rfl
theorem sm_138 : SH[138]? = some (1, 3) := rfl
theorem sm_139 : SH[139]? = some (1, 3) := rfl
theorem sm_140 : SH[140]? = some (1, 36) := rfl
theorem sm_141 : SH[141]? = some (1, 4) := rfl
theorem sm_142 : SH[142]? = some (1, 4) := rfl
theorem sm_143 : SH[143]? = some (1, 4) := rfl
theorem sm_144 : SH[144]? = some (1, 4) := rfl
theorem sm_145 : SH[145]? = some (1, 4) := rfl
theorem sm_146 : SH[146]? = some (2, 4) := rfl
theorem sm_147 : SH[147]? = some (2, 4) := rfl
theorem sm_148 : SH[148]? = some (1, 4) := rfl
theorem sm_149 : SH[149]? = some (1, 4) := rfl
theorem sm_150 : SH[150]? = some (1, 4) := rfl
theorem sm_151 : SH[151]? = some (1, 4) := rfl
theorem sm_152 : SH[152]? = some (2, 4) := rfl
theorem sm_153 : SH[153]? = some (1, 4) := rfl
theorem sm_154 : SH[154]? = some (1, 4) := rfl
theorem sm_155 : SH[155]? = some (1, 80) := rfl
theorem sm_156 : SH[156]? = some (1, 4) := rfl
theorem sm_157 : SH[157]? = some (1, 4) := rfl
theorem sm_158 : SH[158]? = some (1, 4) := rfl
theorem sm_159 : SH[159]? = some (1, 8) := rfl
theorem sm_160 : SH[160]? = some (1, 128) := rfl
theorem sm_161 : SH[161]? = some (4, 1) := rfl
theorem i_ma {c i k : Nat} : (OfNat.ofNat c : Int32) * Int32.ofNat i + Int32.ofNat k = Int32.ofNat (c * i + k) := by
  rw [Int32.ofNat_add, Int32.ofNat_mul]
  rfl
theorem i_mu {c i : Nat} : (OfNat.ofNat c : Int32) * Int32.ofNat i = Int32.ofNat (c * i) := by
  rw [Int32.ofNat_mul]
  rfl
def RuM (y : Nat → Nat → Int32) (i : Nat) (q : A_ru) : Prop := y 130 i = b2i q.1 ∧ y 131 i = q.2.1 ∧ (q.2.1 = 0 ∨ q.2.1 = 1 ∨ q.2.1 = 2) ∧ y 134 i = q.2.2.2.2.1 ∧ y 135 i = q.2.2.2.2.2.1 ∧ (q.2.1 = 1 → y 132 i = q.2.2.1 ∧ y 133 i = q.2.2.2.1) ∧ (q.2.1 = 2 → q.2.2.2.2.2.2.length ≤ 15 ∧ y 136 i = Int32.ofNat q.2.2.2.2.2.2.length ∧ ∀ j, j < q.2.2.2.2.2.2.length → y 137 (15 * i + j) = q.2.2.2.2.2.2.getD j 0)
def AcM (y : Nat → Nat → Int32) (i : Nat) (q : A_ac) : Prop := (q.1.length ≤ 6 ∧ q.2.length ≤ 6) ∧ y 138 i = Int32.ofNat q.1.length ∧ y 139 i = Int32.ofNat q.2.length ∧ (∀ j, j < q.1.length → y 140 (12 * i + j) = q.1.getD j 0) ∧ ∀ j, j < q.2.length → y 140 (12 * i + 6 + j) = q.2.getD j 0
/-- pad, rules, accounts of the reference -/
def PdM (y : Nat → Nat → Int32) (pad : List Int32) : Prop := pad.length ≤ 15 ∧ y 127 3 = Int32.ofNat pad.length ∧ ∀ j, j < pad.length → y 129 j = pad.getD j 0
def RsM (y : Nat → Nat → Int32) (rs : List A_ru) : Prop := rs.length ≤ 8 ∧ y 127 4 = Int32.ofNat rs.length ∧ ∀ i, i < rs.length → RuM y i (rs.getD i A_r0)
def AsM (y : Nat → Nat → Int32) (as : List A_ac) : Prop := as.length ≤ 3 ∧ y 127 13 = Int32.ofNat as.length ∧ ∀ i, i < as.length → AcM y i (as.getD i ([], []))
def DkM (y : Nat → Nat → Int32) (pad : List Int32) (rs : List A_ru) (as : List A_ac) : Prop := PdM y pad ∧ RsM y rs ∧ AsM y as
theorem PdM.row {x y : Nat → Nat → Int32} {pad : List Int32} (h : PdM x pad) (h1 : y 127 3 = x 127 3) (h2 : y 129 = x 129) : PdM y pad := by
  unfold PdM
  rw [h1, h2]
  exact h
theorem RsM.row {x y : Nat → Nat → Int32} {rs : List A_ru} (h : RsM x rs) (h1 : y 127 4 = x 127 4) (h2 : ∀ a, 130 ≤ a → a ≤ 137 → y a = x a) : RsM y rs := by
  unfold RsM RuM
  rw [h1, h2 130 (by decide) (by decide), h2 131 (by decide) (by decide), h2 132 (by decide) (by decide), h2 133 (by decide) (by decide), h2 134 (by decide) (by decide), h2 135 (by decide) (by decide), h2 136 (by decide) (by decide), h2 137 (by decide) (by decide)]
  exact h
theorem AsM.row {x y : Nat → Nat → Int32} {as : List A_ac} (h : AsM x as) (h1 : y 127 13 = x 127 13) (h2 : ∀ a, 138 ≤ a → a ≤ 140 → y a = x a) : AsM y as := by
  unfold AsM AcM
  rw [h1, h2 138 (by decide) (by decide), h2 139 (by decide) (by decide), h2 140 (by decide) (by decide)]
  exact h
theorem DkM.row {x y : Nat → Nat → Int32} {pad : List Int32} {rs : List A_ru} {as : List A_ac} (h : DkM x pad rs as) (h1 : ∀ k, k ≠ 1 → y 127 k = x 127 k) (h2 : ∀ a, 129 ≤ a → a ≤ 140 → y a = x a) : DkM y pad rs as := ⟨h.1.row (h1 3 (by decide)) (h2 _ (by decide) (by decide)), h.2.1.row (h1 4 (by decide)) (fun a p q => h2 a (by omega) (by omega)), h.2.2.row (h1 13 (by decide)) (fun a p q => h2 a (by omega) (by omega))⟩
theorem ms_in {v lo hi : Int32} {u : mm_M} : mm_run md 9000 (d + 1) 98 [.int v, .int lo, .int hi] u = some (.inl (some (.int (b2i (decide (lo ≤ v) && decide (v ≤ hi))))), u) := by
  rw [en_X11_in]
  simp only [sg_X11_in_0, mk_sh, mk_rf, mk_it, mk_lg, mk_cc, mk_ss, mk_si, mk_sl, mk_th, mq_u_s, ↓mq_b_d, mq_r_s, mq_a_s, mq_l_s, ck_mk, ck_ite, if_true, if_false, ite_true, ite_false, Nat.le_refl, and_self, and_true, true_and, or_true, true_or, or_false, false_or, eq_self, ck_none, Nat.reduceAdd, Nat.reduceLT, Nat.reduceLeDiff, Nat.reduceEqDiff, Nat.reduceSub, Nat.reduceMul, Int32.reduceLT, Int32.reduceLE, Int32.reduceOfNat, Int32.reduceToNatClampNeg, not_true_eq_false, not_false_eq_true, Nat.add_zero, cl_eq, clr_n, clr_v, clr_x, clr_ite, cr_eq, crr_n, crr_v, crr_ite, List.length_cons, List.length_nil, ct_0, ne_0_1, ne_0_2, ne_0_3, ne_0_4, ne_0_5, ne_0_6, ne_0_7, ne_0_8, ne_1_0, ne_1_2, ne_1_3, ne_1_4, ne_1_5, ne_1_6, ne_1_7, ne_1_8, ne_2_0, ne_2_1, ne_2_3, ne_2_4, ne_2_5, ne_2_6, ne_2_7, ne_2_8, ne_3_0, ne_3_1, ne_3_2, ne_3_4, ne_3_5, ne_3_6, ne_3_7, ne_3_8, ne_4_0, ne_4_1, ne_4_2, ne_4_3, ne_4_5, ne_4_6, ne_4_7, ne_4_8, ne_5_0, ne_5_1, ne_5_2, ne_5_3, ne_5_4, ne_5_6, ne_5_7, ne_5_8, ne_6_0, ne_6_1, ne_6_2, ne_6_3, ne_6_4, ne_6_5, ne_6_7, ne_6_8, ne_7_0, ne_7_1, ne_7_2, ne_7_3, ne_7_4, ne_7_5, ne_7_6, ne_7_8, ne_8_0, ne_8_1, ne_8_2, ne_8_3, ne_8_4, ne_8_5, ne_8_6, ne_8_7, ck_u, nle]
  by_cases h1 : lo ≤ v <;> by_cases h2 : v ≤ hi <;> simp [h1, h2, b2i]
theorem ms_isDigit {v : Int32} {u : mm_M} : mm_run md 9000 (d + 2) 99 [.int v] u = some (.inl (some (.int (b2i (isDg v)))), u) := by
  rw [en_X11_isDigit]
  simp only [sg_X11_isDigit_0, sg_X11_isDigit_8, mk_sh, mk_rf, mk_it, mk_lg, mk_cc, mk_ss, mk_si, mk_sl, mk_th, mq_u_s, ↓mq_b_d, mq_r_s, mq_a_s, mq_l_s, ck_mk, ck_ite, if_true, if_false, ite_true, ite_false, Nat.le_refl, and_self, and_true, true_and, or_true, true_or, or_false, false_or, eq_self, ck_none, Nat.reduceAdd, Nat.reduceLT, Nat.reduceLeDiff, Nat.reduceEqDiff, Nat.reduceSub, Nat.reduceMul, Int32.reduceLT, Int32.reduceLE, Int32.reduceOfNat, Int32.reduceToNatClampNeg, not_true_eq_false, not_false_eq_true, Nat.add_zero, cl_eq, clr_n, clr_v, clr_x, clr_ite, cr_eq, crr_n, crr_v, crr_ite, List.length_cons, List.length_nil, ct_0, ne_0_1, ne_0_2, ne_0_3, ne_0_4, ne_0_5, ne_0_6, ne_0_7, ne_0_8, ne_1_0, ne_1_2, ne_1_3, ne_1_4, ne_1_5, ne_1_6, ne_1_7, ne_1_8, ne_2_0, ne_2_1, ne_2_3, ne_2_4, ne_2_5, ne_2_6, ne_2_7, ne_2_8, ne_3_0, ne_3_1, ne_3_2, ne_3_4, ne_3_5, ne_3_6, ne_3_7, ne_3_8, ne_4_0, ne_4_1, ne_4_2, ne_4_3, ne_4_5, ne_4_6, ne_4_7, ne_4_8, ne_5_0, ne_5_1, ne_5_2, ne_5_3, ne_5_4, ne_5_6, ne_5_7, ne_5_8, ne_6_0, ne_6_1, ne_6_2, ne_6_3, ne_6_4, ne_6_5, ne_6_7, ne_6_8, ne_7_0, ne_7_1, ne_7_2, ne_7_3, ne_7_4, ne_7_5, ne_7_6, ne_7_8, ne_8_0, ne_8_1, ne_8_2, ne_8_3, ne_8_4, ne_8_5, ne_8_6, ne_8_7, ck_u, ms_in, b2i_z, isDg]
theorem ms_isNm {v : Int32} {u : mm_M} : mm_run md 9000 (d + 3) 100 [.int v] u = some (.inl (some (.int (b2i (isNm v)))), u) := by
  rw [en_X11_isNameCharacter]
  simp only [sg_X11_isNameCharacter_0, sg_X11_isNameCharacter_8, sg_X11_isNameCharacter_15, mk_sh, mk_rf, mk_it, mk_lg, mk_cc, mk_ss, mk_si, mk_sl, mk_th, mq_u_s, ↓mq_b_d, mq_r_s, mq_a_s, mq_l_s, ck_mk, ck_ite, if_true, if_false, ite_true, ite_false, Nat.le_refl, and_self, and_true, true_and, or_true, true_or, or_false, false_or, eq_self, ck_none, Nat.reduceAdd, Nat.reduceLT, Nat.reduceLeDiff, Nat.reduceEqDiff, Nat.reduceSub, Nat.reduceMul, Int32.reduceLT, Int32.reduceLE, Int32.reduceOfNat, Int32.reduceToNatClampNeg, not_true_eq_false, not_false_eq_true, Nat.add_zero, cl_eq, clr_n, clr_v, clr_x, clr_ite, cr_eq, crr_n, crr_v, crr_ite, List.length_cons, List.length_nil, ct_0, ne_0_1, ne_0_2, ne_0_3, ne_0_4, ne_0_5, ne_0_6, ne_0_7, ne_0_8, ne_1_0, ne_1_2, ne_1_3, ne_1_4, ne_1_5, ne_1_6, ne_1_7, ne_1_8, ne_2_0, ne_2_1, ne_2_3, ne_2_4, ne_2_5, ne_2_6, ne_2_7, ne_2_8, ne_3_0, ne_3_1, ne_3_2, ne_3_4, ne_3_5, ne_3_6, ne_3_7, ne_3_8, ne_4_0, ne_4_1, ne_4_2, ne_4_3, ne_4_5, ne_4_6, ne_4_7, ne_4_8, ne_5_0, ne_5_1, ne_5_2, ne_5_3, ne_5_4, ne_5_6, ne_5_7, ne_5_8, ne_6_0, ne_6_1, ne_6_2, ne_6_3, ne_6_4, ne_6_5, ne_6_7, ne_6_8, ne_7_0, ne_7_1, ne_7_2, ne_7_3, ne_7_4, ne_7_5, ne_7_6, ne_7_8, ne_8_0, ne_8_1, ne_8_2, ne_8_3, ne_8_4, ne_8_5, ne_8_6, ne_8_7, ck_u, ms_in, ms_isDigit, b2i_0]
  by_cases h1 : 97 ≤ v <;> by_cases h2 : v ≤ 122 <;> cases h3 : isDg v <;> by_cases h4 : v = 46 <;> by_cases h5 : v = 45 <;> simp [h1, h2, h3, h4, h5, isNm, b2i, ck_u]
theorem ms_isRange {lo hi : Int32} {u : mm_M} : mm_run md 9000 (d + 1) 102 [.int lo, .int hi] u = some (.inl (some (.int (b2i (ptsA lo hi)))), u) := by
  rw [en_X11_isRange]
  simp only [sg_X11_isRange_0, mk_sh, mk_rf, mk_it, mk_lg, mk_cc, mk_ss, mk_si, mk_sl, mk_th, mq_u_s, ↓mq_b_d, mq_r_s, mq_a_s, mq_l_s, ck_mk, ck_ite, if_true, if_false, ite_true, ite_false, Nat.le_refl, and_self, and_true, true_and, or_true, true_or, or_false, false_or, eq_self, ck_none, Nat.reduceAdd, Nat.reduceLT, Nat.reduceLeDiff, Nat.reduceEqDiff, Nat.reduceSub, Nat.reduceMul, Int32.reduceLT, Int32.reduceLE, Int32.reduceOfNat, Int32.reduceToNatClampNeg, not_true_eq_false, not_false_eq_true, Nat.add_zero, cl_eq, clr_n, clr_v, clr_x, clr_ite, cr_eq, crr_n, crr_v, crr_ite, List.length_cons, List.length_nil, ct_0, ne_0_1, ne_0_2, ne_0_3, ne_0_4, ne_0_5, ne_0_6, ne_0_7, ne_0_8, ne_1_0, ne_1_2, ne_1_3, ne_1_4, ne_1_5, ne_1_6, ne_1_7, ne_1_8, ne_2_0, ne_2_1, ne_2_3, ne_2_4, ne_2_5, ne_2_6, ne_2_7, ne_2_8, ne_3_0, ne_3_1, ne_3_2, ne_3_4, ne_3_5, ne_3_6, ne_3_7, ne_3_8, ne_4_0, ne_4_1, ne_4_2, ne_4_3, ne_4_5, ne_4_6, ne_4_7, ne_4_8, ne_5_0, ne_5_1, ne_5_2, ne_5_3, ne_5_4, ne_5_6, ne_5_7, ne_5_8, ne_6_0, ne_6_1, ne_6_2, ne_6_3, ne_6_4, ne_6_5, ne_6_7, ne_6_8, ne_7_0, ne_7_1, ne_7_2, ne_7_3, ne_7_4, ne_7_5, ne_7_6, ne_7_8, ne_8_0, ne_8_1, ne_8_2, ne_8_3, ne_8_4, ne_8_5, ne_8_6, ne_8_7, ck_u, nle]
  by_cases h1 : 0 ≤ lo <;> by_cases h2 : lo ≤ hi <;> by_cases h3 : hi ≤ 65535 <;> simp [h1, h2, h3, b2i, ptsA]
theorem mt_refuse {v : Int32} : mm_run md 9000 (d + 1) 97 [.ref 127, .int v] (mk rf it lg cc ss) = some (.inl (some (.int 0)), mk rf (mm_u2 it 127 1 v) lg cc ss) := by
  rw [en_X11_refuse]
  simp only [sg_X11_refuse_0, mk_sh, mk_rf, mk_it, mk_lg, mk_cc, mk_ss, mk_si, mk_sl, mk_th, mq_u_s, ↓mq_b_d, mq_r_s, mq_a_s, mq_l_s, ck_mk, ck_ite, if_true, if_false, ite_true, ite_false, Nat.le_refl, and_self, and_true, true_and, or_true, true_or, or_false, false_or, eq_self, ck_none, Nat.reduceAdd, Nat.reduceLT, Nat.reduceLeDiff, Nat.reduceEqDiff, Nat.reduceSub, Nat.reduceMul, Int32.reduceLT, Int32.reduceLE, Int32.reduceOfNat, Int32.reduceToNatClampNeg, not_true_eq_false, not_false_eq_true, Nat.add_zero, cl_eq, clr_n, clr_v, clr_x, clr_ite, cr_eq, crr_n, crr_v, crr_ite, List.length_cons, List.length_nil, ct_0, ne_0_1, ne_0_2, ne_0_3, ne_0_4, ne_0_5, ne_0_6, ne_0_7, ne_0_8, ne_1_0, ne_1_2, ne_1_3, ne_1_4, ne_1_5, ne_1_6, ne_1_7, ne_1_8, ne_2_0, ne_2_1, ne_2_3, ne_2_4, ne_2_5, ne_2_6, ne_2_7, ne_2_8, ne_3_0, ne_3_1, ne_3_2, ne_3_4, ne_3_5, ne_3_6, ne_3_7, ne_3_8, ne_4_0, ne_4_1, ne_4_2, ne_4_3, ne_4_5, ne_4_6, ne_4_7, ne_4_8, ne_5_0, ne_5_1, ne_5_2, ne_5_3, ne_5_4, ne_5_6, ne_5_7, ne_5_8, ne_6_0, ne_6_1, ne_6_2, ne_6_3, ne_6_4, ne_6_5, ne_6_7, ne_6_8, ne_7_0, ne_7_1, ne_7_2, ne_7_3, ne_7_4, ne_7_5, ne_7_6, ne_7_8, ne_8_0, ne_8_1, ne_8_2, ne_8_3, ne_8_4, ne_8_5, ne_8_6, ne_8_7, sm_127]
theorem mt_thrown : mm_run md 9000 (d + 1) 96 [.ref 127] (mk rf it lg cc ss) = some (.inl (some (.int (it 127 1))), mk rf it lg cc ss) := by
  rw [en_X11_thrown]
  simp only [sg_X11_thrown_0, mk_sh, mk_rf, mk_it, mk_lg, mk_cc, mk_ss, mk_si, mk_sl, mk_th, mq_u_s, ↓mq_b_d, mq_r_s, mq_a_s, mq_l_s, ck_mk, ck_ite, if_true, if_false, ite_true, ite_false, Nat.le_refl, and_self, and_true, true_and, or_true, true_or, or_false, false_or, eq_self, ck_none, Nat.reduceAdd, Nat.reduceLT, Nat.reduceLeDiff, Nat.reduceEqDiff, Nat.reduceSub, Nat.reduceMul, Int32.reduceLT, Int32.reduceLE, Int32.reduceOfNat, Int32.reduceToNatClampNeg, not_true_eq_false, not_false_eq_true, Nat.add_zero, cl_eq, clr_n, clr_v, clr_x, clr_ite, cr_eq, crr_n, crr_v, crr_ite, List.length_cons, List.length_nil, ct_0, ne_0_1, ne_0_2, ne_0_3, ne_0_4, ne_0_5, ne_0_6, ne_0_7, ne_0_8, ne_1_0, ne_1_2, ne_1_3, ne_1_4, ne_1_5, ne_1_6, ne_1_7, ne_1_8, ne_2_0, ne_2_1, ne_2_3, ne_2_4, ne_2_5, ne_2_6, ne_2_7, ne_2_8, ne_3_0, ne_3_1, ne_3_2, ne_3_4, ne_3_5, ne_3_6, ne_3_7, ne_3_8, ne_4_0, ne_4_1, ne_4_2, ne_4_3, ne_4_5, ne_4_6, ne_4_7, ne_4_8, ne_5_0, ne_5_1, ne_5_2, ne_5_3, ne_5_4, ne_5_6, ne_5_7, ne_5_8, ne_6_0, ne_6_1, ne_6_2, ne_6_3, ne_6_4, ne_6_5, ne_6_7, ne_6_8, ne_7_0, ne_7_1, ne_7_2, ne_7_3, ne_7_4, ne_7_5, ne_7_6, ne_7_8, ne_8_0, ne_8_1, ne_8_2, ne_8_3, ne_8_4, ne_8_5, ne_8_6, ne_8_7, sm_127]
theorem nar_b {b : Bool} : vp_nar .boolean (b2i b) = b2i b := by cases b <;> decide
/-- a refusal keeps all else -/
theorem DkM.thr {pad : List Int32} {rs : List A_ru} {as : List A_ac} {v : Int32} (h : DkM it pad rs as) : DkM (mm_u2 it 127 1 v) pad rs as := h.row (fun k hk => u2_nk hk) (fun a p q => u2_row (by omega))
theorem md_type {pad : List Int32} {rs : List A_ru} {as : List A_ac} {c : Int32} (hR : RfOk rf) (hD : DkM it pad rs as) : ∃ it9, mm_run md 9000 (d + 4) 101 [.ref 127, .int c] (mk rf it lg cc ss) = some (.inl (some (.int (b2i (isNm c && decide (pad.length < 15))))), mk rf it9 lg cc ss) ∧ DkM it9 (if (isNm c && decide (pad.length < 15)) = true then pad ++ [c] else pad) rs as ∧ it9 127 1 = 0 ∧ ∀ a, a < 127 ∨ a = 128 ∨ 141 ≤ a → it9 a = it a := by
  have hb := hD.1.1
  have hc : mm_u2 it 127 1 0 127 3 = Int32.ofNat pad.length := by rw [u2_nk (by decide)]; exact hD.1.2.1
  rw [en_X11_type]
  cases hn : isNm c with
  | false =>
    refine ⟨mm_u2 it 127 1 0, ?_, by simpa using hD.thr, u2_at, fun a ha => u2_row (by omega)⟩
    simp only [sg_X11_type_0, sg_X11_type_9, mk_sh, mk_rf, mk_it, mk_lg, mk_cc, mk_ss, mk_si, mk_sl, mk_th, mq_u_s, ↓mq_b_d, mq_r_s, mq_a_s, mq_l_s, ck_mk, ck_ite, if_true, if_false, ite_true, ite_false, Nat.le_refl, and_self, and_true, true_and, or_true, true_or, or_false, false_or, eq_self, ck_none, Nat.reduceAdd, Nat.reduceLT, Nat.reduceLeDiff, Nat.reduceEqDiff, Nat.reduceSub, Nat.reduceMul, Int32.reduceLT, Int32.reduceLE, Int32.reduceOfNat, Int32.reduceToNatClampNeg, not_true_eq_false, not_false_eq_true, Nat.add_zero, cl_eq, clr_n, clr_v, clr_x, clr_ite, cr_eq, crr_n, crr_v, crr_ite, List.length_cons, List.length_nil, ct_0, ne_0_1, ne_0_2, ne_0_3, ne_0_4, ne_0_5, ne_0_6, ne_0_7, ne_0_8, ne_1_0, ne_1_2, ne_1_3, ne_1_4, ne_1_5, ne_1_6, ne_1_7, ne_1_8, ne_2_0, ne_2_1, ne_2_3, ne_2_4, ne_2_5, ne_2_6, ne_2_7, ne_2_8, ne_3_0, ne_3_1, ne_3_2, ne_3_4, ne_3_5, ne_3_6, ne_3_7, ne_3_8, ne_4_0, ne_4_1, ne_4_2, ne_4_3, ne_4_5, ne_4_6, ne_4_7, ne_4_8, ne_5_0, ne_5_1, ne_5_2, ne_5_3, ne_5_4, ne_5_6, ne_5_7, ne_5_8, ne_6_0, ne_6_1, ne_6_2, ne_6_3, ne_6_4, ne_6_5, ne_6_7, ne_6_8, ne_7_0, ne_7_1, ne_7_2, ne_7_3, ne_7_4, ne_7_5, ne_7_6, ne_7_8, ne_8_0, ne_8_1, ne_8_2, ne_8_3, ne_8_4, ne_8_5, ne_8_6, ne_8_7, sm_127, ms_isNm, b2i_0, hn, Bool.false_and]
    rfl
  | true =>
    by_cases hl : pad.length < 15
    · refine ⟨mm_u2 (mm_u2 (mm_u2 it 127 1 0) 129 pad.length c) 127 3 (Int32.ofNat (pad.length + 1)), ?_, ?_, ?_, fun a ha => by rw [u2_row (by omega), u2_row (by omega), u2_row (by omega)]⟩
      · simp only [sg_X11_type_0, sg_X11_type_9, mk_sh, mk_rf, mk_it, mk_lg, mk_cc, mk_ss, mk_si, mk_sl, mk_th, mq_u_s, ↓mq_b_d, mq_r_s, mq_a_s, mq_l_s, ck_mk, ck_ite, if_true, if_false, ite_true, ite_false, Nat.le_refl, and_self, and_true, true_and, or_true, true_or, or_false, false_or, eq_self, ck_none, Nat.reduceAdd, Nat.reduceLT, Nat.reduceLeDiff, Nat.reduceEqDiff, Nat.reduceSub, Nat.reduceMul, Int32.reduceLT, Int32.reduceLE, Int32.reduceOfNat, Int32.reduceToNatClampNeg, not_true_eq_false, not_false_eq_true, Nat.add_zero, cl_eq, clr_n, clr_v, clr_x, clr_ite, cr_eq, crr_n, crr_v, crr_ite, List.length_cons, List.length_nil, ct_0, ne_0_1, ne_0_2, ne_0_3, ne_0_4, ne_0_5, ne_0_6, ne_0_7, ne_0_8, ne_1_0, ne_1_2, ne_1_3, ne_1_4, ne_1_5, ne_1_6, ne_1_7, ne_1_8, ne_2_0, ne_2_1, ne_2_3, ne_2_4, ne_2_5, ne_2_6, ne_2_7, ne_2_8, ne_3_0, ne_3_1, ne_3_2, ne_3_4, ne_3_5, ne_3_6, ne_3_7, ne_3_8, ne_4_0, ne_4_1, ne_4_2, ne_4_3, ne_4_5, ne_4_6, ne_4_7, ne_4_8, ne_5_0, ne_5_1, ne_5_2, ne_5_3, ne_5_4, ne_5_6, ne_5_7, ne_5_8, ne_6_0, ne_6_1, ne_6_2, ne_6_3, ne_6_4, ne_6_5, ne_6_7, ne_6_8, ne_7_0, ne_7_1, ne_7_2, ne_7_3, ne_7_4, ne_7_5, ne_7_6, ne_7_8, ne_8_0, ne_8_1, ne_8_2, ne_8_3, ne_8_4, ne_8_5, ne_8_6, ne_8_7, sm_127, sm_129, rm_2 hR, ms_isNm, b2i_0, hn, hc, i_eq (show pad.length < 2 ^ 31 by omega) (show 15 < 2 ^ 31 by decide), show ¬ pad.length = 15 by omega, in_of (show pad.length < 2 ^ 31 by omega), i_tn (show pad.length < 2 ^ 31 by omega), hl, u2_ne (show 127 ≠ 129 by decide), i_suc, decide_true, Bool.and_self, Bool.true_eq_false]
        rfl
      · simp only [hl, decide_true, Bool.and_self, if_true]
        refine ⟨⟨by simp; omega, by rw [u2_at]; simp, fun j hj => ?_⟩, hD.2.1.row ?_ (fun a p q => by rw [u2_row (by omega), u2_row (by omega), u2_row (by omega)]), hD.2.2.row ?_ (fun a p q => by rw [u2_row (by omega), u2_row (by omega), u2_row (by omega)])⟩
        · simp only [List.length_append, List.length_singleton] at hj
          rw [u2_ne (by decide)]
          by_cases e : j = pad.length
          · rw [e, u2_at]; simp
          · rw [u2_nk e, u2_ne (by decide), hD.1.2.2 j (by omega), gd_app (by omega)]
        · rw [u2_nk (by decide), u2_ne (by decide), u2_nk (by decide)]
        · rw [u2_nk (by decide), u2_ne (by decide), u2_nk (by decide)]
      · rw [u2_nk (by decide), u2_ne (by decide), u2_at]
    · refine ⟨mm_u2 it 127 1 0, ?_, by simpa [hl] using hD.thr, u2_at, fun a ha => u2_row (by omega)⟩
      simp only [sg_X11_type_0, sg_X11_type_9, mk_sh, mk_rf, mk_it, mk_lg, mk_cc, mk_ss, mk_si, mk_sl, mk_th, mq_u_s, ↓mq_b_d, mq_r_s, mq_a_s, mq_l_s, ck_mk, ck_ite, if_true, if_false, ite_true, ite_false, Nat.le_refl, and_self, and_true, true_and, or_true, true_or, or_false, false_or, eq_self, ck_none, Nat.reduceAdd, Nat.reduceLT, Nat.reduceLeDiff, Nat.reduceEqDiff, Nat.reduceSub, Nat.reduceMul, Int32.reduceLT, Int32.reduceLE, Int32.reduceOfNat, Int32.reduceToNatClampNeg, not_true_eq_false, not_false_eq_true, Nat.add_zero, cl_eq, clr_n, clr_v, clr_x, clr_ite, cr_eq, crr_n, crr_v, crr_ite, List.length_cons, List.length_nil, ct_0, ne_0_1, ne_0_2, ne_0_3, ne_0_4, ne_0_5, ne_0_6, ne_0_7, ne_0_8, ne_1_0, ne_1_2, ne_1_3, ne_1_4, ne_1_5, ne_1_6, ne_1_7, ne_1_8, ne_2_0, ne_2_1, ne_2_3, ne_2_4, ne_2_5, ne_2_6, ne_2_7, ne_2_8, ne_3_0, ne_3_1, ne_3_2, ne_3_4, ne_3_5, ne_3_6, ne_3_7, ne_3_8, ne_4_0, ne_4_1, ne_4_2, ne_4_3, ne_4_5, ne_4_6, ne_4_7, ne_4_8, ne_5_0, ne_5_1, ne_5_2, ne_5_3, ne_5_4, ne_5_6, ne_5_7, ne_5_8, ne_6_0, ne_6_1, ne_6_2, ne_6_3, ne_6_4, ne_6_5, ne_6_7, ne_6_8, ne_7_0, ne_7_1, ne_7_2, ne_7_3, ne_7_4, ne_7_5, ne_7_6, ne_7_8, ne_8_0, ne_8_1, ne_8_2, ne_8_3, ne_8_4, ne_8_5, ne_8_6, ne_8_7, sm_127, sm_129, rm_2 hR, ms_isNm, b2i_0, hn, hc, i_eq (show pad.length < 2 ^ 31 by omega) (show 15 < 2 ^ 31 by decide), show pad.length = 15 by omega, hl, decide_false, Bool.and_false, Bool.true_eq_false]
      rfl
theorem md_forget {pad : List Int32} {rs : List A_ru} {as : List A_ac} (hD : DkM it pad rs as) : ∃ it9, mm_run md 9000 (d + 1) 107 [.ref 127] (mk rf it lg cc ss) = some (.inl (some (.int (Int32.ofNat rs.length))), mk rf it9 lg cc ss) ∧ DkM it9 [] [] [] ∧ it9 127 1 = 0 ∧ ∀ a, a < 127 ∨ a = 128 ∨ 141 ≤ a → it9 a = it a := by
  refine ⟨mm_u2 (mm_u2 (mm_u2 (mm_u2 it 127 1 0) 127 4 0) 127 13 0) 127 3 0, ?_, ⟨⟨by decide, ?_, fun j hj => absurd hj (Nat.not_lt_zero _)⟩, ⟨by decide, ?_, fun j hj => absurd hj (Nat.not_lt_zero _)⟩, by decide, ?_, fun j hj => absurd hj (Nat.not_lt_zero _)⟩, ?_, fun a ha => ?_⟩
  · rw [en_X11_forget]
    simp only [sg_X11_forget_0, mk_sh, mk_rf, mk_it, mk_lg, mk_cc, mk_ss, mk_si, mk_sl, mk_th, mq_u_s, ↓mq_b_d, mq_r_s, mq_a_s, mq_l_s, ck_mk, ck_ite, if_true, if_false, ite_true, ite_false, Nat.le_refl, and_self, and_true, true_and, or_true, true_or, or_false, false_or, eq_self, ck_none, Nat.reduceAdd, Nat.reduceLT, Nat.reduceLeDiff, Nat.reduceEqDiff, Nat.reduceSub, Nat.reduceMul, Int32.reduceLT, Int32.reduceLE, Int32.reduceOfNat, Int32.reduceToNatClampNeg, not_true_eq_false, not_false_eq_true, Nat.add_zero, cl_eq, clr_n, clr_v, clr_x, clr_ite, cr_eq, crr_n, crr_v, crr_ite, List.length_cons, List.length_nil, ct_0, ne_0_1, ne_0_2, ne_0_3, ne_0_4, ne_0_5, ne_0_6, ne_0_7, ne_0_8, ne_1_0, ne_1_2, ne_1_3, ne_1_4, ne_1_5, ne_1_6, ne_1_7, ne_1_8, ne_2_0, ne_2_1, ne_2_3, ne_2_4, ne_2_5, ne_2_6, ne_2_7, ne_2_8, ne_3_0, ne_3_1, ne_3_2, ne_3_4, ne_3_5, ne_3_6, ne_3_7, ne_3_8, ne_4_0, ne_4_1, ne_4_2, ne_4_3, ne_4_5, ne_4_6, ne_4_7, ne_4_8, ne_5_0, ne_5_1, ne_5_2, ne_5_3, ne_5_4, ne_5_6, ne_5_7, ne_5_8, ne_6_0, ne_6_1, ne_6_2, ne_6_3, ne_6_4, ne_6_5, ne_6_7, ne_6_8, ne_7_0, ne_7_1, ne_7_2, ne_7_3, ne_7_4, ne_7_5, ne_7_6, ne_7_8, ne_8_0, ne_8_1, ne_8_2, ne_8_3, ne_8_4, ne_8_5, ne_8_6, ne_8_7, sm_127, u2_nk (show 4 ≠ 1 by decide), hD.2.1.2.1]
  · rw [u2_at]; rfl
  · rw [u2_nk (by decide), u2_nk (by decide), u2_at]; rfl
  · rw [u2_nk (by decide), u2_at]; rfl
  · rw [u2_nk (by decide), u2_nk (by decide), u2_nk (by decide), u2_at]
  · rw [u2_row (by omega), u2_row (by omega), u2_row (by omega), u2_row (by omega)]
end PV0
