section PU19
variable {rf : Nat → Nat → Option Nat} {it : Nat → Nat → Int32} {lg : Nat → Nat → Int64} {cc ss d : Nat}
theorem hd_go {a k : Nat} {B : Int32} {s : Nat} {x : Nat → Nat → Int32} {hb tx : Int32} (hS : CnS rf a) (hs1 : 1 ≤ s) (hs4 : s < 4) (h1 : it a 8 = Int32.ofNat s) (h2 : it a 10 = hb) (h3 : it a 11 = tx) (hkk : (hb = 0 ∧ k = 12) ∨ (hb = 1 ∧ tx = 1 ∧ k = 19) ∨ (hb = 1 ∧ tx = 0 ∧ s = 1 ∧ k = 13) ∨ (hb = 1 ∧ tx = 0 ∧ s = 2 ∧ k = 15) ∨ (hb = 1 ∧ tx = 0 ∧ s = 3 ∧ k = 16)) (hr : mm_run md 9000 (d + 6) k [.ref a, .int B] (mk rf (mm_u2 it a 9 0) lg cc ss) = some (.inl none, mk rf x lg cc ss)) : mm_run md 9000 (d + 7) 9 [.ref a, .int B] (mk rf it lg cc ss) = some (.inl (some (.int 1)), mk rf x lg cc ss) := by
  have p1 := hS.1.1
  have z4 : (Int32.ofNat s = 4) = False := eq_false (fun z => by have := (i_eq (k := 4) (show s < 2 ^ 31 by omega) (by decide)).mp z; omega)
  have z5 : (Int32.ofNat s = 5) = False := eq_false (fun z => by have := (i_eq (k := 5) (show s < 2 ^ 31 by omega) (by decide)).mp z; omega)
  rw [en_X1_hearClient]
  rcases hkk with ⟨rfl, rfl⟩ | ⟨rfl, rfl, rfl⟩ | ⟨rfl, rfl, rfl, rfl⟩ | ⟨rfl, rfl, rfl, rfl⟩ | ⟨rfl, rfl, rfl, rfl⟩
  · simp only [sg_X1_hearClient_0, sg_X1_hearClient_25, sg_X1_hearClient_98, sg_X1_hearClient_90, sg_X1_hearClient_74, sg_X1_hearClient_58, sg_X1_hearClient_43, ↓reduceIte, mk_sh, mk_rf, mk_it, mk_lg, mk_cc, mk_ss, mk_si, mk_sl, mk_th, mq_u_s, ↓mq_b_d, mq_r_s, mq_a_s, mq_l_s, ck_mk, ck_ite, if_true, if_false, ite_true, ite_false, Nat.le_refl, and_self, and_true, true_and, or_true, true_or, or_false, false_or, eq_self, ck_none, Nat.reduceAdd, Nat.reduceLT, Nat.reduceLeDiff, Nat.reduceEqDiff, Nat.reduceSub, Nat.reduceMul, Int32.reduceLT, Int32.reduceLE, Int32.reduceOfNat, Int32.reduceToNatClampNeg, not_true_eq_false, not_false_eq_true, Nat.add_zero, cl_eq, clr_n, clr_v, clr_x, clr_ite, cr_eq, crr_n, crr_v, crr_ite, List.length_cons, List.length_nil, ct_0, ne_0_1, ne_0_2, ne_0_3, ne_0_4, ne_0_5, ne_0_6, ne_0_7, ne_0_8, ne_1_0, ne_1_2, ne_1_3, ne_1_4, ne_1_5, ne_1_6, ne_1_7, ne_1_8, ne_2_0, ne_2_1, ne_2_3, ne_2_4, ne_2_5, ne_2_6, ne_2_7, ne_2_8, ne_3_0, ne_3_1, ne_3_2, ne_3_4, ne_3_5, ne_3_6, ne_3_7, ne_3_8, ne_4_0, ne_4_1, ne_4_2, ne_4_3, ne_4_5, ne_4_6, ne_4_7, ne_4_8, ne_5_0, ne_5_1, ne_5_2, ne_5_3, ne_5_4, ne_5_6, ne_5_7, ne_5_8, ne_6_0, ne_6_1, ne_6_2, ne_6_3, ne_6_4, ne_6_5, ne_6_7, ne_6_8, ne_7_0, ne_7_1, ne_7_2, ne_7_3, ne_7_4, ne_7_5, ne_7_6, ne_7_8, ne_8_0, ne_8_1, ne_8_2, ne_8_3, ne_8_4, ne_8_5, ne_8_6, ne_8_7, Bool.and_self, Bool.or_self, Bool.true_and, Bool.and_true, Bool.false_and, Bool.and_false, Bool.true_or, Bool.or_true, Bool.false_or, Bool.or_false, Bool.not_true, Bool.not_false, decide_true, decide_false, Bool.true_eq_false, Bool.false_eq_true, p1, h1, z4, z5, u2_nk (show 10 ≠ 9 by decide), h2, hr]
  · simp only [sg_X1_hearClient_0, sg_X1_hearClient_25, sg_X1_hearClient_98, sg_X1_hearClient_90, sg_X1_hearClient_74, sg_X1_hearClient_58, sg_X1_hearClient_43, ↓reduceIte, mk_sh, mk_rf, mk_it, mk_lg, mk_cc, mk_ss, mk_si, mk_sl, mk_th, mq_u_s, ↓mq_b_d, mq_r_s, mq_a_s, mq_l_s, ck_mk, ck_ite, if_true, if_false, ite_true, ite_false, Nat.le_refl, and_self, and_true, true_and, or_true, true_or, or_false, false_or, eq_self, ck_none, Nat.reduceAdd, Nat.reduceLT, Nat.reduceLeDiff, Nat.reduceEqDiff, Nat.reduceSub, Nat.reduceMul, Int32.reduceLT, Int32.reduceLE, Int32.reduceOfNat, Int32.reduceToNatClampNeg, not_true_eq_false, not_false_eq_true, Nat.add_zero, cl_eq, clr_n, clr_v, clr_x, clr_ite, cr_eq, crr_n, crr_v, crr_ite, List.length_cons, List.length_nil, ct_0, ne_0_1, ne_0_2, ne_0_3, ne_0_4, ne_0_5, ne_0_6, ne_0_7, ne_0_8, ne_1_0, ne_1_2, ne_1_3, ne_1_4, ne_1_5, ne_1_6, ne_1_7, ne_1_8, ne_2_0, ne_2_1, ne_2_3, ne_2_4, ne_2_5, ne_2_6, ne_2_7, ne_2_8, ne_3_0, ne_3_1, ne_3_2, ne_3_4, ne_3_5, ne_3_6, ne_3_7, ne_3_8, ne_4_0, ne_4_1, ne_4_2, ne_4_3, ne_4_5, ne_4_6, ne_4_7, ne_4_8, ne_5_0, ne_5_1, ne_5_2, ne_5_3, ne_5_4, ne_5_6, ne_5_7, ne_5_8, ne_6_0, ne_6_1, ne_6_2, ne_6_3, ne_6_4, ne_6_5, ne_6_7, ne_6_8, ne_7_0, ne_7_1, ne_7_2, ne_7_3, ne_7_4, ne_7_5, ne_7_6, ne_7_8, ne_8_0, ne_8_1, ne_8_2, ne_8_3, ne_8_4, ne_8_5, ne_8_6, ne_8_7, Bool.and_self, Bool.or_self, Bool.true_and, Bool.and_true, Bool.false_and, Bool.and_false, Bool.true_or, Bool.or_true, Bool.false_or, Bool.or_false, Bool.not_true, Bool.not_false, decide_true, decide_false, Bool.true_eq_false, Bool.false_eq_true, p1, h1, z4, z5, u2_nk (show 10 ≠ 9 by decide), u2_nk (show 11 ≠ 9 by decide), h2, h3, hr]
  · simp only [sg_X1_hearClient_0, sg_X1_hearClient_25, sg_X1_hearClient_98, sg_X1_hearClient_90, sg_X1_hearClient_74, sg_X1_hearClient_58, sg_X1_hearClient_43, ↓reduceIte, mk_sh, mk_rf, mk_it, mk_lg, mk_cc, mk_ss, mk_si, mk_sl, mk_th, mq_u_s, ↓mq_b_d, mq_r_s, mq_a_s, mq_l_s, ck_mk, ck_ite, if_true, if_false, ite_true, ite_false, Nat.le_refl, and_self, and_true, true_and, or_true, true_or, or_false, false_or, eq_self, ck_none, Nat.reduceAdd, Nat.reduceLT, Nat.reduceLeDiff, Nat.reduceEqDiff, Nat.reduceSub, Nat.reduceMul, Int32.reduceLT, Int32.reduceLE, Int32.reduceOfNat, Int32.reduceToNatClampNeg, not_true_eq_false, not_false_eq_true, Nat.add_zero, cl_eq, clr_n, clr_v, clr_x, clr_ite, cr_eq, crr_n, crr_v, crr_ite, List.length_cons, List.length_nil, ct_0, ne_0_1, ne_0_2, ne_0_3, ne_0_4, ne_0_5, ne_0_6, ne_0_7, ne_0_8, ne_1_0, ne_1_2, ne_1_3, ne_1_4, ne_1_5, ne_1_6, ne_1_7, ne_1_8, ne_2_0, ne_2_1, ne_2_3, ne_2_4, ne_2_5, ne_2_6, ne_2_7, ne_2_8, ne_3_0, ne_3_1, ne_3_2, ne_3_4, ne_3_5, ne_3_6, ne_3_7, ne_3_8, ne_4_0, ne_4_1, ne_4_2, ne_4_3, ne_4_5, ne_4_6, ne_4_7, ne_4_8, ne_5_0, ne_5_1, ne_5_2, ne_5_3, ne_5_4, ne_5_6, ne_5_7, ne_5_8, ne_6_0, ne_6_1, ne_6_2, ne_6_3, ne_6_4, ne_6_5, ne_6_7, ne_6_8, ne_7_0, ne_7_1, ne_7_2, ne_7_3, ne_7_4, ne_7_5, ne_7_6, ne_7_8, ne_8_0, ne_8_1, ne_8_2, ne_8_3, ne_8_4, ne_8_5, ne_8_6, ne_8_7, Bool.and_self, Bool.or_self, Bool.true_and, Bool.and_true, Bool.false_and, Bool.and_false, Bool.true_or, Bool.or_true, Bool.false_or, Bool.or_false, Bool.not_true, Bool.not_false, decide_true, decide_false, Bool.true_eq_false, Bool.false_eq_true, p1, h1, z4, z5, u2_nk (show 10 ≠ 9 by decide), u2_nk (show 11 ≠ 9 by decide), u2_nk (show 8 ≠ 9 by decide), h2, h3, show Int32.ofNat 1 = 1 from rfl, hr]
  · simp only [sg_X1_hearClient_0, sg_X1_hearClient_25, sg_X1_hearClient_98, sg_X1_hearClient_90, sg_X1_hearClient_74, sg_X1_hearClient_58, sg_X1_hearClient_43, ↓reduceIte, mk_sh, mk_rf, mk_it, mk_lg, mk_cc, mk_ss, mk_si, mk_sl, mk_th, mq_u_s, ↓mq_b_d, mq_r_s, mq_a_s, mq_l_s, ck_mk, ck_ite, if_true, if_false, ite_true, ite_false, Nat.le_refl, and_self, and_true, true_and, or_true, true_or, or_false, false_or, eq_self, ck_none, Nat.reduceAdd, Nat.reduceLT, Nat.reduceLeDiff, Nat.reduceEqDiff, Nat.reduceSub, Nat.reduceMul, Int32.reduceLT, Int32.reduceLE, Int32.reduceOfNat, Int32.reduceToNatClampNeg, not_true_eq_false, not_false_eq_true, Nat.add_zero, cl_eq, clr_n, clr_v, clr_x, clr_ite, cr_eq, crr_n, crr_v, crr_ite, List.length_cons, List.length_nil, ct_0, ne_0_1, ne_0_2, ne_0_3, ne_0_4, ne_0_5, ne_0_6, ne_0_7, ne_0_8, ne_1_0, ne_1_2, ne_1_3, ne_1_4, ne_1_5, ne_1_6, ne_1_7, ne_1_8, ne_2_0, ne_2_1, ne_2_3, ne_2_4, ne_2_5, ne_2_6, ne_2_7, ne_2_8, ne_3_0, ne_3_1, ne_3_2, ne_3_4, ne_3_5, ne_3_6, ne_3_7, ne_3_8, ne_4_0, ne_4_1, ne_4_2, ne_4_3, ne_4_5, ne_4_6, ne_4_7, ne_4_8, ne_5_0, ne_5_1, ne_5_2, ne_5_3, ne_5_4, ne_5_6, ne_5_7, ne_5_8, ne_6_0, ne_6_1, ne_6_2, ne_6_3, ne_6_4, ne_6_5, ne_6_7, ne_6_8, ne_7_0, ne_7_1, ne_7_2, ne_7_3, ne_7_4, ne_7_5, ne_7_6, ne_7_8, ne_8_0, ne_8_1, ne_8_2, ne_8_3, ne_8_4, ne_8_5, ne_8_6, ne_8_7, Bool.and_self, Bool.or_self, Bool.true_and, Bool.and_true, Bool.false_and, Bool.and_false, Bool.true_or, Bool.or_true, Bool.false_or, Bool.or_false, Bool.not_true, Bool.not_false, decide_true, decide_false, Bool.true_eq_false, Bool.false_eq_true, p1, h1, z4, z5, u2_nk (show 10 ≠ 9 by decide), u2_nk (show 11 ≠ 9 by decide), u2_nk (show 8 ≠ 9 by decide), h2, h3, show Int32.ofNat 2 = 2 from rfl, hr]
  · simp only [sg_X1_hearClient_0, sg_X1_hearClient_25, sg_X1_hearClient_98, sg_X1_hearClient_90, sg_X1_hearClient_74, sg_X1_hearClient_58, sg_X1_hearClient_43, ↓reduceIte, mk_sh, mk_rf, mk_it, mk_lg, mk_cc, mk_ss, mk_si, mk_sl, mk_th, mq_u_s, ↓mq_b_d, mq_r_s, mq_a_s, mq_l_s, ck_mk, ck_ite, if_true, if_false, ite_true, ite_false, Nat.le_refl, and_self, and_true, true_and, or_true, true_or, or_false, false_or, eq_self, ck_none, Nat.reduceAdd, Nat.reduceLT, Nat.reduceLeDiff, Nat.reduceEqDiff, Nat.reduceSub, Nat.reduceMul, Int32.reduceLT, Int32.reduceLE, Int32.reduceOfNat, Int32.reduceToNatClampNeg, not_true_eq_false, not_false_eq_true, Nat.add_zero, cl_eq, clr_n, clr_v, clr_x, clr_ite, cr_eq, crr_n, crr_v, crr_ite, List.length_cons, List.length_nil, ct_0, ne_0_1, ne_0_2, ne_0_3, ne_0_4, ne_0_5, ne_0_6, ne_0_7, ne_0_8, ne_1_0, ne_1_2, ne_1_3, ne_1_4, ne_1_5, ne_1_6, ne_1_7, ne_1_8, ne_2_0, ne_2_1, ne_2_3, ne_2_4, ne_2_5, ne_2_6, ne_2_7, ne_2_8, ne_3_0, ne_3_1, ne_3_2, ne_3_4, ne_3_5, ne_3_6, ne_3_7, ne_3_8, ne_4_0, ne_4_1, ne_4_2, ne_4_3, ne_4_5, ne_4_6, ne_4_7, ne_4_8, ne_5_0, ne_5_1, ne_5_2, ne_5_3, ne_5_4, ne_5_6, ne_5_7, ne_5_8, ne_6_0, ne_6_1, ne_6_2, ne_6_3, ne_6_4, ne_6_5, ne_6_7, ne_6_8, ne_7_0, ne_7_1, ne_7_2, ne_7_3, ne_7_4, ne_7_5, ne_7_6, ne_7_8, ne_8_0, ne_8_1, ne_8_2, ne_8_3, ne_8_4, ne_8_5, ne_8_6, ne_8_7, Bool.and_self, Bool.or_self, Bool.true_and, Bool.and_true, Bool.false_and, Bool.and_false, Bool.true_or, Bool.or_true, Bool.false_or, Bool.or_false, Bool.not_true, Bool.not_false, decide_true, decide_false, Bool.true_eq_false, Bool.false_eq_true, p1, h1, z4, z5, u2_nk (show 10 ≠ 9 by decide), u2_nk (show 11 ≠ 9 by decide), u2_nk (show 8 ≠ 9 by decide), h2, h3, show Int32.ofNat 3 = 3 from rfl, hr]
/-- the class hears a byte of a handshake -/
theorem cc_hear {a b : Nat} {q : A_cn} {rs : List A_ru} {as : List A_ac} (hR : RfOk rf) (hS : CnS rf a) (ha : 47 ≤ a) (hb : b < 256) (hB : BkC it rs as) (hk : CnOk q) (h : CnC it a q) (hs1 : 1 ≤ q.1) (hs4 : q.1 < 4) : ∃ it9, mm_run md 9000 (d + 7) 9 [.ref a, .int (Int32.ofNat b)] (mk rf it lg cc ss) = some (.inl (some (.int 1)), mk rf it9 lg cc ss) ∧ CnC it9 a (hsA rs as q.2.2.1.2 b q.2.2.2.2.2) ∧ ∀ b, b < a ∨ a + 20 ≤ b → it9 b = it b := by
  obtain ⟨s, t, ⟨up, dn⟩, ⟨w, cf, tf⟩, ⟨ga, gl, gp⟩, h9⟩ := q
  obtain ⟨k1, k2, k3, k4, k5, k6, k7, k8, k9, k10⟩ := hk
  dsimp only at k1 k2 k3 k4 k5 k6 k7 k8 k9 k10 hs1 hs4
  obtain ⟨u1, u2, u3⟩ := k6 hs4
  obtain ⟨v1, v2⟩ := k7 (by omega)
  obtain ⟨v3, v4⟩ := Prod.mk.inj v2
  obtain ⟨g1, g2⟩ := Prod.mk.inj u2
  obtain ⟨g2, g3⟩ := Prod.mk.inj g2
  obtain ⟨hbg, cf', tf', h1, h2, h3⟩ := h
  dsimp only at h1 h2 h3
  obtain ⟨f1, f2⟩ := h2 (by omega)
  rw [f1, f2, v3, v4, u1, g1, g2, g3] at h1
  have hH := (h3 hs4).row (y := mm_u2 it a 9 0) (fun b p1 p2 => u2_row (by omega))
  have hO : OuH (mm_u2 it a 9 0) a (Int32.ofNat s) dn hbg w := h1.tk
  have hB2 : BkC (mm_u2 it a 9 0) rs as := hB.row (u2_row (by omega)) (fun r z1 z2 => u2_row (by omega))
  have e8 := h1.1.1
  have e10 := h1.1.2.2.1
  have e11 := h1.1.2.2.2.1
  have hF : ∀ x : Nat → Nat → Int32, (∀ b, b < a ∨ a + 20 ≤ b → x b = mm_u2 it a 9 0 b) → ∀ b, b < a ∨ a + 20 ≤ b → x b = it b := fun x hx b hb => by rw [hx b hb, u2_row (by omega)]
  obtain ⟨tg, n1, n2, n3, n4, l1, l2⟩ := h9
  match tg with
  | 0 =>
    obtain ⟨q1, q2⟩ := u3
    have hb0 : hbg = 0 := hH.1
    subst hb0 q2
    have es : s = 1 := by omega
    subst es
    obtain ⟨x, r1, r2, r3⟩ := hs_0 (d := d + 3) (lg := lg) (cc := cc) (ss := ss) hS hb hO hH
    exact ⟨x, hd_go hS hs1 hs4 e8 e10 e11 (Or.inl ⟨rfl, rfl⟩) r1, r2, hF x r3⟩
  | 1 =>
    obtain ⟨q1, q2⟩ := u3
    have hb0 : hbg = 1 := hH.1
    subst hb0 q1 q2
    obtain ⟨x, r1, r2, r3⟩ := hs_1 (d := d + 3) (lg := lg) (cc := cc) (ss := ss) hS hb hO hH
    exact ⟨x, hd_go hS hs1 hs4 e8 e10 e11 (Or.inr (Or.inr (Or.inl ⟨rfl, rfl, rfl, rfl⟩))) r1, r2, hF x r3⟩
  | 2 =>
    obtain ⟨q1, q2⟩ := u3.1
    have hb0 : hbg = 1 := hH.1
    subst hb0 q1 q2
    obtain ⟨x, r1, r2, r3⟩ := hs_2 (d := d + 2) (lg := lg) (cc := cc) (ss := ss) hS hb hB2 v1 u3 hO hH ha
    exact ⟨x, hd_go hS hs1 hs4 e8 e10 e11 (Or.inr (Or.inr (Or.inl ⟨rfl, rfl, rfl, rfl⟩))) r1, r2, hF x r3⟩
  | 3 =>
    obtain ⟨q1, q2⟩ := u3.1
    have hb0 : hbg = 1 := hH.1
    subst hb0 q1 q2
    obtain ⟨x, r1, r2, r3⟩ := hs_3 (d := d + 2) (lg := lg) (cc := cc) (ss := ss) hR hS hb hB2 v1 u3 hO hH ha
    exact ⟨x, hd_go hS hs1 hs4 e8 e10 e11 (Or.inr (Or.inr (Or.inr (Or.inl ⟨rfl, rfl, rfl, rfl⟩)))) r1, r2, hF x r3⟩
  | 4 =>
    obtain ⟨q1, q2⟩ := u3.1
    have hb0 : hbg = 1 := hH.1
    subst hb0 q1 q2
    obtain ⟨x, r1, r2, r3⟩ := hs_4 (d := d + 1) (lg := lg) (cc := cc) (ss := ss) hR hS hb hB2 v1 u3 hO hH ha
    exact ⟨x, hd_go hS hs1 hs4 e8 e10 e11 (Or.inr (Or.inr (Or.inr (Or.inr ⟨rfl, rfl, rfl, rfl⟩)))) r1, r2, hF x r3⟩
  | 5 =>
    obtain ⟨q1, q2⟩ := u3.1
    have hb0 : hbg = 1 := hH.1
    subst hb0 q1 q2
    obtain ⟨x, r1, r2, r3⟩ := hs_5 (d := d) (lg := lg) (cc := cc) (ss := ss) hS hb v1 u3 hO hH
    exact ⟨x, hd_go hS hs1 hs4 e8 e10 e11 (Or.inr (Or.inl ⟨rfl, rfl, rfl⟩)) r1, r2, hF x r3⟩
  | 6 =>
    obtain ⟨q1, q2⟩ := u3.1
    have hb0 : hbg = 1 := hH.1
    subst hb0 q1 q2
    obtain ⟨x, r1, r2, r3⟩ := hs_6 (d := d) (lg := lg) (cc := cc) (ss := ss) hS hb v1 hO hH
    exact ⟨x, hd_go hS hs1 hs4 e8 e10 e11 (Or.inr (Or.inl ⟨rfl, rfl, rfl⟩)) r1, r2, hF x r3⟩
  | 7 =>
    obtain ⟨q1, q2⟩ := u3.1
    have hb0 : hbg = 1 := hH.1
    subst hb0 q1 q2
    obtain ⟨x, r1, r2, r3⟩ := hs_7 (d := d) (lg := lg) (cc := cc) (ss := ss) hS hb v1 u3 hO hH
    exact ⟨x, hd_go hS hs1 hs4 e8 e10 e11 (Or.inr (Or.inl ⟨rfl, rfl, rfl⟩)) r1, r2, hF x r3⟩
  | 8 =>
    obtain ⟨q1, q2⟩ := u3.1
    have hb0 : hbg = 1 := hH.1
    subst hb0 q1 q2
    obtain ⟨x, r1, r2, r3⟩ := hs_8 (d := d) (lg := lg) (cc := cc) (ss := ss) hR hS ha hb hB2 v1 u3 hO hH
    exact ⟨x, hd_go hS hs1 hs4 e8 e10 e11 (Or.inr (Or.inl ⟨rfl, rfl, rfl⟩)) r1, r2, hF x r3⟩
  | n + 9 => exact False.elim u3
theorem cc_rel {a : Nat} {q : A_cn} {B : Int32} (hS : CnS rf a) (hs : q.1 = 4 ∨ q.1 = 5) (h : CnC it a q) : ∃ it9, mm_run md 9000 (d + 3) 9 [.ref a, .int B] (mk rf it lg cc ss) = some (.inl (some (.int (b2i (relA q B).1))), mk rf it9 lg cc ss) ∧ CnC it9 a (relA q B).2 ∧ ∀ b, b < a ∨ a + 20 ≤ b → it9 b = it b := by
  obtain ⟨s, t, ⟨up, dn⟩, ⟨w, cf, tf⟩, ⟨ga, gl, gp⟩, h9⟩ := q
  have h' := h
  obtain ⟨hb, cf', tf', h1, h2, h3⟩ := h
  dsimp only at h1 h2 h3 hs
  have z4 : (Int32.ofNat s = 4) = (s = 4) := propext (i_eq (by omega) (by decide))
  have z5 : (Int32.ofNat s = 5) = (s = 5) := propext (i_eq (by omega) (by decide))
  obtain ⟨p1, p2, p3, p4, p5, p6, p7, p8⟩ := hS.1
  have hst := h1.1.1
  have hp := ct_rput (d := d) (lg := lg) (cc := cc) (ss := ss) (b := B) p4 h1.2.2.1
  have hfin : ∀ (v : Bool) (x : Nat → Nat → Int32), mm_run md 9000 (d + 2) 11 [.ref a, .ref (a + 1), .int B] (mk rf it lg cc ss) = some (.inl (some (.int (b2i v))), mk rf x lg cc ss) → mm_run md 9000 (d + 3) 9 [.ref a, .int B] (mk rf it lg cc ss) = some (.inl (some (.int (b2i v))), mk rf x lg cc ss) := by
    intro v x hx
    rw [en_X1_hearClient]
    by_cases e4 : s = 4
    · simp only [sg_X1_hearClient_0, sg_X1_hearClient_25, sg_X1_hearClient_98, sg_X1_hearClient_90, sg_X1_hearClient_74, sg_X1_hearClient_58, sg_X1_hearClient_43, ↓reduceIte, mk_sh, mk_rf, mk_it, mk_lg, mk_cc, mk_ss, mk_si, mk_sl, mk_th, mq_u_s, ↓mq_b_d, mq_r_s, mq_a_s, mq_l_s, ck_mk, ck_ite, if_true, if_false, ite_true, ite_false, Nat.le_refl, and_self, and_true, true_and, or_true, true_or, or_false, false_or, eq_self, ck_none, Nat.reduceAdd, Nat.reduceLT, Nat.reduceLeDiff, Nat.reduceEqDiff, Nat.reduceSub, Nat.reduceMul, Int32.reduceLT, Int32.reduceLE, Int32.reduceOfNat, Int32.reduceToNatClampNeg, not_true_eq_false, not_false_eq_true, Nat.add_zero, cl_eq, clr_n, clr_v, clr_x, clr_ite, cr_eq, crr_n, crr_v, crr_ite, List.length_cons, List.length_nil, ct_0, ne_0_1, ne_0_2, ne_0_3, ne_0_4, ne_0_5, ne_0_6, ne_0_7, ne_0_8, ne_1_0, ne_1_2, ne_1_3, ne_1_4, ne_1_5, ne_1_6, ne_1_7, ne_1_8, ne_2_0, ne_2_1, ne_2_3, ne_2_4, ne_2_5, ne_2_6, ne_2_7, ne_2_8, ne_3_0, ne_3_1, ne_3_2, ne_3_4, ne_3_5, ne_3_6, ne_3_7, ne_3_8, ne_4_0, ne_4_1, ne_4_2, ne_4_3, ne_4_5, ne_4_6, ne_4_7, ne_4_8, ne_5_0, ne_5_1, ne_5_2, ne_5_3, ne_5_4, ne_5_6, ne_5_7, ne_5_8, ne_6_0, ne_6_1, ne_6_2, ne_6_3, ne_6_4, ne_6_5, ne_6_7, ne_6_8, ne_7_0, ne_7_1, ne_7_2, ne_7_3, ne_7_4, ne_7_5, ne_7_6, ne_7_8, ne_8_0, ne_8_1, ne_8_2, ne_8_3, ne_8_4, ne_8_5, ne_8_6, ne_8_7, Bool.and_self, Bool.or_self, Bool.true_and, Bool.and_true, Bool.false_and, Bool.and_false, Bool.true_or, Bool.or_true, Bool.false_or, Bool.or_false, Bool.not_true, Bool.not_false, decide_true, decide_false, Bool.true_eq_false, Bool.false_eq_true, p1, p3, hst, z4, eq_true e4, hx, b2i_z]
    · have e5 : s = 5 := hs.resolve_left e4
      simp only [sg_X1_hearClient_0, sg_X1_hearClient_25, sg_X1_hearClient_98, sg_X1_hearClient_90, sg_X1_hearClient_74, sg_X1_hearClient_58, sg_X1_hearClient_43, ↓reduceIte, mk_sh, mk_rf, mk_it, mk_lg, mk_cc, mk_ss, mk_si, mk_sl, mk_th, mq_u_s, ↓mq_b_d, mq_r_s, mq_a_s, mq_l_s, ck_mk, ck_ite, if_true, if_false, ite_true, ite_false, Nat.le_refl, and_self, and_true, true_and, or_true, true_or, or_false, false_or, eq_self, ck_none, Nat.reduceAdd, Nat.reduceLT, Nat.reduceLeDiff, Nat.reduceEqDiff, Nat.reduceSub, Nat.reduceMul, Int32.reduceLT, Int32.reduceLE, Int32.reduceOfNat, Int32.reduceToNatClampNeg, not_true_eq_false, not_false_eq_true, Nat.add_zero, cl_eq, clr_n, clr_v, clr_x, clr_ite, cr_eq, crr_n, crr_v, crr_ite, List.length_cons, List.length_nil, ct_0, ne_0_1, ne_0_2, ne_0_3, ne_0_4, ne_0_5, ne_0_6, ne_0_7, ne_0_8, ne_1_0, ne_1_2, ne_1_3, ne_1_4, ne_1_5, ne_1_6, ne_1_7, ne_1_8, ne_2_0, ne_2_1, ne_2_3, ne_2_4, ne_2_5, ne_2_6, ne_2_7, ne_2_8, ne_3_0, ne_3_1, ne_3_2, ne_3_4, ne_3_5, ne_3_6, ne_3_7, ne_3_8, ne_4_0, ne_4_1, ne_4_2, ne_4_3, ne_4_5, ne_4_6, ne_4_7, ne_4_8, ne_5_0, ne_5_1, ne_5_2, ne_5_3, ne_5_4, ne_5_6, ne_5_7, ne_5_8, ne_6_0, ne_6_1, ne_6_2, ne_6_3, ne_6_4, ne_6_5, ne_6_7, ne_6_8, ne_7_0, ne_7_1, ne_7_2, ne_7_3, ne_7_4, ne_7_5, ne_7_6, ne_7_8, ne_8_0, ne_8_1, ne_8_2, ne_8_3, ne_8_4, ne_8_5, ne_8_6, ne_8_7, Bool.and_self, Bool.or_self, Bool.true_and, Bool.and_true, Bool.false_and, Bool.and_false, Bool.true_or, Bool.or_true, Bool.false_or, Bool.or_false, Bool.not_true, Bool.not_false, decide_true, decide_false, Bool.true_eq_false, Bool.false_eq_true, p1, p3, hst, z4, e4, z5, eq_true e5, hx, b2i_z]
  by_cases hl : up.length < 16
  · rw [if_pos hl] at hp
    have e9 : relA (s, t, (up, dn), (w, cf, tf), (ga, gl, gp), h9) B = (true, (s, 0, (up ++ [B], dn), (w, cf, tf), (ga, gl, gp), h9)) := if_pos hl
    rw [e9]
    have hO : OuC (rgp it (a + 1) B) a (Int32.ofNat s) (Int32.ofNat t) (up ++ [B]) dn hb (b2i (decide (w = 67))) (b2i cf') (b2i tf') ga gl gp := by
      obtain ⟨k1, k2, k3, k4⟩ := h1
      have hY : ∀ r, r ≠ a + 1 → r ≠ a + 2 → rgp it (a + 1) B r = it r := fun r q1 q2 => rgp_row q1 q2
      refine ⟨?_, ?_, rgp_ok k3 hl, k4.row (hY _ (by omega) (by omega)) (hY _ (by omega) (by omega))⟩
      · rw [hY _ (by omega) (by omega)]; exact k1
      · rw [hY _ (by omega) (by omega), hY _ (by omega) (by omega)]; exact k2
    refine ⟨mm_u2 (rgp it (a + 1) B) a 9 0, hfin true _ ?_, ⟨hb, cf', tf', hO.tk, h2, fun z => absurd z (by show ¬ s < 4; omega)⟩, fun b hb => by rw [u2_row (by omega), rgp_row (by omega) (by omega)]⟩
    rw [en_X1_relay]
    simp only [sg_X1_relay_0, sg_X1_relay_5, ↓reduceIte, mk_sh, mk_rf, mk_it, mk_lg, mk_cc, mk_ss, mk_si, mk_sl, mk_th, mq_u_s, ↓mq_b_d, mq_r_s, mq_a_s, mq_l_s, ck_mk, ck_ite, if_true, if_false, ite_true, ite_false, Nat.le_refl, and_self, and_true, true_and, or_true, true_or, or_false, false_or, eq_self, ck_none, Nat.reduceAdd, Nat.reduceLT, Nat.reduceLeDiff, Nat.reduceEqDiff, Nat.reduceSub, Nat.reduceMul, Int32.reduceLT, Int32.reduceLE, Int32.reduceOfNat, Int32.reduceToNatClampNeg, not_true_eq_false, not_false_eq_true, Nat.add_zero, cl_eq, clr_n, clr_v, clr_x, clr_ite, cr_eq, crr_n, crr_v, crr_ite, List.length_cons, List.length_nil, ct_0, ne_0_1, ne_0_2, ne_0_3, ne_0_4, ne_0_5, ne_0_6, ne_0_7, ne_0_8, ne_1_0, ne_1_2, ne_1_3, ne_1_4, ne_1_5, ne_1_6, ne_1_7, ne_1_8, ne_2_0, ne_2_1, ne_2_3, ne_2_4, ne_2_5, ne_2_6, ne_2_7, ne_2_8, ne_3_0, ne_3_1, ne_3_2, ne_3_4, ne_3_5, ne_3_6, ne_3_7, ne_3_8, ne_4_0, ne_4_1, ne_4_2, ne_4_3, ne_4_5, ne_4_6, ne_4_7, ne_4_8, ne_5_0, ne_5_1, ne_5_2, ne_5_3, ne_5_4, ne_5_6, ne_5_7, ne_5_8, ne_6_0, ne_6_1, ne_6_2, ne_6_3, ne_6_4, ne_6_5, ne_6_7, ne_6_8, ne_7_0, ne_7_1, ne_7_2, ne_7_3, ne_7_4, ne_7_5, ne_7_6, ne_7_8, ne_8_0, ne_8_1, ne_8_2, ne_8_3, ne_8_4, ne_8_5, ne_8_6, ne_8_7, Bool.and_self, Bool.or_self, Bool.true_and, Bool.and_true, Bool.false_and, Bool.and_false, Bool.true_or, Bool.or_true, Bool.false_or, Bool.or_false, Bool.not_true, Bool.not_false, decide_true, decide_false, Bool.true_eq_false, Bool.false_eq_true, p1, p4.1, hp]
    rfl
  · rw [if_neg hl] at hp
    have e9 : relA (s, t, (up, dn), (w, cf, tf), (ga, gl, gp), h9) B = (false, (s, t, (up, dn), (w, cf, tf), (ga, gl, gp), h9)) := if_neg hl
    rw [e9]
    refine ⟨it, hfin false _ ?_, h', fun _ _ => rfl⟩
    rw [en_X1_relay]
    simp only [sg_X1_relay_0, sg_X1_relay_5, ↓reduceIte, mk_sh, mk_rf, mk_it, mk_lg, mk_cc, mk_ss, mk_si, mk_sl, mk_th, mq_u_s, ↓mq_b_d, mq_r_s, mq_a_s, mq_l_s, ck_mk, ck_ite, if_true, if_false, ite_true, ite_false, Nat.le_refl, and_self, and_true, true_and, or_true, true_or, or_false, false_or, eq_self, ck_none, Nat.reduceAdd, Nat.reduceLT, Nat.reduceLeDiff, Nat.reduceEqDiff, Nat.reduceSub, Nat.reduceMul, Int32.reduceLT, Int32.reduceLE, Int32.reduceOfNat, Int32.reduceToNatClampNeg, not_true_eq_false, not_false_eq_true, Nat.add_zero, cl_eq, clr_n, clr_v, clr_x, clr_ite, cr_eq, crr_n, crr_v, crr_ite, List.length_cons, List.length_nil, ct_0, ne_0_1, ne_0_2, ne_0_3, ne_0_4, ne_0_5, ne_0_6, ne_0_7, ne_0_8, ne_1_0, ne_1_2, ne_1_3, ne_1_4, ne_1_5, ne_1_6, ne_1_7, ne_1_8, ne_2_0, ne_2_1, ne_2_3, ne_2_4, ne_2_5, ne_2_6, ne_2_7, ne_2_8, ne_3_0, ne_3_1, ne_3_2, ne_3_4, ne_3_5, ne_3_6, ne_3_7, ne_3_8, ne_4_0, ne_4_1, ne_4_2, ne_4_3, ne_4_5, ne_4_6, ne_4_7, ne_4_8, ne_5_0, ne_5_1, ne_5_2, ne_5_3, ne_5_4, ne_5_6, ne_5_7, ne_5_8, ne_6_0, ne_6_1, ne_6_2, ne_6_3, ne_6_4, ne_6_5, ne_6_7, ne_6_8, ne_7_0, ne_7_1, ne_7_2, ne_7_3, ne_7_4, ne_7_5, ne_7_6, ne_7_8, ne_8_0, ne_8_1, ne_8_2, ne_8_3, ne_8_4, ne_8_5, ne_8_6, ne_8_7, Bool.and_self, Bool.or_self, Bool.true_and, Bool.and_true, Bool.false_and, Bool.and_false, Bool.true_or, Bool.or_true, Bool.false_or, Bool.or_false, Bool.not_true, Bool.not_false, decide_true, decide_false, Bool.true_eq_false, Bool.false_eq_true, p1, p4.1, hp]
    rfl
theorem cc_giv {a : Nat} {q : A_cn} {B : Int32} (hS : CnS rf a) (hs : q.1 = 5) (h : CnC it a q) : ∃ it9, mm_run md 9000 (d + 3) 10 [.ref a, .int B] (mk rf it lg cc ss) = some (.inl (some (.int (b2i (givA q B).1))), mk rf it9 lg cc ss) ∧ CnC it9 a (givA q B).2 ∧ ∀ b, b < a ∨ a + 20 ≤ b → it9 b = it b := by
  obtain ⟨s, t, ⟨up, dn⟩, ⟨w, cf, tf⟩, ⟨ga, gl, gp⟩, h9⟩ := q
  have h' := h
  obtain ⟨hb, cf', tf', h1, h2, h3⟩ := h
  dsimp only at h1 h2 h3 hs
  obtain ⟨p1, p2, p3, p4, p5, p6, p7, p8⟩ := hS.1
  have hp := ct_rput (d := d) (lg := lg) (cc := cc) (ss := ss) (b := B) p6 h1.2.2.2
  have hfin : ∀ (v : Bool) (x : Nat → Nat → Int32), mm_run md 9000 (d + 2) 11 [.ref a, .ref (a + 3), .int B] (mk rf it lg cc ss) = some (.inl (some (.int (b2i v))), mk rf x lg cc ss) → mm_run md 9000 (d + 3) 10 [.ref a, .int B] (mk rf it lg cc ss) = some (.inl (some (.int (b2i v))), mk rf x lg cc ss) := by
    intro v x hx
    rw [en_X1_hearTarget]
    simp only [sg_X1_hearTarget_0, sg_X1_hearTarget_9, ↓reduceIte, mk_sh, mk_rf, mk_it, mk_lg, mk_cc, mk_ss, mk_si, mk_sl, mk_th, mq_u_s, ↓mq_b_d, mq_r_s, mq_a_s, mq_l_s, ck_mk, ck_ite, if_true, if_false, ite_true, ite_false, Nat.le_refl, and_self, and_true, true_and, or_true, true_or, or_false, false_or, eq_self, ck_none, Nat.reduceAdd, Nat.reduceLT, Nat.reduceLeDiff, Nat.reduceEqDiff, Nat.reduceSub, Nat.reduceMul, Int32.reduceLT, Int32.reduceLE, Int32.reduceOfNat, Int32.reduceToNatClampNeg, not_true_eq_false, not_false_eq_true, Nat.add_zero, cl_eq, clr_n, clr_v, clr_x, clr_ite, cr_eq, crr_n, crr_v, crr_ite, List.length_cons, List.length_nil, ct_0, ne_0_1, ne_0_2, ne_0_3, ne_0_4, ne_0_5, ne_0_6, ne_0_7, ne_0_8, ne_1_0, ne_1_2, ne_1_3, ne_1_4, ne_1_5, ne_1_6, ne_1_7, ne_1_8, ne_2_0, ne_2_1, ne_2_3, ne_2_4, ne_2_5, ne_2_6, ne_2_7, ne_2_8, ne_3_0, ne_3_1, ne_3_2, ne_3_4, ne_3_5, ne_3_6, ne_3_7, ne_3_8, ne_4_0, ne_4_1, ne_4_2, ne_4_3, ne_4_5, ne_4_6, ne_4_7, ne_4_8, ne_5_0, ne_5_1, ne_5_2, ne_5_3, ne_5_4, ne_5_6, ne_5_7, ne_5_8, ne_6_0, ne_6_1, ne_6_2, ne_6_3, ne_6_4, ne_6_5, ne_6_7, ne_6_8, ne_7_0, ne_7_1, ne_7_2, ne_7_3, ne_7_4, ne_7_5, ne_7_6, ne_7_8, ne_8_0, ne_8_1, ne_8_2, ne_8_3, ne_8_4, ne_8_5, ne_8_6, ne_8_7, Bool.and_self, Bool.or_self, Bool.true_and, Bool.and_true, Bool.false_and, Bool.and_false, Bool.true_or, Bool.or_true, Bool.false_or, Bool.or_false, Bool.not_true, Bool.not_false, decide_true, decide_false, Bool.true_eq_false, Bool.false_eq_true, p1, p5, hx, b2i_z]
  by_cases hl : dn.length < 16
  · rw [if_pos hl] at hp
    have e9 : givA (s, t, (up, dn), (w, cf, tf), (ga, gl, gp), h9) B = (true, (s, 0, (up, dn ++ [B]), (w, cf, tf), (ga, gl, gp), h9)) := if_pos hl
    rw [e9]
    have hO : OuC (rgp it (a + 3) B) a (Int32.ofNat s) (Int32.ofNat t) up (dn ++ [B]) hb (b2i (decide (w = 67))) (b2i cf') (b2i tf') ga gl gp := by
      obtain ⟨k1, k2, k3, k4⟩ := h1
      have hY : ∀ r, r ≠ a + 3 → r ≠ a + 4 → rgp it (a + 3) B r = it r := fun r q1 q2 => rgp_row q1 q2
      refine ⟨?_, ?_, k3.row (hY _ (by omega) (by omega)) (hY _ (by omega) (by omega)), rgp_ok k4 hl⟩
      · rw [hY _ (by omega) (by omega)]; exact k1
      · rw [hY _ (by omega) (by omega), hY _ (by omega) (by omega)]; exact k2
    refine ⟨mm_u2 (rgp it (a + 3) B) a 9 0, hfin true _ ?_, ⟨hb, cf', tf', hO.tk, h2, fun z => absurd z (by show ¬ s < 4; omega)⟩, fun b hb => by rw [u2_row (by omega), rgp_row (by omega) (by omega)]⟩
    rw [en_X1_relay]
    simp only [sg_X1_relay_0, sg_X1_relay_5, ↓reduceIte, mk_sh, mk_rf, mk_it, mk_lg, mk_cc, mk_ss, mk_si, mk_sl, mk_th, mq_u_s, ↓mq_b_d, mq_r_s, mq_a_s, mq_l_s, ck_mk, ck_ite, if_true, if_false, ite_true, ite_false, Nat.le_refl, and_self, and_true, true_and, or_true, true_or, or_false, false_or, eq_self, ck_none, Nat.reduceAdd, Nat.reduceLT, Nat.reduceLeDiff, Nat.reduceEqDiff, Nat.reduceSub, Nat.reduceMul, Int32.reduceLT, Int32.reduceLE, Int32.reduceOfNat, Int32.reduceToNatClampNeg, not_true_eq_false, not_false_eq_true, Nat.add_zero, cl_eq, clr_n, clr_v, clr_x, clr_ite, cr_eq, crr_n, crr_v, crr_ite, List.length_cons, List.length_nil, ct_0, ne_0_1, ne_0_2, ne_0_3, ne_0_4, ne_0_5, ne_0_6, ne_0_7, ne_0_8, ne_1_0, ne_1_2, ne_1_3, ne_1_4, ne_1_5, ne_1_6, ne_1_7, ne_1_8, ne_2_0, ne_2_1, ne_2_3, ne_2_4, ne_2_5, ne_2_6, ne_2_7, ne_2_8, ne_3_0, ne_3_1, ne_3_2, ne_3_4, ne_3_5, ne_3_6, ne_3_7, ne_3_8, ne_4_0, ne_4_1, ne_4_2, ne_4_3, ne_4_5, ne_4_6, ne_4_7, ne_4_8, ne_5_0, ne_5_1, ne_5_2, ne_5_3, ne_5_4, ne_5_6, ne_5_7, ne_5_8, ne_6_0, ne_6_1, ne_6_2, ne_6_3, ne_6_4, ne_6_5, ne_6_7, ne_6_8, ne_7_0, ne_7_1, ne_7_2, ne_7_3, ne_7_4, ne_7_5, ne_7_6, ne_7_8, ne_8_0, ne_8_1, ne_8_2, ne_8_3, ne_8_4, ne_8_5, ne_8_6, ne_8_7, Bool.and_self, Bool.or_self, Bool.true_and, Bool.and_true, Bool.false_and, Bool.and_false, Bool.true_or, Bool.or_true, Bool.false_or, Bool.or_false, Bool.not_true, Bool.not_false, decide_true, decide_false, Bool.true_eq_false, Bool.false_eq_true, p1, p6.1, hp]
    rfl
  · rw [if_neg hl] at hp
    have e9 : givA (s, t, (up, dn), (w, cf, tf), (ga, gl, gp), h9) B = (false, (s, t, (up, dn), (w, cf, tf), (ga, gl, gp), h9)) := if_neg hl
    rw [e9]
    refine ⟨it, hfin false _ ?_, h', fun _ _ => rfl⟩
    rw [en_X1_relay]
    simp only [sg_X1_relay_0, sg_X1_relay_5, ↓reduceIte, mk_sh, mk_rf, mk_it, mk_lg, mk_cc, mk_ss, mk_si, mk_sl, mk_th, mq_u_s, ↓mq_b_d, mq_r_s, mq_a_s, mq_l_s, ck_mk, ck_ite, if_true, if_false, ite_true, ite_false, Nat.le_refl, and_self, and_true, true_and, or_true, true_or, or_false, false_or, eq_self, ck_none, Nat.reduceAdd, Nat.reduceLT, Nat.reduceLeDiff, Nat.reduceEqDiff, Nat.reduceSub, Nat.reduceMul, Int32.reduceLT, Int32.reduceLE, Int32.reduceOfNat, Int32.reduceToNatClampNeg, not_true_eq_false, not_false_eq_true, Nat.add_zero, cl_eq, clr_n, clr_v, clr_x, clr_ite, cr_eq, crr_n, crr_v, crr_ite, List.length_cons, List.length_nil, ct_0, ne_0_1, ne_0_2, ne_0_3, ne_0_4, ne_0_5, ne_0_6, ne_0_7, ne_0_8, ne_1_0, ne_1_2, ne_1_3, ne_1_4, ne_1_5, ne_1_6, ne_1_7, ne_1_8, ne_2_0, ne_2_1, ne_2_3, ne_2_4, ne_2_5, ne_2_6, ne_2_7, ne_2_8, ne_3_0, ne_3_1, ne_3_2, ne_3_4, ne_3_5, ne_3_6, ne_3_7, ne_3_8, ne_4_0, ne_4_1, ne_4_2, ne_4_3, ne_4_5, ne_4_6, ne_4_7, ne_4_8, ne_5_0, ne_5_1, ne_5_2, ne_5_3, ne_5_4, ne_5_6, ne_5_7, ne_5_8, ne_6_0, ne_6_1, ne_6_2, ne_6_3, ne_6_4, ne_6_5, ne_6_7, ne_6_8, ne_7_0, ne_7_1, ne_7_2, ne_7_3, ne_7_4, ne_7_5, ne_7_6, ne_7_8, ne_8_0, ne_8_1, ne_8_2, ne_8_3, ne_8_4, ne_8_5, ne_8_6, ne_8_7, Bool.and_self, Bool.or_self, Bool.true_and, Bool.and_true, Bool.false_and, Bool.and_false, Bool.true_or, Bool.or_true, Bool.false_or, Bool.or_false, Bool.not_true, Bool.not_false, decide_true, decide_false, Bool.true_eq_false, Bool.false_eq_true, p1, p6.1, hp]
    rfl
theorem cc_conn {a : Nat} {q : A_cn} {st : Bool} (hS : CnS rf a) (hs : q.1 = 4) (hk : CnOk q) (h : CnC it a q) : ∃ it9, mm_run md 9000 (d + 4) 22 [.ref a, .int (b2i st)] (mk rf it lg cc ss) = some (.inl none, mk rf it9 lg cc ss) ∧ CnC it9 a (connA q st) ∧ ∀ b, b < a ∨ a + 20 ≤ b → it9 b = it b := by
  obtain ⟨s, t, ⟨up, dn⟩, ⟨w, cf, tf⟩, ⟨ga, gl, gp⟩, h9⟩ := q
  obtain ⟨k1, k2, k3, k4, k5, k6, k7, k8, k9, k10⟩ := hk
  dsimp only at k1 k2 k3 k4 k5 k6 k7 k8 k9 k10 hs
  obtain ⟨hb, cf', tf', h1, h2, h3⟩ := h
  dsimp only at h1 h2 h3
  obtain ⟨v1, v2⟩ := k7 (by omega)
  have p1 := hS.1.1
  have htx := h1.1.2.2.2.1
  obtain ⟨f1, f2⟩ := h2 (by omega)
  subst f1 f2
  rw [en_X1_endConnecting]
  by_cases e : w = 67
  · have hb67 : b2i (decide (w = 67)) = 1 := by rw [decide_eq_true e]; rfl
    rw [hb67] at htx
    cases st with
    | true =>
      have e9 : connA (s, t, (up, dn), (w, cf', tf'), (ga, gl, gp), h9) true = (5, 0, (up, dn ++ [50, 48, 48, 10]), (w, cf', tf'), (ga, gl, gp), h0) := by
        unfold connA
        rw [if_pos e, if_pos rfl]
      rw [e9]
      obtain ⟨i1, r1, o1, f1⟩ := ou_tell (d := d) (lg := lg) (cc := cc) (ss := ss) (st := 200) (x := 50) (y := 48) (z := 48) hS h1 (by omega) (by decide) (by decide) (by decide)
      rw [if_pos rfl, if_pos rfl, if_pos rfl] at o1
      obtain ⟨i2, r2, o2, f2⟩ := ou_enter (d := d + 1) (lg := lg) (cc := cc) (ss := ss) (s := 5) hS o1
      rw [if_neg (by decide)] at o2
      refine ⟨i2, ?_, ⟨hb, cf', tf', o2, fun _ => ⟨rfl, rfl⟩, fun z => absurd z (by show ¬ 5 < 4; decide)⟩, fun b hb => by rw [f2 b (by omega) (by omega), f1 b (by omega)]⟩
      simp only [sg_X1_endConnecting_0, sg_X1_endConnecting_40, sg_X1_endConnecting_24, sg_X1_endConnecting_49, ↓reduceIte, mk_sh, mk_rf, mk_it, mk_lg, mk_cc, mk_ss, mk_si, mk_sl, mk_th, mq_u_s, ↓mq_b_d, mq_r_s, mq_a_s, mq_l_s, ck_mk, ck_ite, if_true, if_false, ite_true, ite_false, Nat.le_refl, and_self, and_true, true_and, or_true, true_or, or_false, false_or, eq_self, ck_none, Nat.reduceAdd, Nat.reduceLT, Nat.reduceLeDiff, Nat.reduceEqDiff, Nat.reduceSub, Nat.reduceMul, Int32.reduceLT, Int32.reduceLE, Int32.reduceOfNat, Int32.reduceToNatClampNeg, not_true_eq_false, not_false_eq_true, Nat.add_zero, cl_eq, clr_n, clr_v, clr_x, clr_ite, cr_eq, crr_n, crr_v, crr_ite, List.length_cons, List.length_nil, ct_0, ne_0_1, ne_0_2, ne_0_3, ne_0_4, ne_0_5, ne_0_6, ne_0_7, ne_0_8, ne_1_0, ne_1_2, ne_1_3, ne_1_4, ne_1_5, ne_1_6, ne_1_7, ne_1_8, ne_2_0, ne_2_1, ne_2_3, ne_2_4, ne_2_5, ne_2_6, ne_2_7, ne_2_8, ne_3_0, ne_3_1, ne_3_2, ne_3_4, ne_3_5, ne_3_6, ne_3_7, ne_3_8, ne_4_0, ne_4_1, ne_4_2, ne_4_3, ne_4_5, ne_4_6, ne_4_7, ne_4_8, ne_5_0, ne_5_1, ne_5_2, ne_5_3, ne_5_4, ne_5_6, ne_5_7, ne_5_8, ne_6_0, ne_6_1, ne_6_2, ne_6_3, ne_6_4, ne_6_5, ne_6_7, ne_6_8, ne_7_0, ne_7_1, ne_7_2, ne_7_3, ne_7_4, ne_7_5, ne_7_6, ne_7_8, ne_8_0, ne_8_1, ne_8_2, ne_8_3, ne_8_4, ne_8_5, ne_8_6, ne_8_7, Bool.and_self, Bool.or_self, Bool.true_and, Bool.and_true, Bool.false_and, Bool.and_false, Bool.true_or, Bool.or_true, Bool.false_or, Bool.or_false, Bool.not_true, Bool.not_false, decide_true, decide_false, Bool.true_eq_false, Bool.false_eq_true, p1, htx, show b2i true = 1 from rfl, r1, r2]
    | false =>
      have e9 : connA (s, t, (up, dn), (w, cf', tf'), (ga, gl, gp), h9) false = (6, 0, ([], dn ++ [53, 48, 50, 10]), (w, cf', tf'), (ga, gl, gp), h0) := by
        unfold connA
        rw [if_pos e, if_neg (by decide)]
      rw [e9]
      obtain ⟨i1, r1, o1, f1⟩ := ou_tell (d := d) (lg := lg) (cc := cc) (ss := ss) (st := 502) (x := 53) (y := 48) (z := 50) hS h1 (by omega) (by decide) (by decide) (by decide)
      rw [if_neg (by decide), if_neg (by decide), if_neg (by decide)] at o1
      refine ⟨i1, ?_, ⟨hb, cf', tf', o1, fun _ => ⟨rfl, rfl⟩, fun z => absurd z (by show ¬ 6 < 4; decide)⟩, fun b hb => f1 b (by omega)⟩
      simp only [sg_X1_endConnecting_0, sg_X1_endConnecting_40, sg_X1_endConnecting_24, sg_X1_endConnecting_49, ↓reduceIte, mk_sh, mk_rf, mk_it, mk_lg, mk_cc, mk_ss, mk_si, mk_sl, mk_th, mq_u_s, ↓mq_b_d, mq_r_s, mq_a_s, mq_l_s, ck_mk, ck_ite, if_true, if_false, ite_true, ite_false, Nat.le_refl, and_self, and_true, true_and, or_true, true_or, or_false, false_or, eq_self, ck_none, Nat.reduceAdd, Nat.reduceLT, Nat.reduceLeDiff, Nat.reduceEqDiff, Nat.reduceSub, Nat.reduceMul, Int32.reduceLT, Int32.reduceLE, Int32.reduceOfNat, Int32.reduceToNatClampNeg, not_true_eq_false, not_false_eq_true, Nat.add_zero, cl_eq, clr_n, clr_v, clr_x, clr_ite, cr_eq, crr_n, crr_v, crr_ite, List.length_cons, List.length_nil, ct_0, ne_0_1, ne_0_2, ne_0_3, ne_0_4, ne_0_5, ne_0_6, ne_0_7, ne_0_8, ne_1_0, ne_1_2, ne_1_3, ne_1_4, ne_1_5, ne_1_6, ne_1_7, ne_1_8, ne_2_0, ne_2_1, ne_2_3, ne_2_4, ne_2_5, ne_2_6, ne_2_7, ne_2_8, ne_3_0, ne_3_1, ne_3_2, ne_3_4, ne_3_5, ne_3_6, ne_3_7, ne_3_8, ne_4_0, ne_4_1, ne_4_2, ne_4_3, ne_4_5, ne_4_6, ne_4_7, ne_4_8, ne_5_0, ne_5_1, ne_5_2, ne_5_3, ne_5_4, ne_5_6, ne_5_7, ne_5_8, ne_6_0, ne_6_1, ne_6_2, ne_6_3, ne_6_4, ne_6_5, ne_6_7, ne_6_8, ne_7_0, ne_7_1, ne_7_2, ne_7_3, ne_7_4, ne_7_5, ne_7_6, ne_7_8, ne_8_0, ne_8_1, ne_8_2, ne_8_3, ne_8_4, ne_8_5, ne_8_6, ne_8_7, Bool.and_self, Bool.or_self, Bool.true_and, Bool.and_true, Bool.false_and, Bool.and_false, Bool.true_or, Bool.or_true, Bool.false_or, Bool.or_false, Bool.not_true, Bool.not_false, decide_true, decide_false, Bool.true_eq_false, Bool.false_eq_true, p1, htx, show b2i false = 0 from rfl, r1]
  · have hb67 : b2i (decide (w = 67)) = 0 := by rw [decide_eq_false e]; rfl
    rw [hb67] at htx
    cases st with
    | true =>
      have e9 : connA (s, t, (up, dn), (w, cf', tf'), (ga, gl, gp), h9) true = (5, 0, (up, dn ++ [5, 0, 0, 1, 0, 0, 0, 0, 0, 0]), (w, cf', tf'), (ga, gl, gp), h0) := by
        unfold connA
        rw [if_neg e, if_pos rfl]
      rw [e9]
      obtain ⟨i1, r1, o1, f1⟩ := ou_reply (d := d) (lg := lg) (cc := cc) (ss := ss) (r := 0) hS h1 (by omega)
      rw [if_pos rfl, if_pos rfl, if_pos rfl] at o1
      obtain ⟨i2, r2, o2, f2⟩ := ou_enter (d := d + 1) (lg := lg) (cc := cc) (ss := ss) (s := 5) hS o1
      rw [if_neg (by decide)] at o2
      refine ⟨i2, ?_, ⟨hb, cf', tf', o2, fun _ => ⟨rfl, rfl⟩, fun z => absurd z (by show ¬ 5 < 4; decide)⟩, fun b hb => by rw [f2 b (by omega) (by omega), f1 b (by omega)]⟩
      simp only [sg_X1_endConnecting_0, sg_X1_endConnecting_40, sg_X1_endConnecting_24, sg_X1_endConnecting_49, ↓reduceIte, mk_sh, mk_rf, mk_it, mk_lg, mk_cc, mk_ss, mk_si, mk_sl, mk_th, mq_u_s, ↓mq_b_d, mq_r_s, mq_a_s, mq_l_s, ck_mk, ck_ite, if_true, if_false, ite_true, ite_false, Nat.le_refl, and_self, and_true, true_and, or_true, true_or, or_false, false_or, eq_self, ck_none, Nat.reduceAdd, Nat.reduceLT, Nat.reduceLeDiff, Nat.reduceEqDiff, Nat.reduceSub, Nat.reduceMul, Int32.reduceLT, Int32.reduceLE, Int32.reduceOfNat, Int32.reduceToNatClampNeg, not_true_eq_false, not_false_eq_true, Nat.add_zero, cl_eq, clr_n, clr_v, clr_x, clr_ite, cr_eq, crr_n, crr_v, crr_ite, List.length_cons, List.length_nil, ct_0, ne_0_1, ne_0_2, ne_0_3, ne_0_4, ne_0_5, ne_0_6, ne_0_7, ne_0_8, ne_1_0, ne_1_2, ne_1_3, ne_1_4, ne_1_5, ne_1_6, ne_1_7, ne_1_8, ne_2_0, ne_2_1, ne_2_3, ne_2_4, ne_2_5, ne_2_6, ne_2_7, ne_2_8, ne_3_0, ne_3_1, ne_3_2, ne_3_4, ne_3_5, ne_3_6, ne_3_7, ne_3_8, ne_4_0, ne_4_1, ne_4_2, ne_4_3, ne_4_5, ne_4_6, ne_4_7, ne_4_8, ne_5_0, ne_5_1, ne_5_2, ne_5_3, ne_5_4, ne_5_6, ne_5_7, ne_5_8, ne_6_0, ne_6_1, ne_6_2, ne_6_3, ne_6_4, ne_6_5, ne_6_7, ne_6_8, ne_7_0, ne_7_1, ne_7_2, ne_7_3, ne_7_4, ne_7_5, ne_7_6, ne_7_8, ne_8_0, ne_8_1, ne_8_2, ne_8_3, ne_8_4, ne_8_5, ne_8_6, ne_8_7, Bool.and_self, Bool.or_self, Bool.true_and, Bool.and_true, Bool.false_and, Bool.and_false, Bool.true_or, Bool.or_true, Bool.false_or, Bool.or_false, Bool.not_true, Bool.not_false, decide_true, decide_false, Bool.true_eq_false, Bool.false_eq_true, p1, htx, show b2i true = 1 from rfl, r1, r2]
    | false =>
      have e9 : connA (s, t, (up, dn), (w, cf', tf'), (ga, gl, gp), h9) false = (6, 0, ([], dn ++ [5, 5, 0, 1, 0, 0, 0, 0, 0, 0]), (w, cf', tf'), (ga, gl, gp), h0) := by
        unfold connA
        rw [if_neg e, if_neg (by decide)]
      rw [e9]
      obtain ⟨i1, r1, o1, f1⟩ := ou_reply (d := d) (lg := lg) (cc := cc) (ss := ss) (r := 5) hS h1 (by omega)
      rw [if_neg (by decide), if_neg (by decide), if_neg (by decide)] at o1
      refine ⟨i1, ?_, ⟨hb, cf', tf', o1, fun _ => ⟨rfl, rfl⟩, fun z => absurd z (by show ¬ 6 < 4; decide)⟩, fun b hb => f1 b (by omega)⟩
      simp only [sg_X1_endConnecting_0, sg_X1_endConnecting_40, sg_X1_endConnecting_24, sg_X1_endConnecting_49, ↓reduceIte, mk_sh, mk_rf, mk_it, mk_lg, mk_cc, mk_ss, mk_si, mk_sl, mk_th, mq_u_s, ↓mq_b_d, mq_r_s, mq_a_s, mq_l_s, ck_mk, ck_ite, if_true, if_false, ite_true, ite_false, Nat.le_refl, and_self, and_true, true_and, or_true, true_or, or_false, false_or, eq_self, ck_none, Nat.reduceAdd, Nat.reduceLT, Nat.reduceLeDiff, Nat.reduceEqDiff, Nat.reduceSub, Nat.reduceMul, Int32.reduceLT, Int32.reduceLE, Int32.reduceOfNat, Int32.reduceToNatClampNeg, not_true_eq_false, not_false_eq_true, Nat.add_zero, cl_eq, clr_n, clr_v, clr_x, clr_ite, cr_eq, crr_n, crr_v, crr_ite, List.length_cons, List.length_nil, ct_0, ne_0_1, ne_0_2, ne_0_3, ne_0_4, ne_0_5, ne_0_6, ne_0_7, ne_0_8, ne_1_0, ne_1_2, ne_1_3, ne_1_4, ne_1_5, ne_1_6, ne_1_7, ne_1_8, ne_2_0, ne_2_1, ne_2_3, ne_2_4, ne_2_5, ne_2_6, ne_2_7, ne_2_8, ne_3_0, ne_3_1, ne_3_2, ne_3_4, ne_3_5, ne_3_6, ne_3_7, ne_3_8, ne_4_0, ne_4_1, ne_4_2, ne_4_3, ne_4_5, ne_4_6, ne_4_7, ne_4_8, ne_5_0, ne_5_1, ne_5_2, ne_5_3, ne_5_4, ne_5_6, ne_5_7, ne_5_8, ne_6_0, ne_6_1, ne_6_2, ne_6_3, ne_6_4, ne_6_5, ne_6_7, ne_6_8, ne_7_0, ne_7_1, ne_7_2, ne_7_3, ne_7_4, ne_7_5, ne_7_6, ne_7_8, ne_8_0, ne_8_1, ne_8_2, ne_8_3, ne_8_4, ne_8_5, ne_8_6, ne_8_7, Bool.and_self, Bool.or_self, Bool.true_and, Bool.and_true, Bool.false_and, Bool.and_false, Bool.true_or, Bool.or_true, Bool.false_or, Bool.or_false, Bool.not_true, Bool.not_false, decide_true, decide_false, Bool.true_eq_false, Bool.false_eq_true, p1, htx, show b2i false = 0 from rfl, r1]
end PU19
