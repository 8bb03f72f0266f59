section PU16
variable {rf : Nat → Nat → Option Nat} {it : Nat → Nat → Int32} {lg : Nat → Nat → Int64} {cc ss d : Nat}
theorem hs_4 {a b n1 n2 n3 n4 : Nat} {dn l1 l2 : List Int32} {rs : List A_ru} {as : List A_ac} (hR : RfOk rf) (hS : CnS rf a) (hb : b < 256) (hB : BkC it rs as) (hd : dn.length ≤ 4) (hOk : HsOk 3 5 (4, n1, n2, n3, n4, l1, l2)) (hO : OuH it a 3 dn 1 5) (hH : HsC it a 1 (4, n1, n2, n3, n4, l1, l2)) (ha : 47 ≤ a) : ∃ it9, mm_run md 9000 (d + 5) 16 [.ref a, .int (Int32.ofNat b)] (mk rf it lg cc ss) = some (.inl none, mk rf it9 lg cc ss) ∧ CnC it9 a (st4 rs dn n1 n2 n3 n4 l1 b) ∧ ∀ b, b < a ∨ a + 20 ≤ b → it9 b = it b := by
  obtain ⟨-, ⟨g1, g2, g3, g4⟩, g5, g6⟩ := hH
  obtain ⟨-, k1, k2, k3, k4, k5, k6, k7, k8, k9, k10, k11, k12⟩ := hOk
  have hOx : ∀ x : Nat → Nat → Int32, (∀ r, r < a + 14 ∨ a + 17 ≤ r → x r = it r) → OuH x a 3 dn 1 5 := fun x hx => OuC.row hO (fun r z1 z2 => hx r (by omega))
  match n1, k1 with
  | 0, _ =>
    have e1 := k8 (by decide)
    have e3 := k6 (by decide)
    subst e1 e3
    have hr := rr_0 (d := d + 2) (lg := lg) (cc := cc) (ss := ss) hS hb g1
    have hX : ∀ r, r ≠ a + 14 → mm_u2 it (a + 14) 1 1 r = it r := fun r q => u2_row q
    show ∃ it9, _ ∧ CnC it9 a (if b = 5 then goOn dn 3 5 (4, 1, 0, 0, 0, [], []) else endH dn 5 (0, 0, 0)) ∧ _
    by_cases e : b = 5
    · rw [if_pos e] at hr ⊢
      refine ⟨_, hq_more hS hr, mkH (hb := 1) (hOx _ (fun r q => hX r (by omega))) (fun _ => ⟨rfl, ⟨u2_at, ?_, ?_, g4.row (hX _ (by omega)) (hX _ (by omega))⟩, fun z => absurd z (by decide), fun z => absurd z (by decide)⟩), fun r q => hX r (by omega)⟩
      · rw [u2_nk (by decide)]; exact g2
      · rw [u2_nk (by decide)]; exact g3
    · rw [if_neg e] at hr ⊢
      obtain ⟨i1, r1, o1, f1⟩ := hq_brok (d := d) hS hr (hOx _ (fun r q => hX r (by omega)))
      exact ⟨i1, r1, o1, fun r q => by rw [f1 r q, hX r (by omega)]⟩
  | 1, _ =>
    have e1 := k8 (by decide)
    have e3 := k6 (by decide)
    subst e1 e3
    have hr := rr_1 (d := d + 2) (lg := lg) (cc := cc) (ss := ss) (B := Int32.ofNat b) hS g1
    have hX : ∀ r, r ≠ a + 14 → mm_u2 (mm_u2 it (a + 14) 1 2) (a + 14) 3 (Int32.ofNat b) r = it r := fun r q => by rw [u2_row q, u2_row q]
    show ∃ it9, _ ∧ CnC it9 a (goOn dn 3 5 (4, 2, 0, 0, b, [], [])) ∧ _
    refine ⟨_, hq_more hS hr, mkH (hb := 1) (hOx _ (fun r q => hX r (by omega))) (fun _ => ⟨rfl, ⟨?_, ?_, ?_, g4.row (hX _ (by omega)) (hX _ (by omega))⟩, fun z => absurd z (by decide), fun z => u2_at⟩), fun r q => hX r (by omega)⟩
    · rw [u2_nk (by decide), u2_at]; rfl
    · rw [u2_nk (by decide), u2_nk (by decide)]; exact g2
    · rw [u2_nk (by decide), u2_nk (by decide)]; exact g3
  | 2, _ =>
    have e1 := k8 (by decide)
    have e3 := k6 (by decide)
    subst e1 e3
    have hr := rr_2 (d := d + 2) (lg := lg) (cc := cc) (ss := ss) hS hb g1
    have hX : ∀ r, r ≠ a + 14 → mm_u2 it (a + 14) 1 3 r = it r := fun r q => u2_row q
    show ∃ it9, _ ∧ CnC it9 a (if b = 0 then goOn dn 3 5 (4, 3, 0, 0, n4, [], []) else endH dn 5 (0, 0, 0)) ∧ _
    by_cases e : b = 0
    · rw [if_pos e] at hr ⊢
      refine ⟨_, hq_more hS hr, mkH (hb := 1) (hOx _ (fun r q => hX r (by omega))) (fun _ => ⟨rfl, ⟨u2_at, ?_, ?_, g4.row (hX _ (by omega)) (hX _ (by omega))⟩, fun z => absurd z (by decide), fun z => ?_⟩), fun r q => hX r (by omega)⟩
      · rw [u2_nk (by decide)]; exact g2
      · rw [u2_nk (by decide)]; exact g3
      · rw [u2_nk (by decide)]; exact g6 (by decide)
    · rw [if_neg e] at hr ⊢
      obtain ⟨i1, r1, o1, f1⟩ := hq_brok (d := d) hS hr (hOx _ (fun r q => hX r (by omega)))
      exact ⟨i1, r1, o1, fun r q => by rw [f1 r q, hX r (by omega)]⟩
  | 3, _ =>
    have e1 := k8 (by decide)
    have e3 := k6 (by decide)
    subst e1 e3
    have hr := rr_3 (d := d + 2) (lg := lg) (cc := cc) (ss := ss) hS hb g1
    have hX : ∀ r, r ≠ a + 14 → mm_u2 (mm_u2 it (a + 14) 1 (if b = 1 then 4 else 5)) (a + 14) 2 4 r = it r := fun r q => by rw [u2_row q, u2_row q]
    have h1 : mm_u2 (mm_u2 it (a + 14) 1 (if b = 1 then 4 else 5)) (a + 14) 2 4 (a + 14) 1 = if b = 1 then 4 else 5 := by rw [u2_nk (by decide), u2_at]
    have h2 : mm_u2 (mm_u2 it (a + 14) 1 (if b = 1 then 4 else 5)) (a + 14) 2 4 (a + 14) 2 = 4 := u2_at
    have h3 : ∀ k, k ≠ 1 → k ≠ 2 → mm_u2 (mm_u2 it (a + 14) 1 (if b = 1 then 4 else 5)) (a + 14) 2 4 (a + 14) k = it (a + 14) k := fun k q1 q2 => by rw [u2_nk q2, u2_nk q1]
    generalize mm_u2 (mm_u2 it (a + 14) 1 (if b = 1 then 4 else 5)) (a + 14) 2 4 = x at hr hX h1 h2 h3
    show ∃ it9, _ ∧ CnC it9 a (if b = 1 then goOn dn 3 5 (4, 5, 4, 0, n4, [], []) else if b = 3 then goOn dn 3 5 (4, 4, 0, 1, n4, [], []) else endH (dn ++ rep 8) 5 (0, 0, 0)) ∧ _
    by_cases e : b = 1
    · rw [if_pos (Or.inl e)] at hr
      rw [if_pos e] at h1 ⊢
      refine ⟨x, hq_more hS hr, mkH (hb := 1) (hOx _ (fun r q => hX r (by omega))) (fun _ => ⟨rfl, ⟨h1, ?_, ?_, g4.row (hX _ (by omega)) (hX _ (by omega))⟩, fun z => h2, fun z => ?_⟩), fun r q => hX r (by omega)⟩
      · rw [h3 _ (by decide) (by decide)]; exact g2
      · rw [h3 _ (by decide) (by decide)]; exact g3
      · rw [h3 _ (by decide) (by decide)]; exact g6 (by decide)
    · by_cases e3 : b = 3
      · rw [if_pos (Or.inr e3)] at hr
        rw [if_neg e] at h1 ⊢
        rw [if_pos e3]
        refine ⟨x, hq_more hS hr, mkH (hb := 1) (hOx _ (fun r q => hX r (by omega))) (fun _ => ⟨rfl, ⟨h1, ?_, ?_, g4.row (hX _ (by omega)) (hX _ (by omega))⟩, fun z => absurd z (by decide), fun z => ?_⟩), fun r q => hX r (by omega)⟩
        · rw [h3 _ (by decide) (by decide)]; exact g2
        · rw [h3 _ (by decide) (by decide)]; exact g3
        · rw [h3 _ (by decide) (by decide)]; exact g6 (by decide)
      · rw [if_neg (fun z => z.elim e e3)] at hr
        rw [if_neg e, if_neg e3]
        obtain ⟨i1, r1, o1, f1⟩ := ou_no (d := d + 1) (lg := lg) (cc := cc) (ss := ss) (w := 5) (r := 8) hS rfl (hOx x (fun r q => hX r (by omega))) (by omega) (by decide)
        refine ⟨i1, ?_, o1, fun r q => by rw [f1 r q, hX r (by omega)]⟩
        have p1 := hS.1.1
        have p := hS.2.2.2.1
        rw [en_X1_hearRequest]
        simp only [sg_X1_hearRequest_0, ↓reduceIte, mk_sh, mk_rf, mk_it, mk_lg, mk_cc, mk_ss, mk_si, mk_sl, mk_th, mq_u_s, ↓mq_b_d, mq_r_s, mq_a_s, mq_l_s, ck_mk, ck_ite, if_true, if_false, ite_true, ite_false, Nat.le_refl, and_self, and_true, true_and, or_true, true_or, or_false, false_or, eq_self, ck_none, Nat.reduceAdd, Nat.reduceLT, Nat.reduceLeDiff, Nat.reduceEqDiff, Nat.reduceSub, Nat.reduceMul, Int32.reduceLT, Int32.reduceLE, Int32.reduceOfNat, Int32.reduceToNatClampNeg, not_true_eq_false, not_false_eq_true, Nat.add_zero, cl_eq, clr_n, clr_v, clr_x, clr_ite, cr_eq, crr_n, crr_v, crr_ite, List.length_cons, List.length_nil, ct_0, ne_0_1, ne_0_2, ne_0_3, ne_0_4, ne_0_5, ne_0_6, ne_0_7, ne_0_8, ne_1_0, ne_1_2, ne_1_3, ne_1_4, ne_1_5, ne_1_6, ne_1_7, ne_1_8, ne_2_0, ne_2_1, ne_2_3, ne_2_4, ne_2_5, ne_2_6, ne_2_7, ne_2_8, ne_3_0, ne_3_1, ne_3_2, ne_3_4, ne_3_5, ne_3_6, ne_3_7, ne_3_8, ne_4_0, ne_4_1, ne_4_2, ne_4_3, ne_4_5, ne_4_6, ne_4_7, ne_4_8, ne_5_0, ne_5_1, ne_5_2, ne_5_3, ne_5_4, ne_5_6, ne_5_7, ne_5_8, ne_6_0, ne_6_1, ne_6_2, ne_6_3, ne_6_4, ne_6_5, ne_6_7, ne_6_8, ne_7_0, ne_7_1, ne_7_2, ne_7_3, ne_7_4, ne_7_5, ne_7_6, ne_7_8, ne_8_0, ne_8_1, ne_8_2, ne_8_3, ne_8_4, ne_8_5, ne_8_6, ne_8_7, Bool.and_self, Bool.or_self, Bool.true_and, Bool.and_true, Bool.false_and, Bool.and_false, Bool.true_or, Bool.or_true, Bool.false_or, Bool.or_false, Bool.not_true, Bool.not_false, decide_true, decide_false, Bool.true_eq_false, Bool.false_eq_true, p1, p.1, p.2.1, hr]
        rw [sg_X1_hearRequest_8, mq_b_d, if_pos (by decide), mq_b_d, if_neg (by decide)]
        simp only [sg_X1_hearRequest_34, ↓reduceIte, mk_sh, mk_rf, mk_it, mk_lg, mk_cc, mk_ss, mk_si, mk_sl, mk_th, mq_u_s, ↓mq_b_d, mq_r_s, mq_a_s, mq_l_s, ck_mk, ck_ite, if_true, if_false, ite_true, ite_false, Nat.le_refl, and_self, and_true, true_and, or_true, true_or, or_false, false_or, eq_self, ck_none, Nat.reduceAdd, Nat.reduceLT, Nat.reduceLeDiff, Nat.reduceEqDiff, Nat.reduceSub, Nat.reduceMul, Int32.reduceLT, Int32.reduceLE, Int32.reduceOfNat, Int32.reduceToNatClampNeg, not_true_eq_false, not_false_eq_true, Nat.add_zero, cl_eq, clr_n, clr_v, clr_x, clr_ite, cr_eq, crr_n, crr_v, crr_ite, List.length_cons, List.length_nil, ct_0, ne_0_1, ne_0_2, ne_0_3, ne_0_4, ne_0_5, ne_0_6, ne_0_7, ne_0_8, ne_1_0, ne_1_2, ne_1_3, ne_1_4, ne_1_5, ne_1_6, ne_1_7, ne_1_8, ne_2_0, ne_2_1, ne_2_3, ne_2_4, ne_2_5, ne_2_6, ne_2_7, ne_2_8, ne_3_0, ne_3_1, ne_3_2, ne_3_4, ne_3_5, ne_3_6, ne_3_7, ne_3_8, ne_4_0, ne_4_1, ne_4_2, ne_4_3, ne_4_5, ne_4_6, ne_4_7, ne_4_8, ne_5_0, ne_5_1, ne_5_2, ne_5_3, ne_5_4, ne_5_6, ne_5_7, ne_5_8, ne_6_0, ne_6_1, ne_6_2, ne_6_3, ne_6_4, ne_6_5, ne_6_7, ne_6_8, ne_7_0, ne_7_1, ne_7_2, ne_7_3, ne_7_4, ne_7_5, ne_7_6, ne_7_8, ne_8_0, ne_8_1, ne_8_2, ne_8_3, ne_8_4, ne_8_5, ne_8_6, ne_8_7, Bool.and_self, Bool.or_self, Bool.true_and, Bool.and_true, Bool.false_and, Bool.and_false, Bool.true_or, Bool.or_true, Bool.false_or, Bool.or_false, Bool.not_true, Bool.not_false, decide_true, decide_false, Bool.true_eq_false, Bool.false_eq_true, p1, r1]
  | 4, _ =>
    have e1 := k8 (by decide)
    have e3 := k7 rfl
    subst e1 e3
    have hr := rr_5 (d := d + 2) (lg := lg) (cc := cc) (ss := ss) hS hb g1
    have hX : ∀ r, r ≠ a + 14 → mm_u2 (mm_u2 it (a + 14) 1 6) (a + 14) 2 (Int32.ofNat b) r = it r := fun r q => by rw [u2_row q, u2_row q]
    show ∃ it9, _ ∧ CnC it9 a (if 1 ≤ b ∧ b ≤ 15 then goOn dn 3 5 (4, 5, b, 1, n4, [], []) else endH dn 5 (0, 0, 0)) ∧ _
    by_cases e : 1 ≤ b ∧ b ≤ 15
    · rw [if_pos e] at hr ⊢
      refine ⟨_, hq_more hS hr, mkH (hb := 1) (hOx _ (fun r q => hX r (by omega))) (fun _ => ⟨rfl, ⟨?_, ?_, ?_, g4.row (hX _ (by omega)) (hX _ (by omega))⟩, fun z => u2_at, fun z => ?_⟩), fun r q => hX r (by omega)⟩
      · rw [u2_nk (by decide), u2_at]; rfl
      · rw [u2_nk (by decide), u2_nk (by decide)]; exact g2
      · rw [u2_nk (by decide), u2_nk (by decide)]; exact g3
      · rw [u2_nk (by decide), u2_nk (by decide)]; exact g6 (by decide)
    · rw [if_neg e] at hr ⊢
      obtain ⟨i1, r1, o1, f1⟩ := hq_brok (d := d) hS hr (hOx _ (fun r q => hX r (by omega)))
      exact ⟨i1, r1, o1, fun r q => by rw [f1 r q, hX r (by omega)]⟩
  | 5, _ =>
    obtain ⟨m1, m2, m3⟩ := k9 rfl
    have g5' := g5 (by decide)
    rw [if_pos rfl] at g5'
    have g6' := g6 (by decide)
    show ∃ it9, _ ∧ CnC it9 a (if n2 = 1 then goOn dn 3 5 (4, 6, 0, n3, n4, l1 ++ [Int32.ofNat b], []) else goOn dn 3 5 (4, 5, n2 - 1, n3, n4, l1 ++ [Int32.ofNat b], [])) ∧ _
    rcases (show n3 = 0 ∨ n3 = 1 by omega) with rfl | rfl
    · have hl3 := m3 rfl
      have hr := rr_a (d := d + 2) (lg := lg) (cc := cc) (ss := ss) hS hb m1 (by omega) (adr_24 k4 (by omega)) g1 g5' g2
      have hX : ∀ r, r ≠ a + 14 → gpS (mm_u2 it (a + 14) 4 (Int32.ofNat (adr l1 0 * 256 + b))) a n2 r = it r := fun r q => by rw [gpS_row q, u2_row q]
      have h1 : gpS (mm_u2 it (a + 14) 4 (Int32.ofNat (adr l1 0 * 256 + b))) a n2 (a + 14) 1 = if n2 = 1 then 7 else 4 := by rw [gpS_1, u2_nk (by decide), g1]; rfl
      have h2 : gpS (mm_u2 it (a + 14) 4 (Int32.ofNat (adr l1 0 * 256 + b))) a n2 (a + 14) 2 = if n2 = 1 then 2 else Int32.ofNat (n2 - 1) := gpS_2
      have h3 : gpS (mm_u2 it (a + 14) 4 (Int32.ofNat (adr l1 0 * 256 + b))) a n2 (a + 14) 3 = Int32.ofNat n4 := by rw [gpS_k (by decide) (by decide), u2_nk (by decide)]; exact g6'
      have h4 : gpS (mm_u2 it (a + 14) 4 (Int32.ofNat (adr l1 0 * 256 + b))) a n2 (a + 14) 4 = Int32.ofNat (adr (l1 ++ [Int32.ofNat b]) 0) := by rw [gpS_k (by decide) (by decide), u2_at, adr_app _ _ _ hb]
      have h5 : gpS (mm_u2 it (a + 14) 4 (Int32.ofNat (adr l1 0 * 256 + b))) a n2 (a + 14) 5 = 0 := by rw [gpS_k (by decide) (by decide), u2_nk (by decide)]; exact g3
      generalize gpS (mm_u2 it (a + 14) 4 (Int32.ofNat (adr l1 0 * 256 + b))) a n2 = x at hr hX h1 h2 h3 h4 h5
      refine ⟨x, hq_more hS hr, ?_, fun r q => hX r (by omega)⟩
      by_cases e : n2 = 1
      · rw [if_pos e] at h1 h2 ⊢
        exact mkH (hb := 1) (hOx _ (fun r q => hX r (by omega))) (fun _ => ⟨rfl, ⟨h1, h4, h5, g4.row (hX _ (by omega)) (hX _ (by omega))⟩, fun z => h2, fun z => h3⟩)
      · rw [if_neg e] at h1 h2 ⊢
        exact mkH (hb := 1) (hOx _ (fun r q => hX r (by omega))) (fun _ => ⟨rfl, ⟨h1, h4, h5, g4.row (hX _ (by omega)) (hX _ (by omega))⟩, fun z => h2, fun z => h3⟩)
    · rw [if_pos rfl] at g4
      have hr := rr_n (d := d + 2) (lg := lg) (cc := cc) (ss := ss) hS hb m1 (by omega) (by omega) g1 g5' g4
      have hX : ∀ r, r < a + 14 ∨ a + 17 ≤ r → gpS (txp it (a + 15) l1.length (Int32.ofNat b)) a n2 r = it r := fun r q => by rw [gpS_row (by omega), txp_row (by omega) (by omega)]
      have h1 : gpS (txp it (a + 15) l1.length (Int32.ofNat b)) a n2 (a + 14) 1 = if n2 = 1 then 7 else 6 := by rw [gpS_1, txp_row (by omega) (by omega), g1]; rfl
      have h2 : gpS (txp it (a + 15) l1.length (Int32.ofNat b)) a n2 (a + 14) 2 = if n2 = 1 then 2 else Int32.ofNat (n2 - 1) := gpS_2
      have h3 : gpS (txp it (a + 15) l1.length (Int32.ofNat b)) a n2 (a + 14) 3 = Int32.ofNat n4 := by rw [gpS_k (by decide) (by decide), txp_row (by omega) (by omega)]; exact g6'
      have h4 : gpS (txp it (a + 15) l1.length (Int32.ofNat b)) a n2 (a + 14) 4 = 0 := by rw [gpS_k (by decide) (by decide), txp_row (by omega) (by omega)]; exact g2
      have h5 : gpS (txp it (a + 15) l1.length (Int32.ofNat b)) a n2 (a + 14) 5 = 0 := by rw [gpS_k (by decide) (by decide), txp_row (by omega) (by omega)]; exact g3
      have h6 : TxC (gpS (txp it (a + 15) l1.length (Int32.ofNat b)) a n2) (a + 15) (l1 ++ [Int32.ofNat b]) := TxC.row (txp_ok g4 (by omega)) (gpS_row (by omega)) (gpS_row (by omega))
      generalize gpS (txp it (a + 15) l1.length (Int32.ofNat b)) a n2 = x at hr hX h1 h2 h3 h4 h5 h6
      refine ⟨x, hq_more hS hr, ?_, fun r q => hX r (by omega)⟩
      by_cases e : n2 = 1
      · rw [if_pos e] at h1 h2 ⊢
        exact mkH (hb := 1) (hOx _ hX) (fun _ => ⟨rfl, ⟨h1, h4, h5, h6⟩, fun z => h2, fun z => h3⟩)
      · rw [if_neg e] at h1 h2 ⊢
        exact mkH (hb := 1) (hOx _ hX) (fun _ => ⟨rfl, ⟨h1, h4, h5, h6⟩, fun z => h2, fun z => h3⟩)
  | 6, _ =>
    have g5' := g5 (by decide)
    have hr := rr_p (d := d + 2) (lg := lg) (cc := cc) (ss := ss) (P := 0) (n := 2) hS hb (by decide) (by decide) (by decide) g1 g5' g3
    rw [Nat.zero_mul, Nat.zero_add] at hr
    have hX : ∀ r, r ≠ a + 14 → mm_u2 (mm_u2 it (a + 14) 5 (Int32.ofNat b)) (a + 14) 2 (Int32.ofNat (2 - 1)) r = it r := fun r q => by rw [u2_row q, u2_row q]
    show ∃ it9, _ ∧ CnC it9 a (goOn dn 3 5 (4, 7, b, n3, n4, l1, [])) ∧ _
    refine ⟨_, hq_more hS hr, mkH (hb := 1) (hOx _ (fun r q => hX r (by omega))) (fun _ => ⟨rfl, ⟨?_, ?_, ?_, g4.row (hX _ (by omega)) (hX _ (by omega))⟩, fun z => u2_at, fun z => ?_⟩), fun r q => hX r (by omega)⟩
    · rw [u2_nk (by decide), u2_nk (by decide)]; exact g1
    · rw [u2_nk (by decide), u2_nk (by decide)]; exact g2
    · rw [u2_nk (by decide), u2_at]; rfl
    · rw [u2_nk (by decide), u2_nk (by decide)]; exact g6 (by decide)
  | 7, _ =>
    have g5' := g5 (by decide)
    have hr := rr_p (d := d + 2) (lg := lg) (cc := cc) (ss := ss) (P := n2) (n := 1) hS hb (k12 rfl) (by decide) (by decide) g1 g5' g3
    rw [if_pos rfl] at hr
    have hX : ∀ r, r ≠ a + 14 → mm_u2 (mm_u2 it (a + 14) 5 (Int32.ofNat (n2 * 256 + b))) (a + 14) 2 (Int32.ofNat (1 - 1)) r = it r := fun r q => by rw [u2_row q, u2_row q]
    have hQ : RqC (mm_u2 (mm_u2 it (a + 14) 5 (Int32.ofNat (n2 * 256 + b))) (a + 14) 2 (Int32.ofNat (1 - 1))) a 7 (if n3 = 1 then 0 else Int32.ofNat (adr l1 0)) (Int32.ofNat (n2 * 256 + b)) (if n3 = 1 then l1 else []) := by
      refine ⟨?_, ?_, ?_, g4.row (hX _ (by omega)) (hX _ (by omega))⟩
      · rw [u2_nk (by decide), u2_nk (by decide)]; exact g1
      · rw [u2_nk (by decide), u2_nk (by decide)]; exact g2
      · rw [u2_nk (by decide), u2_at]
    have h3 : mm_u2 (mm_u2 it (a + 14) 5 (Int32.ofNat (n2 * 256 + b))) (a + 14) 2 (Int32.ofNat (1 - 1)) (a + 14) 3 = Int32.ofNat n4 := by rw [u2_nk (by decide), u2_nk (by decide)]; exact g6 (by decide)
    generalize mm_u2 (mm_u2 it (a + 14) 5 (Int32.ofNat (n2 * 256 + b))) (a + 14) 2 (Int32.ofNat (1 - 1)) = x at hr hX hQ h3
    have hC : ∀ v ∈ (if n3 = 1 then l1 else []), isC v := by
      intro v hv
      by_cases e : n3 = 1
      · rw [if_pos e] at hv; exact (k4 v hv).isC
      · rw [if_neg e] at hv; cases hv
    obtain ⟨i1, r1, o1, f1⟩ := hq_judge (d := d) (lg := lg) (cc := cc) (ss := ss) hR hS ha (hB.row (hX 1 (by omega)) (fun r z1 z2 => hX r (by omega))) (hOx x (fun r q => hX r (by omega))) hQ hC h3 k3 hd
    refine ⟨i1, ?_, ?_, fun r q => by rw [f1 r q, hX r (by omega)]⟩
    · have p1 := hS.1.1
      have p := hS.2.2.2.1
      rw [en_X1_hearRequest]
      simp only [sg_X1_hearRequest_0, ↓reduceIte, mk_sh, mk_rf, mk_it, mk_lg, mk_cc, mk_ss, mk_si, mk_sl, mk_th, mq_u_s, ↓mq_b_d, mq_r_s, mq_a_s, mq_l_s, ck_mk, ck_ite, if_true, if_false, ite_true, ite_false, Nat.le_refl, and_self, and_true, true_and, or_true, true_or, or_false, false_or, eq_self, ck_none, Nat.reduceAdd, Nat.reduceLT, Nat.reduceLeDiff, Nat.reduceEqDiff, Nat.reduceSub, Nat.reduceMul, Int32.reduceLT, Int32.reduceLE, Int32.reduceOfNat, Int32.reduceToNatClampNeg, not_true_eq_false, not_false_eq_true, Nat.add_zero, cl_eq, clr_n, clr_v, clr_x, clr_ite, cr_eq, crr_n, crr_v, crr_ite, List.length_cons, List.length_nil, ct_0, ne_0_1, ne_0_2, ne_0_3, ne_0_4, ne_0_5, ne_0_6, ne_0_7, ne_0_8, ne_1_0, ne_1_2, ne_1_3, ne_1_4, ne_1_5, ne_1_6, ne_1_7, ne_1_8, ne_2_0, ne_2_1, ne_2_3, ne_2_4, ne_2_5, ne_2_6, ne_2_7, ne_2_8, ne_3_0, ne_3_1, ne_3_2, ne_3_4, ne_3_5, ne_3_6, ne_3_7, ne_3_8, ne_4_0, ne_4_1, ne_4_2, ne_4_3, ne_4_5, ne_4_6, ne_4_7, ne_4_8, ne_5_0, ne_5_1, ne_5_2, ne_5_3, ne_5_4, ne_5_6, ne_5_7, ne_5_8, ne_6_0, ne_6_1, ne_6_2, ne_6_3, ne_6_4, ne_6_5, ne_6_7, ne_6_8, ne_7_0, ne_7_1, ne_7_2, ne_7_3, ne_7_4, ne_7_5, ne_7_6, ne_7_8, ne_8_0, ne_8_1, ne_8_2, ne_8_3, ne_8_4, ne_8_5, ne_8_6, ne_8_7, Bool.and_self, Bool.or_self, Bool.true_and, Bool.and_true, Bool.false_and, Bool.and_false, Bool.true_or, Bool.or_true, Bool.false_or, Bool.or_false, Bool.not_true, Bool.not_false, decide_true, decide_false, Bool.true_eq_false, Bool.false_eq_true, p1, p.1, p.2.1, hr]
      rw [sg_X1_hearRequest_8, mq_b_d, if_pos (by decide), mq_b_d, if_pos (by decide), mq_b_d, if_neg (by decide)]
      simp only [sg_X1_hearRequest_46, ↓reduceIte, mk_sh, mk_rf, mk_it, mk_lg, mk_cc, mk_ss, mk_si, mk_sl, mk_th, mq_u_s, ↓mq_b_d, mq_r_s, mq_a_s, mq_l_s, ck_mk, ck_ite, if_true, if_false, ite_true, ite_false, Nat.le_refl, and_self, and_true, true_and, or_true, true_or, or_false, false_or, eq_self, ck_none, Nat.reduceAdd, Nat.reduceLT, Nat.reduceLeDiff, Nat.reduceEqDiff, Nat.reduceSub, Nat.reduceMul, Int32.reduceLT, Int32.reduceLE, Int32.reduceOfNat, Int32.reduceToNatClampNeg, not_true_eq_false, not_false_eq_true, Nat.add_zero, cl_eq, clr_n, clr_v, clr_x, clr_ite, cr_eq, crr_n, crr_v, crr_ite, List.length_cons, List.length_nil, ct_0, ne_0_1, ne_0_2, ne_0_3, ne_0_4, ne_0_5, ne_0_6, ne_0_7, ne_0_8, ne_1_0, ne_1_2, ne_1_3, ne_1_4, ne_1_5, ne_1_6, ne_1_7, ne_1_8, ne_2_0, ne_2_1, ne_2_3, ne_2_4, ne_2_5, ne_2_6, ne_2_7, ne_2_8, ne_3_0, ne_3_1, ne_3_2, ne_3_4, ne_3_5, ne_3_6, ne_3_7, ne_3_8, ne_4_0, ne_4_1, ne_4_2, ne_4_3, ne_4_5, ne_4_6, ne_4_7, ne_4_8, ne_5_0, ne_5_1, ne_5_2, ne_5_3, ne_5_4, ne_5_6, ne_5_7, ne_5_8, ne_6_0, ne_6_1, ne_6_2, ne_6_3, ne_6_4, ne_6_5, ne_6_7, ne_6_8, ne_7_0, ne_7_1, ne_7_2, ne_7_3, ne_7_4, ne_7_5, ne_7_6, ne_7_8, ne_8_0, ne_8_1, ne_8_2, ne_8_3, ne_8_4, ne_8_5, ne_8_6, ne_8_7, Bool.and_self, Bool.or_self, Bool.true_and, Bool.and_true, Bool.false_and, Bool.and_false, Bool.true_or, Bool.or_true, Bool.false_or, Bool.or_false, Bool.not_true, Bool.not_false, decide_true, decide_false, Bool.true_eq_false, Bool.false_eq_true, p1, r1]
    · have e9 : ((if n3 = 1 then l1 else []).all isNm = false) = (n3 = 1 ∧ l1.all isNm = false) := by
        by_cases e : n3 = 1
        · simp [e]
        · simp [e]
      show CnC i1 a (if n3 = 1 ∧ l1.all isNm = false then endH (dn ++ rep 1) 5 (0, 0, 0) else if n4 = 1 then jdA rs dn (rep 2) 5 (if n3 = 1 then 0 else Int32.ofNat (adr l1 0)) (if n3 = 1 then l1 else []) (Int32.ofNat (n2 * 256 + b)) else endH (dn ++ rep 7) 5 (0, 0, 0))
      simp only [e9] at o1
      exact o1
  | n + 8, k => omega
end PU16
