section PV10
variable {rf : Nat → Nat → Option Nat} {it : Nat → Nat → Int32} {lg : Nat → Nat → Int64} {cc ss d : Nat}
/-- what of the reference is connection c's own -/
def Ow (c b j : Nat) : Prop := (141 ≤ b ∧ b ≤ 158 ∧ ¬ b = 155 ∧ j = c) ∨ (b = 155 ∧ 20 * c ≤ j ∧ j < 20 * c + 20) ∨ (b = 159 ∧ (j = 2 * c ∨ j = 2 * c + 1)) ∨ (b = 160 ∧ 32 * c ≤ j ∧ j < 32 * c + 32)
def FrM (x y : Nat → Nat → Int32) (c : Nat) : Prop := ∀ b j, ¬ Ow c b j → y b j = x b j
theorem FrM.refl {x : Nat → Nat → Int32} {c : Nat} : FrM x x c := fun _ _ _ => rfl
theorem FrM.trans {x y z : Nat → Nat → Int32} {c : Nat} (h : FrM x y c) (h2 : FrM y z c) : FrM x z c := fun b j q => (h2 b j q).trans (h b j q)
theorem FrM.u2 {x y : Nat → Nat → Int32} {c b k : Nat} {v : Int32} (h : FrM x y c) (ho : Ow c b k) : FrM x (mm_u2 y b k v) c := by
  intro b9 j q
  by_cases e : b9 = b
  · subst e
    by_cases e2 : j = k
    · subst e2
      exact absurd ho q
    · rw [u2_nk e2]; exact h _ _ q
  · rw [u2_ne e]; exact h _ _ q
theorem FrM.lo {x y : Nat → Nat → Int32} {c : Nat} (h : FrM x y c) : ∀ b, b ≤ 140 → y b = x b := by
  intro b hb
  funext j
  refine h b j ?_
  unfold Ow
  omega
theorem FrM.desk {x y : Nat → Nat → Int32} {c : Nat} {pad : List Int32} {rs : List A_ru} {as : List A_ac} (h : FrM x y c) (hD : DkM x pad rs as) : DkM y pad rs as := by
  refine hD.row (fun k hk => h _ _ ?_) (fun a p q => h.lo a (by omega))
  unfold Ow
  omega
def RgM (y : Nat → Nat → Int32) (r : Nat) (l : List Int32) : Prop := l.length ≤ 16 ∧ y 159 r = Int32.ofNat l.length ∧ ∀ j, j < l.length → y 160 (16 * r + j) = l.getD j 0
theorem RgM.at {x y : Nat → Nat → Int32} {r : Nat} {l : List Int32} (h : RgM x r l) (h1 : y 159 r = x 159 r) (h2 : ∀ j, 16 * r ≤ j → j < 16 * r + 16 → y 160 j = x 160 j) : RgM y r l := by
  have hl := h.1
  exact ⟨h.1, by rw [h1]; exact h.2.1, fun j hj => by rw [h2 _ (by omega) (by omega)]; exact h.2.2 j hj⟩
def BfM (y : Nat → Nat → Int32) (c : Nat) (l : List Int32) : Prop := l.length ≤ 15 ∧ y 153 c = Int32.ofNat l.length ∧ ∀ k, k < l.length → y 155 (20 * c + k) = l.getD k 0
theorem BfM.at {x y : Nat → Nat → Int32} {c : Nat} {l : List Int32} (h : BfM x c l) (h1 : y 153 c = x 153 c) (h2 : ∀ j, 20 * c ≤ j → j < 20 * c + 20 → y 155 j = x 155 j) : BfM y c l := by
  have hl := h.1
  exact ⟨h.1, by rw [h1]; exact h.2.1, fun j hj => by rw [h2 _ (by omega) (by omega)]; exact h.2.2 j hj⟩
theorem BfM.nil {y : Nat → Nat → Int32} {c : Nat} (h : y 153 c = 0) : BfM y c [] := ⟨by decide, h, fun k hk => absurd hk (Nat.not_lt_zero _)⟩
/-- the reference's side of a handshake -/
def HsM (y : Nat → Nat → Int32) (c : Nat) : A_hs → Prop
  | (0, _, _, _, _, _, _) => y 148 c = 0 ∧ y 143 c = 0 ∧ BfM y c [] ∧ y 150 c = 0 ∧ y 151 c = 0
  | (1, _, _, _, _, _, _) => y 148 c = 0 ∧ y 143 c = 1
  | (2, n1, n2, n3, _, _, _) => y 143 c = 2 ∧ y 144 c = Int32.ofNat n1 ∧ y 148 c = Int32.ofNat (n2 + 4 * n3)
  | (3, n1, n2, n3, _, l1, l2) => y 143 c = Int32.ofNat n1 ∧ (n1 = 2 ∨ n1 = 4 → y 144 c = Int32.ofNat n2) ∧ (2 ≤ n1 → y 154 c = Int32.ofNat n3) ∧ BfM y c (l1 ++ l2)
  | (4, n1, n2, n3, n4, l1, _) => y 143 c = Int32.ofNat n1 ∧ (n1 = 5 → y 144 c = Int32.ofNat n2) ∧ (2 ≤ n1 → y 149 c = Int32.ofNat n4) ∧ (4 ≤ n1 → y 152 c = Int32.ofNat n3) ∧ BfM y c l1 ∧ (n1 = 7 → y 150 c = Int32.ofNat (256 * n2))
  | (5, n1, _, _, _, _, _) => y 143 c = Int32.ofNat n1 ∧ BfM y c [] ∧ y 150 c = 0 ∧ y 151 c = 0
  | (6, _, _, _, _, l1, _) => y 143 c = 8 ∧ BfM y c l1 ∧ y 150 c = 0 ∧ y 151 c = 0
  | (7, n1, n2, _, _, l1, _) => y 143 c = 9 ∧ BfM y c l1 ∧ y 151 c = Int32.ofNat n1 ∧ y 150 c = Int32.ofNat n2
  | (8, _, n2, _, _, l1, _) => y 143 c = 10 ∧ BfM y c l1 ∧ y 150 c = Int32.ofNat n2
  | _ => False
theorem HsM.at {x y : Nat → Nat → Int32} {c : Nat} {h : A_hs} (hh : HsM x c h) (h1 : ∀ b, 143 ≤ b → b ≤ 154 → ¬ b = 145 → y b c = x b c) (h2 : ∀ j, 20 * c ≤ j → j < 20 * c + 20 → y 155 j = x 155 j) : HsM y c h := by
  have e3 := h1 143 (by decide) (by decide) (by decide)
  have e4 := h1 144 (by decide) (by decide) (by decide)
  have e8 := h1 148 (by decide) (by decide) (by decide)
  have e9 := h1 149 (by decide) (by decide) (by decide)
  have e10 := h1 150 (by decide) (by decide) (by decide)
  have e11 := h1 151 (by decide) (by decide) (by decide)
  have e12 := h1 152 (by decide) (by decide) (by decide)
  have e14 := h1 154 (by decide) (by decide) (by decide)
  have hb : ∀ l, BfM x c l → BfM y c l := fun l hl => hl.at (h1 153 (by decide) (by decide) (by decide)) h2
  obtain ⟨tg, n1, n2, n3, n4, l1, l2⟩ := h
  match tg with
  | 0 => exact ⟨by rw [e8]; exact hh.1, by rw [e3]; exact hh.2.1, hb _ hh.2.2.1, by rw [e10]; exact hh.2.2.2.1, by rw [e11]; exact hh.2.2.2.2⟩
  | 1 => exact ⟨by rw [e8]; exact hh.1, by rw [e3]; exact hh.2⟩
  | 2 => exact ⟨by rw [e3]; exact hh.1, by rw [e4]; exact hh.2.1, by rw [e8]; exact hh.2.2⟩
  | 3 => exact ⟨by rw [e3]; exact hh.1, by rw [e4]; exact hh.2.1, by rw [e14]; exact hh.2.2.1, hb _ hh.2.2.2⟩
  | 4 => exact ⟨by rw [e3]; exact hh.1, by rw [e4]; exact hh.2.1, by rw [e9]; exact hh.2.2.1, by rw [e12]; exact hh.2.2.2.1, hb _ hh.2.2.2.2.1, by rw [e10]; exact hh.2.2.2.2.2⟩
  | 5 => exact ⟨by rw [e3]; exact hh.1, hb _ hh.2.1, by rw [e10]; exact hh.2.2.1, by rw [e11]; exact hh.2.2.2⟩
  | 6 => exact ⟨by rw [e3]; exact hh.1, hb _ hh.2.1, by rw [e10]; exact hh.2.2.1, by rw [e11]; exact hh.2.2.2⟩
  | 7 => exact ⟨by rw [e3]; exact hh.1, hb _ hh.2.1, by rw [e11]; exact hh.2.2.1, by rw [e10]; exact hh.2.2.2⟩
  | 8 => exact ⟨by rw [e3]; exact hh.1, hb _ hh.2.1, by rw [e10]; exact hh.2.2⟩
  | n + 9 => exact False.elim hh
def OuM (y : Nat → Nat → Int32) (c : Nat) (s t : Int32) (up dn : List Int32) (w cf tf ga gl gp : Int32) : Prop := (y 141 c = s ∧ y 145 c = t ∧ y 142 c = w ∧ y 146 c = cf ∧ y 147 c = tf) ∧ (y 156 c = ga ∧ y 157 c = gl ∧ y 158 c = gp) ∧ RgM y (2 * c) up ∧ RgM y (2 * c + 1) dn
theorem OuM.at {x y : Nat → Nat → Int32} {c : Nat} {s t : Int32} {up dn : List Int32} {w cf tf ga gl gp : Int32} (h : OuM x c s t up dn w cf tf ga gl gp) (h1 : ∀ b, b = 141 ∨ b = 142 ∨ b = 145 ∨ b = 146 ∨ b = 147 ∨ b = 156 ∨ b = 157 ∨ b = 158 → y b c = x b c) (h2 : y 159 (2 * c) = x 159 (2 * c)) (h3 : y 159 (2 * c + 1) = x 159 (2 * c + 1)) (h4 : ∀ j, 32 * c ≤ j → j < 32 * c + 32 → y 160 j = x 160 j) : OuM y c s t up dn w cf tf ga gl gp := by
  obtain ⟨⟨a1, a2, a3, a4, a5⟩, ⟨b1, b2, b3⟩, k1, k2⟩ := h
  refine ⟨⟨?_, ?_, ?_, ?_, ?_⟩, ⟨?_, ?_, ?_⟩, k1.at h2 (fun j p q => h4 j (by omega) (by omega)), k2.at h3 (fun j p q => h4 j (by omega) (by omega))⟩
  · rw [h1 141 (by decide)]; exact a1
  · rw [h1 145 (by decide)]; exact a2
  · rw [h1 142 (by decide)]; exact a3
  · rw [h1 146 (by decide)]; exact a4
  · rw [h1 147 (by decide)]; exact a5
  · rw [h1 156 (by decide)]; exact b1
  · rw [h1 157 (by decide)]; exact b2
  · rw [h1 158 (by decide)]; exact b3
/-- the reference's side of a connection -/
def CnM (y : Nat → Nat → Int32) (c : Nat) (q : A_cn) : Prop := (q.1 = 0 → y 141 c = 0 ∧ RgM y (2 * c) [] ∧ RgM y (2 * c + 1) []) ∧ (¬ q.1 = 0 → ∃ cf tf : Bool, OuM y c (Int32.ofNat q.1) (Int32.ofNat q.2.1) q.2.2.1.1 q.2.2.1.2 (Int32.ofNat q.2.2.2.1.1) (b2i cf) (b2i tf) q.2.2.2.2.1.1 q.2.2.2.2.1.2.1 q.2.2.2.2.1.2.2 ∧ (¬ q.1 = 6 → cf = q.2.2.2.1.2.1 ∧ tf = q.2.2.2.1.2.2) ∧ (q.1 < 4 → HsM y c q.2.2.2.2.2))
theorem CnM.fr {x y : Nat → Nat → Int32} {c e : Nat} {q : A_cn} (h : CnM x c q) (hf : FrM x y e) (hne : c ≠ e) : CnM y c q := by
  have h1 : ∀ b, 141 ≤ b → b ≤ 158 → ¬ b = 155 → y b c = x b c := fun b p1 p2 p3 => hf b c (by unfold Ow; omega)
  have h2 : ∀ j, 20 * c ≤ j → j < 20 * c + 20 → y 155 j = x 155 j := fun j p1 p2 => hf _ _ (by unfold Ow; omega)
  have h3 : ∀ j, 2 * c ≤ j → j < 2 * c + 2 → y 159 j = x 159 j := fun j p1 p2 => hf _ _ (by unfold Ow; omega)
  have h4 : ∀ j, 32 * c ≤ j → j < 32 * c + 32 → y 160 j = x 160 j := fun j p1 p2 => hf _ _ (by unfold Ow; omega)
  refine ⟨fun z => ?_, fun z => ?_⟩
  · obtain ⟨a1, a2, a3⟩ := h.1 z
    exact ⟨by rw [h1 141 (by decide) (by decide) (by decide)]; exact a1, a2.at (h3 _ (by omega) (by omega)) (fun j p q => h4 j (by omega) (by omega)), a3.at (h3 _ (by omega) (by omega)) (fun j p q => h4 j (by omega) (by omega))⟩
  · obtain ⟨cf, tf, k1, k2, k3⟩ := h.2 z
    exact ⟨cf, tf, k1.at (fun b hb => h1 b (by omega) (by omega) (by omega)) (h3 _ (by omega) (by omega)) (h3 _ (by omega) (by omega)) h4, k2, fun z => (k3 z).at (fun b p1 p2 p3 => h1 b (by omega) (by omega) (by omega)) h2⟩
def bcM (y : Nat → Nat → Int32) (c : Nat) (s : Int32) : Nat → Nat → Int32 := mm_u2 (mm_u2 (mm_u2 (mm_u2 (mm_u2 (mm_u2 y 141 c s) 145 c 0) 143 c 0) 153 c 0) 150 c 0) 151 c 0
/-- a new state -/
theorem om_become {c : Nat} {s s0 t w : Int32} {up dn : List Int32} {cf tf ga gl gp : Int32} (hR : RfOk rf) (hc : c < 4) (h : OuM it c s0 t up dn w cf tf ga gl gp) : ∃ it9, mm_run md 9000 (d + 1) 117 [.ref 127, .int (Int32.ofNat c), .int s] (mk rf it lg cc ss) = some (.inl none, mk rf it9 lg cc ss) ∧ OuM it9 c s 0 (if s = 6 then [] else up) dn w cf tf ga gl gp ∧ (it9 143 c = 0 ∧ it9 153 c = 0 ∧ it9 150 c = 0 ∧ it9 151 c = 0) ∧ (∀ b, b = 144 ∨ b = 148 ∨ b = 149 ∨ b = 152 ∨ b = 154 → it9 b = it b) ∧ FrM it it9 c := by
  have hF : FrM it (bcM it c s) c := by
    unfold bcM
    exact (((((FrM.refl.u2 (by unfold Ow; omega)).u2 (by unfold Ow; omega)).u2 (by unfold Ow; omega)).u2 (by unfold Ow; omega)).u2 (by unfold Ow; omega)).u2 (by unfold Ow; omega)
  have hO : OuM (bcM it c s) c s 0 up dn w cf tf ga gl gp := by
    obtain ⟨⟨a1, a2, a3, a4, a5⟩, ⟨b1, b2, b3⟩, k1, k2⟩ := h
    refine ⟨⟨?_, ?_, ?_, ?_, ?_⟩, ⟨?_, ?_, ?_⟩, k1.at ?_ (fun j p q => ?_), k2.at ?_ (fun j p q => ?_)⟩ <;> simp [bcM, mm_u2, a3, a4, a5, b1, b2, b3]
  have hZ : bcM it c s 143 c = 0 ∧ bcM it c s 153 c = 0 ∧ bcM it c s 150 c = 0 ∧ bcM it c s 151 c = 0 := by
    refine ⟨?_, ?_, ?_, ?_⟩ <;> simp [bcM, mm_u2]
  have hY : ∀ b, b = 144 ∨ b = 148 ∨ b = 149 ∨ b = 152 ∨ b = 154 → bcM it c s b = it b := by
    intro b hb
    unfold bcM
    rw [u2_row (by omega), u2_row (by omega), u2_row (by omega), u2_row (by omega), u2_row (by omega), u2_row (by omega)]
  rw [en_X11_become]
  by_cases e : s = 6
  · subst e
    refine ⟨mm_u2 (bcM it c 6) 159 (2 * c) 0, ?_, ?_, ?_, ?_, hF.u2 (by unfold Ow; omega)⟩
    · simp only [sg_X11_become_0, ↓reduceIte, mk_sh, mk_rf, mk_it, mk_lg, mk_cc, mk_ss, mk_si, mk_sl, mk_th, mq_u_s, ↓mq_b_d, mq_r_s, mq_a_s, mq_l_s, ck_mk, ck_ite, if_true, if_false, ite_true, ite_false, Nat.le_refl, and_self, and_true, true_and, or_true, true_or, or_false, false_or, eq_self, ck_none, Nat.reduceAdd, Nat.reduceLT, Nat.reduceLeDiff, Nat.reduceEqDiff, Nat.reduceSub, Nat.reduceMul, Int32.reduceLT, Int32.reduceLE, Int32.reduceOfNat, Int32.reduceToNatClampNeg, not_true_eq_false, not_false_eq_true, Nat.add_zero, cl_eq, clr_n, clr_v, clr_x, clr_ite, cr_eq, crr_n, crr_v, crr_ite, List.length_cons, List.length_nil, ct_0, ne_0_1, ne_0_2, ne_0_3, ne_0_4, ne_0_5, ne_0_6, ne_0_7, ne_0_8, ne_1_0, ne_1_2, ne_1_3, ne_1_4, ne_1_5, ne_1_6, ne_1_7, ne_1_8, ne_2_0, ne_2_1, ne_2_3, ne_2_4, ne_2_5, ne_2_6, ne_2_7, ne_2_8, ne_3_0, ne_3_1, ne_3_2, ne_3_4, ne_3_5, ne_3_6, ne_3_7, ne_3_8, ne_4_0, ne_4_1, ne_4_2, ne_4_3, ne_4_5, ne_4_6, ne_4_7, ne_4_8, ne_5_0, ne_5_1, ne_5_2, ne_5_3, ne_5_4, ne_5_6, ne_5_7, ne_5_8, ne_6_0, ne_6_1, ne_6_2, ne_6_3, ne_6_4, ne_6_5, ne_6_7, ne_6_8, ne_7_0, ne_7_1, ne_7_2, ne_7_3, ne_7_4, ne_7_5, ne_7_6, ne_7_8, ne_8_0, ne_8_1, ne_8_2, ne_8_3, ne_8_4, ne_8_5, ne_8_6, ne_8_7, Bool.and_self, Bool.or_self, Bool.true_and, Bool.and_true, Bool.false_and, Bool.and_false, Bool.true_or, Bool.or_true, Bool.false_or, Bool.or_false, Bool.not_true, Bool.not_false, decide_true, decide_false, Bool.true_eq_false, Bool.false_eq_true, rm_0 hR, rm_2 hR, rm_5 hR, rm_6 hR, rm_7 hR, rm_8 hR, rm_9 hR, rm_10 hR, rm_11 hR, rm_12 hR, rm_14 hR, rm_15 hR, rm_16 hR, rm_17 hR, rm_18 hR, rm_19 hR, rm_20 hR, rm_21 hR, rm_22 hR, rm_23 hR, rm_24 hR, rm_25 hR, rm_26 hR, rm_27 hR, rm_28 hR, rm_29 hR, rm_30 hR, rm_31 hR, rm_32 hR, rm_33 hR, rm_34 hR, rm_35 hR, rm_36 hR, sm_127, sm_128, sm_129, sm_130, sm_131, sm_132, sm_133, sm_134, sm_135, sm_136, sm_137, sm_138, sm_139, sm_140, sm_141, sm_142, sm_143, sm_144, sm_145, sm_146, sm_147, sm_148, sm_149, sm_150, sm_151, sm_152, sm_153, sm_154, sm_155, sm_156, sm_157, sm_158, sm_159, sm_160, sm_161, in_of (show c < 2 ^ 31 by omega), i_tn (show c < 2 ^ 31 by omega), hc, i_mu (c := 2), in_of (show 2 * c < 2 ^ 31 by omega), i_tn (show 2 * c < 2 ^ 31 by omega), show 2 * c < 8 by omega, i_suc, in_of (show 2 * c + 1 < 2 ^ 31 by omega), i_tn (show 2 * c + 1 < 2 ^ 31 by omega), show 2 * c + 1 < 8 by omega]
      rfl
    · rw [if_pos rfl]
      obtain ⟨a1, a2, k1, k2⟩ := hO
      refine ⟨?_, ?_, ⟨by decide, u2_at, fun j hj => absurd hj (Nat.not_lt_zero _)⟩, k2.at (u2_nk (by omega)) (fun j p q => u2_ne (by decide))⟩
      · rw [u2_row (by decide), u2_row (by decide), u2_row (by decide), u2_row (by decide), u2_row (by decide)]; exact a1
      · rw [u2_row (by decide), u2_row (by decide), u2_row (by decide)]; exact a2
    · rw [u2_row (by decide), u2_row (by decide), u2_row (by decide), u2_row (by decide)]; exact hZ
    · exact fun b hb => by rw [u2_row (by omega)]; exact hY b hb
  · refine ⟨bcM it c s, ?_, by rw [if_neg e]; exact hO, hZ, hY, hF⟩
    simp only [sg_X11_become_0, ↓reduceIte, mk_sh, mk_rf, mk_it, mk_lg, mk_cc, mk_ss, mk_si, mk_sl, mk_th, mq_u_s, ↓mq_b_d, mq_r_s, mq_a_s, mq_l_s, ck_mk, ck_ite, if_true, if_false, ite_true, ite_false, Nat.le_refl, and_self, and_true, true_and, or_true, true_or, or_false, false_or, eq_self, ck_none, Nat.reduceAdd, Nat.reduceLT, Nat.reduceLeDiff, Nat.reduceEqDiff, Nat.reduceSub, Nat.reduceMul, Int32.reduceLT, Int32.reduceLE, Int32.reduceOfNat, Int32.reduceToNatClampNeg, not_true_eq_false, not_false_eq_true, Nat.add_zero, cl_eq, clr_n, clr_v, clr_x, clr_ite, cr_eq, crr_n, crr_v, crr_ite, List.length_cons, List.length_nil, ct_0, ne_0_1, ne_0_2, ne_0_3, ne_0_4, ne_0_5, ne_0_6, ne_0_7, ne_0_8, ne_1_0, ne_1_2, ne_1_3, ne_1_4, ne_1_5, ne_1_6, ne_1_7, ne_1_8, ne_2_0, ne_2_1, ne_2_3, ne_2_4, ne_2_5, ne_2_6, ne_2_7, ne_2_8, ne_3_0, ne_3_1, ne_3_2, ne_3_4, ne_3_5, ne_3_6, ne_3_7, ne_3_8, ne_4_0, ne_4_1, ne_4_2, ne_4_3, ne_4_5, ne_4_6, ne_4_7, ne_4_8, ne_5_0, ne_5_1, ne_5_2, ne_5_3, ne_5_4, ne_5_6, ne_5_7, ne_5_8, ne_6_0, ne_6_1, ne_6_2, ne_6_3, ne_6_4, ne_6_5, ne_6_7, ne_6_8, ne_7_0, ne_7_1, ne_7_2, ne_7_3, ne_7_4, ne_7_5, ne_7_6, ne_7_8, ne_8_0, ne_8_1, ne_8_2, ne_8_3, ne_8_4, ne_8_5, ne_8_6, ne_8_7, Bool.and_self, Bool.or_self, Bool.true_and, Bool.and_true, Bool.false_and, Bool.and_false, Bool.true_or, Bool.or_true, Bool.false_or, Bool.or_false, Bool.not_true, Bool.not_false, decide_true, decide_false, Bool.true_eq_false, Bool.false_eq_true, rm_0 hR, rm_2 hR, rm_5 hR, rm_6 hR, rm_7 hR, rm_8 hR, rm_9 hR, rm_10 hR, rm_11 hR, rm_12 hR, rm_14 hR, rm_15 hR, rm_16 hR, rm_17 hR, rm_18 hR, rm_19 hR, rm_20 hR, rm_21 hR, rm_22 hR, rm_23 hR, rm_24 hR, rm_25 hR, rm_26 hR, rm_27 hR, rm_28 hR, rm_29 hR, rm_30 hR, rm_31 hR, rm_32 hR, rm_33 hR, rm_34 hR, rm_35 hR, rm_36 hR, sm_127, sm_128, sm_129, sm_130, sm_131, sm_132, sm_133, sm_134, sm_135, sm_136, sm_137, sm_138, sm_139, sm_140, sm_141, sm_142, sm_143, sm_144, sm_145, sm_146, sm_147, sm_148, sm_149, sm_150, sm_151, sm_152, sm_153, sm_154, sm_155, sm_156, sm_157, sm_158, sm_159, sm_160, sm_161, in_of (show c < 2 ^ 31 by omega), i_tn (show c < 2 ^ 31 by omega), hc, i_mu (c := 2), in_of (show 2 * c < 2 ^ 31 by omega), i_tn (show 2 * c < 2 ^ 31 by omega), show 2 * c < 8 by omega, i_suc, in_of (show 2 * c + 1 < 2 ^ 31 by omega), i_tn (show 2 * c + 1 < 2 ^ 31 by omega), show 2 * c + 1 < 8 by omega, e]
    rfl
def mpS (y : Nat → Nat → Int32) (r n : Nat) (v : Int32) : Nat → Nat → Int32 := mm_u2 (mm_u2 y 160 (16 * r + n) v) 159 r (Int32.ofNat (n + 1))
theorem mpS_ok {r : Nat} {l : List Int32} {v : Int32} (h : RgM it r l) (hl : l.length < 16) : RgM (mpS it r l.length v) r (l ++ [v]) := by
  unfold mpS
  refine ⟨by simp; omega, by rw [u2_at]; simp, fun j hj => ?_⟩
  simp only [List.length_append, List.length_singleton] at hj
  rw [u2_ne (by decide)]
  by_cases e : j = l.length
  · subst e
    rw [u2_at]; simp
  · rw [u2_nk (by omega), h.2.2 j (by omega), gd_app (by omega)]
theorem mt_put {r : Nat} {l : List Int32} {v : Int32} (hR : RfOk rf) (hr : r < 8) (h : RgM it r l) (hl : l.length < 16) : mm_run md 9000 (d + 1) 121 [.ref 127, .int (Int32.ofNat r), .int v] (mk rf it lg cc ss) = some (.inl none, mk rf (mpS it r l.length v) lg cc ss) := by
  rw [en_X11_put]
  simp only [sg_X11_put_0, ↓reduceIte, mk_sh, mk_rf, mk_it, mk_lg, mk_cc, mk_ss, mk_si, mk_sl, mk_th, mq_u_s, ↓mq_b_d, mq_r_s, mq_a_s, mq_l_s, ck_mk, ck_ite, if_true, if_false, ite_true, ite_false, Nat.le_refl, and_self, and_true, true_and, or_true, true_or, or_false, false_or, eq_self, ck_none, Nat.reduceAdd, Nat.reduceLT, Nat.reduceLeDiff, Nat.reduceEqDiff, Nat.reduceSub, Nat.reduceMul, Int32.reduceLT, Int32.reduceLE, Int32.reduceOfNat, Int32.reduceToNatClampNeg, not_true_eq_false, not_false_eq_true, Nat.add_zero, cl_eq, clr_n, clr_v, clr_x, clr_ite, cr_eq, crr_n, crr_v, crr_ite, List.length_cons, List.length_nil, ct_0, ne_0_1, ne_0_2, ne_0_3, ne_0_4, ne_0_5, ne_0_6, ne_0_7, ne_0_8, ne_1_0, ne_1_2, ne_1_3, ne_1_4, ne_1_5, ne_1_6, ne_1_7, ne_1_8, ne_2_0, ne_2_1, ne_2_3, ne_2_4, ne_2_5, ne_2_6, ne_2_7, ne_2_8, ne_3_0, ne_3_1, ne_3_2, ne_3_4, ne_3_5, ne_3_6, ne_3_7, ne_3_8, ne_4_0, ne_4_1, ne_4_2, ne_4_3, ne_4_5, ne_4_6, ne_4_7, ne_4_8, ne_5_0, ne_5_1, ne_5_2, ne_5_3, ne_5_4, ne_5_6, ne_5_7, ne_5_8, ne_6_0, ne_6_1, ne_6_2, ne_6_3, ne_6_4, ne_6_5, ne_6_7, ne_6_8, ne_7_0, ne_7_1, ne_7_2, ne_7_3, ne_7_4, ne_7_5, ne_7_6, ne_7_8, ne_8_0, ne_8_1, ne_8_2, ne_8_3, ne_8_4, ne_8_5, ne_8_6, ne_8_7, Bool.and_self, Bool.or_self, Bool.true_and, Bool.and_true, Bool.false_and, Bool.and_false, Bool.true_or, Bool.or_true, Bool.false_or, Bool.or_false, Bool.not_true, Bool.not_false, decide_true, decide_false, Bool.true_eq_false, Bool.false_eq_true, rm_0 hR, rm_2 hR, rm_5 hR, rm_6 hR, rm_7 hR, rm_8 hR, rm_9 hR, rm_10 hR, rm_11 hR, rm_12 hR, rm_14 hR, rm_15 hR, rm_16 hR, rm_17 hR, rm_18 hR, rm_19 hR, rm_20 hR, rm_21 hR, rm_22 hR, rm_23 hR, rm_24 hR, rm_25 hR, rm_26 hR, rm_27 hR, rm_28 hR, rm_29 hR, rm_30 hR, rm_31 hR, rm_32 hR, rm_33 hR, rm_34 hR, rm_35 hR, rm_36 hR, sm_127, sm_128, sm_129, sm_130, sm_131, sm_132, sm_133, sm_134, sm_135, sm_136, sm_137, sm_138, sm_139, sm_140, sm_141, sm_142, sm_143, sm_144, sm_145, sm_146, sm_147, sm_148, sm_149, sm_150, sm_151, sm_152, sm_153, sm_154, sm_155, sm_156, sm_157, sm_158, sm_159, sm_160, sm_161, h.2.1, i_ma (c := 16), in_of (show r < 2 ^ 31 by omega), i_tn (show r < 2 ^ 31 by omega), hr, in_of (show 16 * r + l.length < 2 ^ 31 by omega), i_tn (show 16 * r + l.length < 2 ^ 31 by omega), show 16 * r + l.length < 128 by omega, u2_ne (show 159 ≠ 160 by decide), i_suc]
  rfl
/-- a byte for the client -/
theorem om_put {c : Nat} {v s t w : Int32} {up dn : List Int32} {cf tf ga gl gp : Int32} (hR : RfOk rf) (hc : c < 4) (h : OuM it c s t up dn w cf tf ga gl gp) (hl : dn.length < 16) : ∃ it9, mm_run md 9000 (d + 1) 121 [.ref 127, .int (Int32.ofNat (2 * c + 1)), .int v] (mk rf it lg cc ss) = some (.inl none, mk rf it9 lg cc ss) ∧ OuM it9 c s t up (dn ++ [v]) w cf tf ga gl gp ∧ (∀ b, b ≠ 159 → b ≠ 160 → it9 b = it b) ∧ FrM it it9 c := by
  obtain ⟨a1, a2, k1, k2⟩ := h
  have hX : ∀ b, b ≠ 159 → b ≠ 160 → mpS it (2 * c + 1) dn.length v b = it b := fun b q1 q2 => by
    unfold mpS
    rw [u2_row q1, u2_row q2]
  refine ⟨mpS it (2 * c + 1) dn.length v, mt_put hR (by omega) k2 hl, ⟨?_, ?_, k1.at ?_ (fun j p q => ?_), mpS_ok k2 hl⟩, hX, ?_⟩
  · rw [hX 141 (by decide) (by decide), hX 145 (by decide) (by decide), hX 142 (by decide) (by decide), hX 146 (by decide) (by decide), hX 147 (by decide) (by decide)]; exact a1
  · rw [hX 156 (by decide) (by decide), hX 157 (by decide) (by decide), hX 158 (by decide) (by decide)]; exact a2
  · unfold mpS
    rw [u2_nk (by omega), u2_ne (by decide)]
  · unfold mpS
    rw [u2_ne (by decide), u2_nk (by omega)]
  · unfold mpS
    exact (FrM.refl.u2 (by unfold Ow; omega)).u2 (by unfold Ow; omega)
theorem om_lay {c : Nat} {v1 v2 s t w : Int32} {up dn : List Int32} {cf tf ga gl gp : Int32} (hR : RfOk rf) (hc : c < 4) (h : OuM it c s t up dn w cf tf ga gl gp) (hl : dn.length < 15) : ∃ it9, mm_run md 9000 (d + 2) 123 [.ref 127, .int (Int32.ofNat c), .int v1, .int v2] (mk rf it lg cc ss) = some (.inl none, mk rf it9 lg cc ss) ∧ OuM it9 c s t up (dn ++ [v1, v2]) w cf tf ga gl gp ∧ (∀ b, b ≠ 159 → b ≠ 160 → it9 b = it b) ∧ FrM it it9 c := by
  obtain ⟨i1, r1, o1, f1, g1⟩ := om_put (d := d) (lg := lg) (cc := cc) (ss := ss) (v := v1) hR hc h (by omega)
  obtain ⟨i2, r2, o2, f2, g2⟩ := om_put (d := d) (lg := lg) (cc := cc) (ss := ss) (v := v2) hR hc o1 (by simp only [List.length_append, List.length_singleton]; omega)
  rw [List.append_assoc] at o2
  refine ⟨i2, ?_, o2, fun b q1 q2 => by rw [f2 b q1 q2, f1 b q1 q2], g1.trans g2⟩
  rw [en_X11_lay]
  simp only [sg_X11_lay_0, sg_X11_lay_10, sg_X11_lay_20, ↓reduceIte, mk_sh, mk_rf, mk_it, mk_lg, mk_cc, mk_ss, mk_si, mk_sl, mk_th, mq_u_s, ↓mq_b_d, mq_r_s, mq_a_s, mq_l_s, ck_mk, ck_ite, if_true, if_false, ite_true, ite_false, Nat.le_refl, and_self, and_true, true_and, or_true, true_or, or_false, false_or, eq_self, ck_none, Nat.reduceAdd, Nat.reduceLT, Nat.reduceLeDiff, Nat.reduceEqDiff, Nat.reduceSub, Nat.reduceMul, Int32.reduceLT, Int32.reduceLE, Int32.reduceOfNat, Int32.reduceToNatClampNeg, not_true_eq_false, not_false_eq_true, Nat.add_zero, cl_eq, clr_n, clr_v, clr_x, clr_ite, cr_eq, crr_n, crr_v, crr_ite, List.length_cons, List.length_nil, ct_0, ne_0_1, ne_0_2, ne_0_3, ne_0_4, ne_0_5, ne_0_6, ne_0_7, ne_0_8, ne_1_0, ne_1_2, ne_1_3, ne_1_4, ne_1_5, ne_1_6, ne_1_7, ne_1_8, ne_2_0, ne_2_1, ne_2_3, ne_2_4, ne_2_5, ne_2_6, ne_2_7, ne_2_8, ne_3_0, ne_3_1, ne_3_2, ne_3_4, ne_3_5, ne_3_6, ne_3_7, ne_3_8, ne_4_0, ne_4_1, ne_4_2, ne_4_3, ne_4_5, ne_4_6, ne_4_7, ne_4_8, ne_5_0, ne_5_1, ne_5_2, ne_5_3, ne_5_4, ne_5_6, ne_5_7, ne_5_8, ne_6_0, ne_6_1, ne_6_2, ne_6_3, ne_6_4, ne_6_5, ne_6_7, ne_6_8, ne_7_0, ne_7_1, ne_7_2, ne_7_3, ne_7_4, ne_7_5, ne_7_6, ne_7_8, ne_8_0, ne_8_1, ne_8_2, ne_8_3, ne_8_4, ne_8_5, ne_8_6, ne_8_7, Bool.and_self, Bool.or_self, Bool.true_and, Bool.and_true, Bool.false_and, Bool.and_false, Bool.true_or, Bool.or_true, Bool.false_or, Bool.or_false, Bool.not_true, Bool.not_false, decide_true, decide_false, Bool.true_eq_false, Bool.false_eq_true, sm_127, i_mu (c := 2), i_suc, r1, r2]
theorem om_reply {c : Nat} {r s t w : Int32} {up dn : List Int32} {cf tf ga gl gp : Int32} (hR : RfOk rf) (hc : c < 4) (h : OuM it c s t up dn w cf tf ga gl gp) (hl : dn.length ≤ 6) : ∃ it9, mm_run md 9000 (d + 3) 124 [.ref 127, .int (Int32.ofNat c), .int r] (mk rf it lg cc ss) = some (.inl none, mk rf it9 lg cc ss) ∧ OuM it9 c (if r = 0 then s else 6) (if r = 0 then t else 0) (if r = 0 then up else []) (dn ++ rep r) w cf tf ga gl gp ∧ FrM it it9 c := by
  obtain ⟨i1, r1, o1, f1, g1⟩ := om_lay (d := d) (lg := lg) (cc := cc) (ss := ss) (v1 := 5) (v2 := r) hR hc h (by omega)
  obtain ⟨i2, r2, o2, f2, g2⟩ := om_lay (d := d) (lg := lg) (cc := cc) (ss := ss) (v1 := 0) (v2 := 1) hR hc o1 (by simp only [List.length_append, List.length_cons, List.length_nil]; omega)
  obtain ⟨i3, r3, o3, f3, g3⟩ := om_lay (d := d) (lg := lg) (cc := cc) (ss := ss) (v1 := 0) (v2 := 0) hR hc o2 (by simp only [List.length_append, List.length_cons, List.length_nil]; omega)
  obtain ⟨i4, r4, o4, f4, g4⟩ := om_lay (d := d) (lg := lg) (cc := cc) (ss := ss) (v1 := 0) (v2 := 0) hR hc o3 (by simp only [List.length_append, List.length_cons, List.length_nil]; omega)
  obtain ⟨i5, r5, o5, f5, g5⟩ := om_lay (d := d) (lg := lg) (cc := cc) (ss := ss) (v1 := 0) (v2 := 0) hR hc o4 (by simp only [List.length_append, List.length_cons, List.length_nil]; omega)
  simp only [List.append_assoc, List.cons_append, List.nil_append] at o5
  have hF := ((((g1.trans g2).trans g3).trans g4).trans g5)
  rw [en_X11_reply]
  by_cases e : r = 0
  · refine ⟨i5, ?_, ?_, hF⟩
    · simp only [sg_X11_reply_0, sg_X11_reply_7, sg_X11_reply_14, sg_X11_reply_16, sg_X11_reply_45, sg_X11_reply_28, ↓reduceIte, mk_sh, mk_rf, mk_it, mk_lg, mk_cc, mk_ss, mk_si, mk_sl, mk_th, mq_u_s, ↓mq_b_d, mq_r_s, mq_a_s, mq_l_s, ck_mk, ck_ite, if_true, if_false, ite_true, ite_false, Nat.le_refl, and_self, and_true, true_and, or_true, true_or, or_false, false_or, eq_self, ck_none, Nat.reduceAdd, Nat.reduceLT, Nat.reduceLeDiff, Nat.reduceEqDiff, Nat.reduceSub, Nat.reduceMul, Int32.reduceLT, Int32.reduceLE, Int32.reduceOfNat, Int32.reduceToNatClampNeg, not_true_eq_false, not_false_eq_true, Nat.add_zero, cl_eq, clr_n, clr_v, clr_x, clr_ite, cr_eq, crr_n, crr_v, crr_ite, List.length_cons, List.length_nil, ct_0, ne_0_1, ne_0_2, ne_0_3, ne_0_4, ne_0_5, ne_0_6, ne_0_7, ne_0_8, ne_1_0, ne_1_2, ne_1_3, ne_1_4, ne_1_5, ne_1_6, ne_1_7, ne_1_8, ne_2_0, ne_2_1, ne_2_3, ne_2_4, ne_2_5, ne_2_6, ne_2_7, ne_2_8, ne_3_0, ne_3_1, ne_3_2, ne_3_4, ne_3_5, ne_3_6, ne_3_7, ne_3_8, ne_4_0, ne_4_1, ne_4_2, ne_4_3, ne_4_5, ne_4_6, ne_4_7, ne_4_8, ne_5_0, ne_5_1, ne_5_2, ne_5_3, ne_5_4, ne_5_6, ne_5_7, ne_5_8, ne_6_0, ne_6_1, ne_6_2, ne_6_3, ne_6_4, ne_6_5, ne_6_7, ne_6_8, ne_7_0, ne_7_1, ne_7_2, ne_7_3, ne_7_4, ne_7_5, ne_7_6, ne_7_8, ne_8_0, ne_8_1, ne_8_2, ne_8_3, ne_8_4, ne_8_5, ne_8_6, ne_8_7, Bool.and_self, Bool.or_self, Bool.true_and, Bool.and_true, Bool.false_and, Bool.and_false, Bool.true_or, Bool.or_true, Bool.false_or, Bool.or_false, Bool.not_true, Bool.not_false, decide_true, decide_false, Bool.true_eq_false, Bool.false_eq_true, Int32.reduceAdd, sm_127, r1, r2, r3, r4, r5]
      simp only [↓reduceIte, mk_sh, mk_rf, mk_it, mk_lg, mk_cc, mk_ss, mk_si, mk_sl, mk_th, mq_u_s, ↓mq_b_d, mq_r_s, mq_a_s, mq_l_s, ck_mk, ck_ite, if_true, if_false, ite_true, ite_false, Nat.le_refl, and_self, and_true, true_and, or_true, true_or, or_false, false_or, eq_self, ck_none, Nat.reduceAdd, Nat.reduceLT, Nat.reduceLeDiff, Nat.reduceEqDiff, Nat.reduceSub, Nat.reduceMul, Int32.reduceLT, Int32.reduceLE, Int32.reduceOfNat, Int32.reduceToNatClampNeg, not_true_eq_false, not_false_eq_true, Nat.add_zero, cl_eq, clr_n, clr_v, clr_x, clr_ite, cr_eq, crr_n, crr_v, crr_ite, List.length_cons, List.length_nil, ct_0, ne_0_1, ne_0_2, ne_0_3, ne_0_4, ne_0_5, ne_0_6, ne_0_7, ne_0_8, ne_1_0, ne_1_2, ne_1_3, ne_1_4, ne_1_5, ne_1_6, ne_1_7, ne_1_8, ne_2_0, ne_2_1, ne_2_3, ne_2_4, ne_2_5, ne_2_6, ne_2_7, ne_2_8, ne_3_0, ne_3_1, ne_3_2, ne_3_4, ne_3_5, ne_3_6, ne_3_7, ne_3_8, ne_4_0, ne_4_1, ne_4_2, ne_4_3, ne_4_5, ne_4_6, ne_4_7, ne_4_8, ne_5_0, ne_5_1, ne_5_2, ne_5_3, ne_5_4, ne_5_6, ne_5_7, ne_5_8, ne_6_0, ne_6_1, ne_6_2, ne_6_3, ne_6_4, ne_6_5, ne_6_7, ne_6_8, ne_7_0, ne_7_1, ne_7_2, ne_7_3, ne_7_4, ne_7_5, ne_7_6, ne_7_8, ne_8_0, ne_8_1, ne_8_2, ne_8_3, ne_8_4, ne_8_5, ne_8_6, ne_8_7, Bool.and_self, Bool.or_self, Bool.true_and, Bool.and_true, Bool.false_and, Bool.and_false, Bool.true_or, Bool.or_true, Bool.false_or, Bool.or_false, Bool.not_true, Bool.not_false, decide_true, decide_false, Bool.true_eq_false, Bool.false_eq_true, e]
    · rw [if_pos e, if_pos e, if_pos e]; exact o5
  · obtain ⟨i6, r6, o6, f6, -, g6⟩ := om_become (d := d + 1) (lg := lg) (cc := cc) (ss := ss) (s := 6) hR hc o5
    refine ⟨i6, ?_, ?_, hF.trans g6⟩
    · simp only [sg_X11_reply_0, sg_X11_reply_7, sg_X11_reply_14, sg_X11_reply_16, sg_X11_reply_45, sg_X11_reply_28, ↓reduceIte, mk_sh, mk_rf, mk_it, mk_lg, mk_cc, mk_ss, mk_si, mk_sl, mk_th, mq_u_s, ↓mq_b_d, mq_r_s, mq_a_s, mq_l_s, ck_mk, ck_ite, if_true, if_false, ite_true, ite_false, Nat.le_refl, and_self, and_true, true_and, or_true, true_or, or_false, false_or, eq_self, ck_none, Nat.reduceAdd, Nat.reduceLT, Nat.reduceLeDiff, Nat.reduceEqDiff, Nat.reduceSub, Nat.reduceMul, Int32.reduceLT, Int32.reduceLE, Int32.reduceOfNat, Int32.reduceToNatClampNeg, not_true_eq_false, not_false_eq_true, Nat.add_zero, cl_eq, clr_n, clr_v, clr_x, clr_ite, cr_eq, crr_n, crr_v, crr_ite, List.length_cons, List.length_nil, ct_0, ne_0_1, ne_0_2, ne_0_3, ne_0_4, ne_0_5, ne_0_6, ne_0_7, ne_0_8, ne_1_0, ne_1_2, ne_1_3, ne_1_4, ne_1_5, ne_1_6, ne_1_7, ne_1_8, ne_2_0, ne_2_1, ne_2_3, ne_2_4, ne_2_5, ne_2_6, ne_2_7, ne_2_8, ne_3_0, ne_3_1, ne_3_2, ne_3_4, ne_3_5, ne_3_6, ne_3_7, ne_3_8, ne_4_0, ne_4_1, ne_4_2, ne_4_3, ne_4_5, ne_4_6, ne_4_7, ne_4_8, ne_5_0, ne_5_1, ne_5_2, ne_5_3, ne_5_4, ne_5_6, ne_5_7, ne_5_8, ne_6_0, ne_6_1, ne_6_2, ne_6_3, ne_6_4, ne_6_5, ne_6_7, ne_6_8, ne_7_0, ne_7_1, ne_7_2, ne_7_3, ne_7_4, ne_7_5, ne_7_6, ne_7_8, ne_8_0, ne_8_1, ne_8_2, ne_8_3, ne_8_4, ne_8_5, ne_8_6, ne_8_7, Bool.and_self, Bool.or_self, Bool.true_and, Bool.and_true, Bool.false_and, Bool.and_false, Bool.true_or, Bool.or_true, Bool.false_or, Bool.or_false, Bool.not_true, Bool.not_false, decide_true, decide_false, Bool.true_eq_false, Bool.false_eq_true, Int32.reduceAdd, sm_127, r1, r2, r3, r4, r5, e, r6]
    · rw [if_neg e, if_neg e, if_neg e]
      rwa [if_pos rfl] at o6
theorem om_status {c : Nat} {st x y z s t w : Int32} {up dn : List Int32} {cf tf ga gl gp : Int32} (hR : RfOk rf) (hc : c < 4) (h : OuM it c s t up dn w cf tf ga gl gp) (hl : dn.length ≤ 12) (hx : 48 + st / 100 = x) (hy : 48 + (st / 10 - st / 10 / 10 * 10) = y) (hz : 48 + (st - st / 10 * 10) = z) : ∃ it9, mm_run md 9000 (d + 3) 125 [.ref 127, .int (Int32.ofNat c), .int st] (mk rf it lg cc ss) = some (.inl none, mk rf it9 lg cc ss) ∧ OuM it9 c (if st = 200 then s else 6) (if st = 200 then t else 0) (if st = 200 then up else []) (dn ++ [x, y, z, 10]) w cf tf ga gl gp ∧ FrM it it9 c := by
  obtain ⟨i1, r1, o1, f1, g1⟩ := om_lay (d := d) (lg := lg) (cc := cc) (ss := ss) (v1 := x) (v2 := y) hR hc h (by omega)
  obtain ⟨i2, r2, o2, f2, g2⟩ := om_lay (d := d) (lg := lg) (cc := cc) (ss := ss) (v1 := z) (v2 := 10) hR hc o1 (by simp only [List.length_append, List.length_cons, List.length_nil]; omega)
  simp only [List.append_assoc, List.cons_append, List.nil_append] at o2
  have n1 : ¬ (100 : Int32) = 0 := by decide
  have n2 : ¬ (10 : Int32) = 0 := by decide
  rw [en_X11_status]
  by_cases e : st = 200
  · refine ⟨i2, ?_, ?_, g1.trans g2⟩
    · simp only [sg_X11_status_0, sg_X11_status_22, sg_X11_status_36, sg_X11_status_50, ↓reduceIte, mk_sh, mk_rf, mk_it, mk_lg, mk_cc, mk_ss, mk_si, mk_sl, mk_th, mq_u_s, ↓mq_b_d, mq_r_s, mq_a_s, mq_l_s, ck_mk, ck_ite, if_true, if_false, ite_true, ite_false, Nat.le_refl, and_self, and_true, true_and, or_true, true_or, or_false, false_or, eq_self, ck_none, Nat.reduceAdd, Nat.reduceLT, Nat.reduceLeDiff, Nat.reduceEqDiff, Nat.reduceSub, Nat.reduceMul, Int32.reduceLT, Int32.reduceLE, Int32.reduceOfNat, Int32.reduceToNatClampNeg, not_true_eq_false, not_false_eq_true, Nat.add_zero, cl_eq, clr_n, clr_v, clr_x, clr_ite, cr_eq, crr_n, crr_v, crr_ite, List.length_cons, List.length_nil, ct_0, ne_0_1, ne_0_2, ne_0_3, ne_0_4, ne_0_5, ne_0_6, ne_0_7, ne_0_8, ne_1_0, ne_1_2, ne_1_3, ne_1_4, ne_1_5, ne_1_6, ne_1_7, ne_1_8, ne_2_0, ne_2_1, ne_2_3, ne_2_4, ne_2_5, ne_2_6, ne_2_7, ne_2_8, ne_3_0, ne_3_1, ne_3_2, ne_3_4, ne_3_5, ne_3_6, ne_3_7, ne_3_8, ne_4_0, ne_4_1, ne_4_2, ne_4_3, ne_4_5, ne_4_6, ne_4_7, ne_4_8, ne_5_0, ne_5_1, ne_5_2, ne_5_3, ne_5_4, ne_5_6, ne_5_7, ne_5_8, ne_6_0, ne_6_1, ne_6_2, ne_6_3, ne_6_4, ne_6_5, ne_6_7, ne_6_8, ne_7_0, ne_7_1, ne_7_2, ne_7_3, ne_7_4, ne_7_5, ne_7_6, ne_7_8, ne_8_0, ne_8_1, ne_8_2, ne_8_3, ne_8_4, ne_8_5, ne_8_6, ne_8_7, Bool.and_self, Bool.or_self, Bool.true_and, Bool.and_true, Bool.false_and, Bool.and_false, Bool.true_or, Bool.or_true, Bool.false_or, Bool.or_false, Bool.not_true, Bool.not_false, decide_true, decide_false, Bool.true_eq_false, Bool.false_eq_true, n1, n2, hx, hy, hz, sm_127, r1, r2]
      simp only [↓reduceIte, mk_sh, mk_rf, mk_it, mk_lg, mk_cc, mk_ss, mk_si, mk_sl, mk_th, mq_u_s, ↓mq_b_d, mq_r_s, mq_a_s, mq_l_s, ck_mk, ck_ite, if_true, if_false, ite_true, ite_false, Nat.le_refl, and_self, and_true, true_and, or_true, true_or, or_false, false_or, eq_self, ck_none, Nat.reduceAdd, Nat.reduceLT, Nat.reduceLeDiff, Nat.reduceEqDiff, Nat.reduceSub, Nat.reduceMul, Int32.reduceLT, Int32.reduceLE, Int32.reduceOfNat, Int32.reduceToNatClampNeg, not_true_eq_false, not_false_eq_true, Nat.add_zero, cl_eq, clr_n, clr_v, clr_x, clr_ite, cr_eq, crr_n, crr_v, crr_ite, List.length_cons, List.length_nil, ct_0, ne_0_1, ne_0_2, ne_0_3, ne_0_4, ne_0_5, ne_0_6, ne_0_7, ne_0_8, ne_1_0, ne_1_2, ne_1_3, ne_1_4, ne_1_5, ne_1_6, ne_1_7, ne_1_8, ne_2_0, ne_2_1, ne_2_3, ne_2_4, ne_2_5, ne_2_6, ne_2_7, ne_2_8, ne_3_0, ne_3_1, ne_3_2, ne_3_4, ne_3_5, ne_3_6, ne_3_7, ne_3_8, ne_4_0, ne_4_1, ne_4_2, ne_4_3, ne_4_5, ne_4_6, ne_4_7, ne_4_8, ne_5_0, ne_5_1, ne_5_2, ne_5_3, ne_5_4, ne_5_6, ne_5_7, ne_5_8, ne_6_0, ne_6_1, ne_6_2, ne_6_3, ne_6_4, ne_6_5, ne_6_7, ne_6_8, ne_7_0, ne_7_1, ne_7_2, ne_7_3, ne_7_4, ne_7_5, ne_7_6, ne_7_8, ne_8_0, ne_8_1, ne_8_2, ne_8_3, ne_8_4, ne_8_5, ne_8_6, ne_8_7, Bool.and_self, Bool.or_self, Bool.true_and, Bool.and_true, Bool.false_and, Bool.and_false, Bool.true_or, Bool.or_true, Bool.false_or, Bool.or_false, Bool.not_true, Bool.not_false, decide_true, decide_false, Bool.true_eq_false, Bool.false_eq_true, e]
    · rw [if_pos e, if_pos e, if_pos e]; exact o2
  · obtain ⟨i6, r6, o6, f6, -, g6⟩ := om_become (d := d + 1) (lg := lg) (cc := cc) (ss := ss) (s := 6) hR hc o2
    refine ⟨i6, ?_, ?_, (g1.trans g2).trans g6⟩
    · simp only [sg_X11_status_0, sg_X11_status_22, sg_X11_status_36, sg_X11_status_50, ↓reduceIte, mk_sh, mk_rf, mk_it, mk_lg, mk_cc, mk_ss, mk_si, mk_sl, mk_th, mq_u_s, ↓mq_b_d, mq_r_s, mq_a_s, mq_l_s, ck_mk, ck_ite, if_true, if_false, ite_true, ite_false, Nat.le_refl, and_self, and_true, true_and, or_true, true_or, or_false, false_or, eq_self, ck_none, Nat.reduceAdd, Nat.reduceLT, Nat.reduceLeDiff, Nat.reduceEqDiff, Nat.reduceSub, Nat.reduceMul, Int32.reduceLT, Int32.reduceLE, Int32.reduceOfNat, Int32.reduceToNatClampNeg, not_true_eq_false, not_false_eq_true, Nat.add_zero, cl_eq, clr_n, clr_v, clr_x, clr_ite, cr_eq, crr_n, crr_v, crr_ite, List.length_cons, List.length_nil, ct_0, ne_0_1, ne_0_2, ne_0_3, ne_0_4, ne_0_5, ne_0_6, ne_0_7, ne_0_8, ne_1_0, ne_1_2, ne_1_3, ne_1_4, ne_1_5, ne_1_6, ne_1_7, ne_1_8, ne_2_0, ne_2_1, ne_2_3, ne_2_4, ne_2_5, ne_2_6, ne_2_7, ne_2_8, ne_3_0, ne_3_1, ne_3_2, ne_3_4, ne_3_5, ne_3_6, ne_3_7, ne_3_8, ne_4_0, ne_4_1, ne_4_2, ne_4_3, ne_4_5, ne_4_6, ne_4_7, ne_4_8, ne_5_0, ne_5_1, ne_5_2, ne_5_3, ne_5_4, ne_5_6, ne_5_7, ne_5_8, ne_6_0, ne_6_1, ne_6_2, ne_6_3, ne_6_4, ne_6_5, ne_6_7, ne_6_8, ne_7_0, ne_7_1, ne_7_2, ne_7_3, ne_7_4, ne_7_5, ne_7_6, ne_7_8, ne_8_0, ne_8_1, ne_8_2, ne_8_3, ne_8_4, ne_8_5, ne_8_6, ne_8_7, Bool.and_self, Bool.or_self, Bool.true_and, Bool.and_true, Bool.false_and, Bool.and_false, Bool.true_or, Bool.or_true, Bool.false_or, Bool.or_false, Bool.not_true, Bool.not_false, decide_true, decide_false, Bool.true_eq_false, Bool.false_eq_true, n1, n2, hx, hy, hz, sm_127, r1, r2, e, r6]
    · rw [if_neg e, if_neg e, if_neg e]
      rwa [if_pos rfl] at o6
end PV10
