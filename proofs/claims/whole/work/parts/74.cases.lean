section PW3
variable {rf : Nat → Nat → Option Nat} {it it1 it2 : Nat → Nat → Int32} {lg : Nat → Nat → Int64} {cc ss : Nat} {P : Option mm_R → Prop} {L : Nat} {xs : Nat → Int32} {i m : Nat} {lv : mm_L}
/-- class and reference agree -/
def Inv (x : Nat → Nat → Int32) : Prop := ∃ (pad : List Int32) (rs : List A_ru) (as : List A_ac) (Q : Nat → A_cn), DkC x pad rs as ∧ DkM x pad rs as ∧ WdM x ∧ CAll x Q ∧ MAll x Q ∧ ∀ n, n < 4 → CnOk (Q n)
theorem inv_thr {a b : Int32} (h : Inv it) : Inv (mm_u2 (mm_u2 it 127 1 a) 127 1 b) := by
  obtain ⟨pad, rs, as, Q, hD, hDM, hW, hA, hM, hK⟩ := h
  have hx : ∀ r, r ≠ 127 → mm_u2 (mm_u2 it 127 1 a) 127 1 b r = it r := fun r q => by rw [u2_row q, u2_row q]
  exact ⟨pad, rs, as, Q, hD.row (fun r hr => hx r (by omega)), hDM.thr.thr, hW.row (hx _ (by decide)), hA.row (fun r p q => hx r (by omega)), hM.rows (fun r hr => hx r (by omega)), hK⟩
theorem inv_thr1 {a : Int32} (h : Inv it) : Inv (mm_u2 it 127 1 a) := by
  obtain ⟨pad, rs, as, Q, hD, hDM, hW, hA, hM, hK⟩ := h
  have hx : ∀ r, r ≠ 127 → mm_u2 it 127 1 a r = it r := fun r q => by rw [u2_row q]
  exact ⟨pad, rs, as, Q, hD.row (fun r hr => hx r (by omega)), hDM.thr, hW.row (hx _ (by decide)), hA.row (fun r p q => hx r (by omega)), hM.rows (fun r hr => hx r (by omega)), hK⟩
theorem inv_conn {pad : List Int32} {rs : List A_ru} {as : List A_ac} {Q : Nat → A_cn} (hD : DkC it pad rs as) (hDM : DkM it pad rs as) (hW : WdM it) (f1 : ∀ b, b < 47 ∨ 127 ≤ b → it1 b = it b) (A1 : CAll it1 Q) (M2 : MAll it2 Q) (g2 : ∀ b, b ≤ 140 → it2 b = mm_u2 it1 127 1 0 b) (hK : ∀ n, n < 4 → CnOk (Q n)) : Inv it2 ∧ it2 127 1 = 0 := by
  have hDM1 : DkM it1 pad rs as := hDM.row (fun k _ => by rw [f1 127 (by omega)]) (fun a p q => f1 a (by omega))
  refine ⟨⟨pad, rs, as, Q, hD.row (fun a ha => by rw [g2 a (by omega), u2_row (by omega), f1 a (by omega)]), ?_, hW.row (by rw [g2 _ (by decide), u2_row (by decide), f1 _ (by omega)]), A1.row (fun b p q => by rw [g2 b (by omega), u2_row (by omega)]), M2, hK⟩, by rw [g2 _ (by decide), u2_at]⟩
  exact (hDM1.thr (v := 0)).row (fun k _ => by rw [g2 127 (by decide)]) (fun a p q => g2 a (by omega))
theorem inv_desk {pad : List Int32} {rs : List A_ru} {as : List A_ac} {Q : Nat → A_cn} (hW : WdM it) (hA : CAll it Q) (hM : MAll it Q) (hK : ∀ n, n < 4 → CnOk (Q n)) (D1 : DkC it1 pad rs as) (f1 : ∀ a, 43 ≤ a → it1 a = it a) (D2 : DkM it2 pad rs as) (g2 : ∀ a, a < 127 ∨ a = 128 ∨ 141 ≤ a → it2 a = it1 a) : Inv it2 :=
  ⟨pad, rs, as, Q, D1.row (fun a ha => g2 a (by omega)), D2, hW.row (by rw [g2 _ (by omega), f1 _ (by omega)]), hA.row (fun b p q => by rw [g2 b (by omega), f1 b (by omega)]), hM.rows (fun r hr => by rw [g2 r (by omega), f1 r (by omega)]), hK⟩
theorem lg_at {v : Int64} : mm_u2 lg 161 0 v 161 0 = v := by simp [mm_u2]
theorem chC (v : Int32) : isC ((Int32.toUInt32 v % 65536).toInt32) := by
  refine ⟨(v.toUInt32 % 65536).toNat, ?_, ?_⟩
  · rw [UInt32.toNat_mod]
    exact Nat.mod_lt _ (by decide)
  · apply Int32.toBitVec_inj.mp
    apply BitVec.eq_of_toNat_eq
    show (v.toUInt32 % 65536).toNat = (v.toUInt32 % 65536).toNat % 2 ^ 32
    have : (v.toUInt32 % 65536).toNat < 65536 := by
      rw [UInt32.toNat_mod]
      exact Nat.mod_lt _ (by decide)
    omega
def LGo (P : Option mm_R → Prop) (rf : Nat → Nat → Option Nat) (L : Nat) (xs : Nat → Int32) (i m cc ss : Nat) : Prop := ∀ (m9 : Nat) (lv9 : mm_L) (it2 : Nat → Nat → Int32) (lg1 : Nat → Nat → Int64) (cc1 ss1 : Nat), m ≤ m9 → LV (i + 7) lv9 → Inv it2 → cc1 ≤ cc + 1 → ss1 ≤ ss + 6 → P (mm_lp (tb_L_law L xs) (12, mm_run md 9000 12) m9 23 lv9 [] (mk rf it2 lg1 cc1 ss1))
theorem c_0 (hR : RfOk rf) (hI : Inv it) (hL : i + 7 ≤ L) (hL2 : L ≤ 336) (hlv : LV i lv) (H : LGo P rf L xs i m cc ss) : P (mm_lp (tb_L_law L xs) (12, mm_run md 9000 12) (m + 120) 128 lv [] (mk rf it lg cc ss)) := by
  obtain ⟨pad, rs, as, Q, hD, hDM, hW, hA, hM, hK⟩ := hI
  obtain ⟨y1, r1, D1, f1⟩ := cd_type (d := 9) (lg := lg) (cc := cc) (ss := ss) hR hD (chC (xs (i + 1)))
  obtain ⟨y2, r2, D2, t2, g2⟩ := md_type (d := 8) (it := y1) (lg := lg) (cc := cc) (ss := ss) (c := (Int32.toUInt32 (xs (i + 1)) % 65536).toInt32) hR (hDM.row (fun k _ => by rw [f1 127 (by decide)]) (fun a p q => f1 a (by omega)))
  exact law_0 hL hL2 hlv r1 r2 (fun m9 lv9 q1 q2 => H m9 lv9 _ _ _ _ q1 q2 (inv_desk hW hA hM hK D1 f1 D2 g2) (by omega) (by omega))
theorem c_4 (hR : RfOk rf) (hI : Inv it) (hL : i + 7 ≤ L) (hL2 : L ≤ 336) (hlv : LV i lv) (H : LGo P rf L xs i m cc ss) : P (mm_lp (tb_L_law L xs) (12, mm_run md 9000 12) (m + 120) 429 lv [] (mk rf it lg cc ss)) := by
  obtain ⟨pad, rs, as, Q, hD, hDM, hW, hA, hM, hK⟩ := hI
  obtain ⟨y1, r1, D1, f1⟩ := cd_forget (d := 10) (lg := lg) (cc := cc) (ss := ss) hR hD
  obtain ⟨y2, r2, D2, t2, g2⟩ := md_forget (d := 11) (it := y1) (lg := lg) (cc := cc) (ss := ss) (rf := rf) (hDM.row (fun k _ => by rw [f1 127 (by decide)]) (fun a p q => f1 a (by omega)))
  exact law_4 hL hL2 hlv r1 r2 (fun m9 lv9 q1 q2 => H m9 lv9 _ _ _ _ q1 q2 (inv_desk hW hA hM hK D1 f1 D2 g2) (by omega) (by omega))
theorem c_5 (hR : RfOk rf) (hI : Inv it) (hL : i + 7 ≤ L) (hL2 : L ≤ 336) (hlv : LV i lv) (H : LGo P rf L xs i m cc ss) : P (mm_lp (tb_L_law L xs) (12, mm_run md 9000 12) (m + 120) 442 lv [] (mk rf it lg cc ss)) := by
  obtain ⟨pad, rs, as, Q, hD, hDM, hW, hA, hM, hK⟩ := hI
  obtain ⟨y1, r1, A1, f1⟩ := cd_open (d := 9) (lg := lg) (cc := cc) (ss := ss) hR hA hK
  obtain ⟨y2, r2, M2, g2⟩ := md_open (d := 10) (it := y1) (lg := lg) (cc := cc) (ss := ss) hR (hM.rows (fun r hr => f1 r (by omega))) hK
  exact law_5 hL hL2 hlv r1 r2 (fun m9 lv9 q1 q2 => H m9 lv9 _ _ _ _ q1 q2 (inv_conn hD hDM hW f1 A1 M2 g2 (ok_opQ hK)).1 (by omega) (by omega))
theorem c_13 (hR : RfOk rf) (hI : Inv it) (hL : i + 7 ≤ L) (hL2 : L ≤ 336) (hlv : LV i lv) (H : LGo P rf L xs i m cc ss) : P (mm_lp (tb_L_law L xs) (12, mm_run md 9000 12) (m + 120) 901 lv [] (mk rf it lg cc ss)) := by
  obtain ⟨pad, rs, as, Q, hD, hDM, hW, hA, hM, hK⟩ := hI
  obtain ⟨y1, r1, A1, f1⟩ := cd_tick (d := 8) (lg := lg) (cc := cc) (ss := ss) hR hA hK
  obtain ⟨y2, r2, M2, g2⟩ := md_tick (d := 10) (it := y1) (lg := lg) (cc := cc) (ss := ss) hR (hM.rows (fun r hr => f1 r (by omega))) hK
  exact law_13 hL hL2 hlv r1 r2 (fun m9 lv9 q1 q2 => H m9 lv9 _ _ _ _ q1 q2 (inv_conn hD hDM hW f1 A1 M2 g2 (ok_tkQ hK)).1 (by omega) (by omega))
theorem c_1 (hR : RfOk rf) (hI : Inv it) (hL : i + 7 ≤ L) (hL2 : L ≤ 336) (hlv : LV i lv) (H : LGo P rf L xs i m cc ss) : P (mm_lp (tb_L_law L xs) (12, mm_run md 9000 12) (m + 120) 155 lv [] (mk rf it lg cc ss)) := by
  have hI' := hI
  obtain ⟨pad, rs, as, Q, hD, hDM, hW, hA, hM, hK⟩ := hI
  have c := cd_rule (d := 4) (lg := lg) (cc := cc) (ss := ss) (lb := !decide (xs (i + 1) = 0)) (kd := xs (i + 2)) (ad := xs (i + 3)) (bt := xs (i + 4)) (lo := xs (i + 5)) (hi := xs (i + 6)) hR hD
  cases e1 : rulA (xs (i + 2)) (xs (i + 4)) (xs (i + 5)) (xs (i + 6)) with
  | false =>
    obtain ⟨v, r2⟩ := (md_rule (d := 10) (lg := lg) (cc := cc + 1) (ss := ss + 6) (lb := !decide (xs (i + 1) = 0)) (kd := xs (i + 2)) (ad := xs (i + 3)) (bt := xs (i + 4)) (lo := xs (i + 5)) (hi := xs (i + 6)) hR hDM).1 e1
    exact law_1 hL hL2 hlv (lw_rule_2 (c.1 e1)) r2 u2_at (fun z => absurd z (by decide)) (fun m9 lv9 q1 q2 => H m9 lv9 _ _ _ _ q1 q2 (inv_thr hI') (by omega) (by omega))
  | true =>
    by_cases e2 : rs.length < 8
    · obtain ⟨y1, r1, D1, f1⟩ := c.2.2 e1 e2
      obtain ⟨y2, r2, D2, t2, g2⟩ := (md_rule (d := 10) (it := y1) (lg := mm_u2 lg 161 0 (Int32.toInt64 (Int32.ofNat (rs.length + 1)))) (cc := cc) (ss := ss) (lb := !decide (xs (i + 1) = 0)) (kd := xs (i + 2)) (ad := xs (i + 3)) (bt := xs (i + 4)) (lo := xs (i + 5)) (hi := xs (i + 6)) hR (hDM.row (fun k _ => by rw [f1 127 (by decide)]) (fun a p q => f1 a (by omega)))).2.2 e1 e2
      exact law_1 hL hL2 hlv (lw_rule_ok r1) r2 t2 (fun _ => lg_at) (fun m9 lv9 q1 q2 => H m9 lv9 _ _ _ _ q1 q2 (inv_desk hW hA hM hK D1 f1 D2 g2) (by omega) (by omega))
    · obtain ⟨v, r2⟩ := (md_rule (d := 10) (lg := lg) (cc := cc + 1) (ss := ss + 6) (lb := !decide (xs (i + 1) = 0)) (kd := xs (i + 2)) (ad := xs (i + 3)) (bt := xs (i + 4)) (lo := xs (i + 5)) (hi := xs (i + 6)) hR hDM).2.1 e1 e2
      exact law_1 hL hL2 hlv (lw_rule_3 (c.2.1 e1 e2)) r2 u2_at (fun z => absurd z (by decide)) (fun m9 lv9 q1 q2 => H m9 lv9 _ _ _ _ q1 q2 (inv_thr hI') (by omega) (by omega))
theorem c_2 (hR : RfOk rf) (hI : Inv it) (hL : i + 7 ≤ L) (hL2 : L ≤ 336) (hlv : LV i lv) (H : LGo P rf L xs i m cc ss) : P (mm_lp (tb_L_law L xs) (12, mm_run md 9000 12) (m + 120) 289 lv [] (mk rf it lg cc ss)) := by
  have hI' := hI
  obtain ⟨pad, rs, as, Q, hD, hDM, hW, hA, hM, hK⟩ := hI
  have c := cd_named (d := 4) (lg := lg) (cc := cc) (ss := ss) (lb := !decide (xs (i + 1) = 0)) (lo := xs (i + 2)) (hi := xs (i + 3)) hR hD
  by_cases e1 : pad = [] ∨ ptsA (xs (i + 2)) (xs (i + 3)) = false
  · obtain ⟨v, r2⟩ := (md_named (d := 10) (lg := lg) (cc := cc + 1) (ss := ss + 6) (lb := !decide (xs (i + 1) = 0)) (lo := xs (i + 2)) (hi := xs (i + 3)) hR hDM).1 e1
    exact law_2 hL hL2 hlv (lw_named_2 (c.1 e1)) r2 u2_at (fun z => absurd z (by decide)) (fun m9 lv9 q1 q2 => H m9 lv9 _ _ _ _ q1 q2 (inv_thr hI') (by omega) (by omega))
  · have e3 : ¬ pad = [] := fun z => e1 (Or.inl z)
    have e4 : ptsA (xs (i + 2)) (xs (i + 3)) = true := by
      cases z : ptsA (xs (i + 2)) (xs (i + 3)) with
      | true => rfl
      | false => exact absurd (Or.inr z) e1
    by_cases e2 : rs.length < 8
    · obtain ⟨y1, r1, D1, f1⟩ := c.2.2 e3 e4 e2
      obtain ⟨y2, r2, D2, t2, g2⟩ := (md_named (d := 10) (it := y1) (lg := mm_u2 lg 161 0 (Int32.toInt64 (Int32.ofNat (rs.length + 1)))) (cc := cc) (ss := ss) (lb := !decide (xs (i + 1) = 0)) (lo := xs (i + 2)) (hi := xs (i + 3)) hR (hDM.row (fun k _ => by rw [f1 127 (by decide)]) (fun a p q => f1 a (by omega)))).2.2 e3 e4 e2
      exact law_2 hL hL2 hlv (lw_named_ok r1) r2 t2 (fun _ => lg_at) (fun m9 lv9 q1 q2 => H m9 lv9 _ _ _ _ q1 q2 (inv_desk hW hA hM hK D1 f1 D2 g2) (by omega) (by omega))
    · obtain ⟨v, r2⟩ := (md_named (d := 10) (lg := lg) (cc := cc + 1) (ss := ss + 6) (lb := !decide (xs (i + 1) = 0)) (lo := xs (i + 2)) (hi := xs (i + 3)) hR hDM).2.1 e3 e4 e2
      exact law_2 hL hL2 hlv (lw_named_3 (c.2.1 e3 e4 e2)) r2 u2_at (fun z => absurd z (by decide)) (fun m9 lv9 q1 q2 => H m9 lv9 _ _ _ _ q1 q2 (inv_thr hI') (by omega) (by omega))
theorem c_3 (hR : RfOk rf) (hI : Inv it) (hL : i + 7 ≤ L) (hL2 : L ≤ 336) (hlv : LV i lv) (H : LGo P rf L xs i m cc ss) : P (mm_lp (tb_L_law L xs) (12, mm_run md 9000 12) (m + 120) 385 lv [] (mk rf it lg cc ss)) := by
  have hI' := hI
  obtain ⟨pad, rs, as, Q, hD, hDM, hW, hA, hM, hK⟩ := hI
  have c := cd_account (d := 4) (lg := lg) (cc := cc) (ss := ss) hR hD
  cases e1 : acA pad with
  | none =>
    obtain ⟨v, r2⟩ := (md_account (d := 10) (lg := lg) (cc := cc + 1) (ss := ss + 6) hR hDM).1 e1
    exact law_3 hL hL2 hlv (lw_account_2 (c.1 e1)) r2 u2_at (fun z => absurd z (by decide)) (fun m9 lv9 q1 q2 => H m9 lv9 _ _ _ _ q1 q2 (inv_thr hI') (by omega) (by omega))
  | some q =>
    by_cases e2 : as.length < 3
    · obtain ⟨y1, r1, D1, f1⟩ := (c.2 q e1).2 e2
      obtain ⟨y2, r2, D2, t2, g2⟩ := ((md_account (d := 10) (it := y1) (lg := mm_u2 lg 161 0 (Int32.toInt64 (Int32.ofNat (as.length + 1)))) (cc := cc) (ss := ss) hR (hDM.row (fun k _ => by rw [f1 127 (by decide)]) (fun a p q => f1 a (by omega)))).2 q e1).2 e2
      exact law_3 hL hL2 hlv (lw_account_ok r1) r2 t2 (fun _ => lg_at) (fun m9 lv9 q1 q2 => H m9 lv9 _ _ _ _ q1 q2 (inv_desk hW hA hM hK D1 f1 D2 g2) (by omega) (by omega))
    · obtain ⟨v, r2⟩ := ((md_account (d := 10) (lg := lg) (cc := cc + 1) (ss := ss + 6) hR hDM).2 q e1).1 e2
      exact law_3 hL hL2 hlv (lw_account_3 ((c.2 q e1).1 e2)) r2 u2_at (fun z => absurd z (by decide)) (fun m9 lv9 q1 q2 => H m9 lv9 _ _ _ _ q1 q2 (inv_thr hI') (by omega) (by omega))
theorem c_6 (hR : RfOk rf) (hI : Inv it) (hL : i + 7 ≤ L) (hL2 : L ≤ 336) (hlv : LV i lv) (H : LGo P rf L xs i m cc ss) : P (mm_lp (tb_L_law L xs) (12, mm_run md 9000 12) (m + 120) 455 lv [] (mk rf it lg cc ss)) := by
  have hI' := hI
  obtain ⟨pad, rs, as, Q, hD, hDM, hW, hA, hM, hK⟩ := hI
  have c := cd_free (d := 4) (lg := lg) (cc := cc) (ss := ss) (c := xs (i + 1)) hR hA hK
  by_cases hu : inU Q (xs (i + 1))
  · obtain ⟨n, hn, e, hu⟩ := hu
    obtain ⟨y1, r1, A1, f1⟩ := c.2 n hn e hu
    obtain ⟨y2, r2, M2, g2⟩ := (md_free (d := 9) (it := y1) (lg := mm_u2 lg 161 0 (Int32.toInt64 (Int32.ofNat (Q n).1))) (cc := cc) (ss := ss) (c := xs (i + 1)) hR (hM.rows (fun r hr => f1 r (by omega))) hK).2 n hn e hu
    have hN := inv_conn hD hDM hW f1 A1 M2 g2.lo (ok_upQ hK ok_free)
    exact law_6 hL hL2 hlv (lw_free_ok r1) r2 hN.2 (fun _ => lg_at) (fun m9 lv9 q1 q2 => H m9 lv9 _ _ _ _ q1 q2 hN.1 (by omega) (by omega))
  · obtain ⟨v, r2⟩ := (md_free (d := 9) (lg := lg) (cc := cc + 1) (ss := ss + 6) (c := xs (i + 1)) hR hM hK).1 hu
    exact law_6 hL hL2 hlv (lw_free_1 (c.1 hu)) r2 u2_at (fun z => absurd z (by decide)) (fun m9 lv9 q1 q2 => H m9 lv9 _ _ _ _ q1 q2 (inv_thr hI') (by omega) (by omega))
theorem c_10 (hR : RfOk rf) (hI : Inv it) (hL : i + 7 ≤ L) (hL2 : L ≤ 336) (hlv : LV i lv) (H : LGo P rf L xs i m cc ss) : P (mm_lp (tb_L_law L xs) (12, mm_run md 9000 12) (m + 120) 725 lv [] (mk rf it lg cc ss)) := by
  have hI' := hI
  obtain ⟨pad, rs, as, Q, hD, hDM, hW, hA, hM, hK⟩ := hI
  have c := cd_up (d := 4) (lg := lg) (cc := cc) (ss := ss) (c := xs (i + 1)) hR hA hK
  by_cases hu : inU Q (xs (i + 1))
  · obtain ⟨n, hn, e, hu⟩ := hu
    obtain ⟨y1, r1, A1, f1⟩ := c.2 n hn e hu
    obtain ⟨y2, r2, M2, g2⟩ := (md_up (d := 8) (it := y1) (lg := mm_u2 lg 161 0 (Int32.toInt64 (upA (Q n)).1)) (cc := cc) (ss := ss) (c := xs (i + 1)) hR (hM.rows (fun r hr => f1 r (by omega))) hK).2 n hn e hu
    have hN := inv_conn hD hDM hW f1 A1 M2 g2.lo (ok_upQ hK (ok_up (hK n hn) hu))
    exact law_10 hL hL2 hlv (lw_up_ok r1) r2 hN.2 (fun _ => lg_at) (fun m9 lv9 q1 q2 => H m9 lv9 _ _ _ _ q1 q2 hN.1 (by omega) (by omega))
  · obtain ⟨v, r2⟩ := (md_up (d := 8) (lg := lg) (cc := cc + 1) (ss := ss + 6) (c := xs (i + 1)) hR hM hK).1 hu
    exact law_10 hL hL2 hlv (lw_up_1 (c.1 hu)) r2 u2_at (fun z => absurd z (by decide)) (fun m9 lv9 q1 q2 => H m9 lv9 _ _ _ _ q1 q2 (inv_thr hI') (by omega) (by omega))
theorem c_11 (hR : RfOk rf) (hI : Inv it) (hL : i + 7 ≤ L) (hL2 : L ≤ 336) (hlv : LV i lv) (H : LGo P rf L xs i m cc ss) : P (mm_lp (tb_L_law L xs) (12, mm_run md 9000 12) (m + 120) 781 lv [] (mk rf it lg cc ss)) := by
  have hI' := hI
  obtain ⟨pad, rs, as, Q, hD, hDM, hW, hA, hM, hK⟩ := hI
  have c := cd_down (d := 4) (lg := lg) (cc := cc) (ss := ss) (c := xs (i + 1)) hR hA hK
  by_cases hu : inU Q (xs (i + 1))
  · obtain ⟨n, hn, e, hu⟩ := hu
    obtain ⟨y1, r1, A1, f1⟩ := c.2 n hn e hu
    obtain ⟨y2, r2, M2, g2⟩ := (md_down (d := 8) (it := y1) (lg := mm_u2 lg 161 0 (Int32.toInt64 (dnA (Q n)).1)) (cc := cc) (ss := ss) (c := xs (i + 1)) hR (hM.rows (fun r hr => f1 r (by omega))) hK).2 n hn e hu
    have hN := inv_conn hD hDM hW f1 A1 M2 g2.lo (ok_upQ hK (ok_dn (hK n hn) hu))
    exact law_11 hL hL2 hlv (lw_down_ok r1) r2 hN.2 (fun _ => lg_at) (fun m9 lv9 q1 q2 => H m9 lv9 _ _ _ _ q1 q2 hN.1 (by omega) (by omega))
  · obtain ⟨v, r2⟩ := (md_down (d := 8) (lg := lg) (cc := cc + 1) (ss := ss + 6) (c := xs (i + 1)) hR hM hK).1 hu
    exact law_11 hL hL2 hlv (lw_down_1 (c.1 hu)) r2 u2_at (fun z => absurd z (by decide)) (fun m9 lv9 q1 q2 => H m9 lv9 _ _ _ _ q1 q2 (inv_thr hI') (by omega) (by omega))
theorem c_7 (hR : RfOk rf) (hI : Inv it) (hL : i + 7 ≤ L) (hL2 : L ≤ 336) (hlv : LV i lv) (H : LGo P rf L xs i m cc ss) : P (mm_lp (tb_L_law L xs) (12, mm_run md 9000 12) (m + 120) 511 lv [] (mk rf it lg cc ss)) := by
  have hI' := hI
  obtain ⟨pad, rs, as, Q, hD, hDM, hW, hA, hM, hK⟩ := hI
  have c := cd_send (d := 3) (lg := lg) (cc := cc) (ss := ss) (c := xs (i + 1)) (v := xs (i + 2)) hR hD hA hK
  have cm := fun (lg9 : Nat → Nat → Int64) (c9 s9 : Nat) => md_send (d := 3) (lg := lg9) (cc := c9) (ss := s9) (c := xs (i + 1)) (v := xs (i + 2)) hR hDM hW hM hK
  by_cases hu : inU Q (xs (i + 1))
  · have hu' := hu
    obtain ⟨n, hn, e, hun⟩ := hu
    rcases b_cases (xs (i + 2)) with ⟨hv, b, hb, eb⟩ | hv
    · by_cases h6 : (Q n).1 = 6 ∨ (Q n).2.2.2.1.2.1 = true
      · obtain ⟨v, r2⟩ := (cm lg (cc + 1) (ss + 6)).2.2.1 n hn e hun hv h6
        exact law_7 hL hL2 hlv (lw_send_3 (c.2.2.1 n hn e hun hv h6)) r2 u2_at (fun z => absurd z (by decide)) (fun m9 lv9 q1 q2 => H m9 lv9 _ _ _ _ q1 q2 (inv_thr hI') (by omega) (by omega))
      · obtain ⟨y1, r1, A1, f1⟩ := c.2.2.2 n b hn e hun hb eb h6
        obtain ⟨y2, r2, M2, g2⟩ := (md_send (d := 3) (it := y1) (lg := mm_u2 lg 161 0 (if b2i (sndA rs as (Q n) b).1 = 0 then 0 else 1)) (cc := cc) (ss := ss) (c := xs (i + 1)) (v := xs (i + 2)) hR (hDM.row (fun k _ => by rw [f1 127 (by omega)]) (fun a p q => f1 a (by omega))) (hW.row (f1 _ (by omega))) (hM.rows (fun r hr => f1 r (by omega))) hK).2.2.2 n b hn e hun hb eb h6
        have hN := inv_conn hD hDM hW f1 A1 M2 g2.lo (ok_upQ hK (ok_snd (hK n hn) hun (fun z => h6 (Or.inl z)) hb))
        exact law_7 hL hL2 hlv (lw_send_ok r1) r2 hN.2 (fun _ => lg_at) (fun m9 lv9 q1 q2 => H m9 lv9 _ _ _ _ q1 q2 hN.1 (by omega) (by omega))
    · obtain ⟨v, r2⟩ := (cm lg (cc + 1) (ss + 6)).2.1 hu' hv
      exact law_7 hL hL2 hlv (lw_send_2 (c.2.1 hu' hv)) r2 u2_at (fun z => absurd z (by decide)) (fun m9 lv9 q1 q2 => H m9 lv9 _ _ _ _ q1 q2 (inv_thr hI') (by omega) (by omega))
  · obtain ⟨v, r2⟩ := (cm lg (cc + 1) (ss + 6)).1 hu
    exact law_7 hL hL2 hlv (lw_send_1 (c.1 hu)) r2 u2_at (fun z => absurd z (by decide)) (fun m9 lv9 q1 q2 => H m9 lv9 _ _ _ _ q1 q2 (inv_thr hI') (by omega) (by omega))
theorem c_8 (hR : RfOk rf) (hI : Inv it) (hL : i + 7 ≤ L) (hL2 : L ≤ 336) (hlv : LV i lv) (H : LGo P rf L xs i m cc ss) : P (mm_lp (tb_L_law L xs) (12, mm_run md 9000 12) (m + 120) 586 lv [] (mk rf it lg cc ss)) := by
  have hI' := hI
  obtain ⟨pad, rs, as, Q, hD, hDM, hW, hA, hM, hK⟩ := hI
  have c := cd_give (d := 3) (lg := lg) (cc := cc) (ss := ss) (c := xs (i + 1)) (v := xs (i + 2)) hR hA hK
  have cm := fun (lg9 : Nat → Nat → Int64) (c9 s9 : Nat) => md_give (d := 8) (lg := lg9) (cc := c9) (ss := s9) (c := xs (i + 1)) (v := xs (i + 2)) hR hM hK
  by_cases hu : inU Q (xs (i + 1))
  · have hu' := hu
    obtain ⟨n, hn, e, hun⟩ := hu
    cases hv : (decide (0 ≤ xs (i + 2)) && decide (xs (i + 2) ≤ 255)) with
    | true =>
      by_cases h6 : ¬ (Q n).1 = 5 ∨ (Q n).2.2.2.1.2.2 = true
      · obtain ⟨v, r2⟩ := (cm lg (cc + 1) (ss + 6)).2.2.1 n hn e hun hv h6
        exact law_8 hL hL2 hlv (lw_give_3 (c.2.2.1 n hn e hun hv h6)) r2 u2_at (fun z => absurd z (by decide)) (fun m9 lv9 q1 q2 => H m9 lv9 _ _ _ _ q1 q2 (inv_thr hI') (by omega) (by omega))
      · obtain ⟨y1, r1, A1, f1⟩ := c.2.2.2 n hn e hun hv h6
        obtain ⟨y2, r2, M2, g2⟩ := (md_give (d := 8) (it := y1) (lg := mm_u2 lg 161 0 (if b2i (givA (Q n) (xs (i + 2))).1 = 0 then 0 else 1)) (cc := cc) (ss := ss) (c := xs (i + 1)) (v := xs (i + 2)) hR (hM.rows (fun r hr => f1 r (by omega))) hK).2.2.2 n hn e hun hv h6
        have e5 : (Q n).1 = 5 := by
          by_cases z : (Q n).1 = 5
          · exact z
          · exact absurd (Or.inl z) h6
        have hN := inv_conn hD hDM hW f1 A1 M2 g2.lo (ok_upQ hK (ok_giv (hK n hn) e5))
        exact law_8 hL hL2 hlv (lw_give_ok r1) r2 hN.2 (fun _ => lg_at) (fun m9 lv9 q1 q2 => H m9 lv9 _ _ _ _ q1 q2 hN.1 (by omega) (by omega))
    | false =>
      obtain ⟨v, r2⟩ := (cm lg (cc + 1) (ss + 6)).2.1 hu' hv
      exact law_8 hL hL2 hlv (lw_give_2 (c.2.1 hu' hv)) r2 u2_at (fun z => absurd z (by decide)) (fun m9 lv9 q1 q2 => H m9 lv9 _ _ _ _ q1 q2 (inv_thr hI') (by omega) (by omega))
  · obtain ⟨v, r2⟩ := (cm lg (cc + 1) (ss + 6)).1 hu
    exact law_8 hL hL2 hlv (lw_give_1 (c.1 hu)) r2 u2_at (fun z => absurd z (by decide)) (fun m9 lv9 q1 q2 => H m9 lv9 _ _ _ _ q1 q2 (inv_thr hI') (by omega) (by omega))
theorem c_9 (hR : RfOk rf) (hI : Inv it) (hL : i + 7 ≤ L) (hL2 : L ≤ 336) (hlv : LV i lv) (H : LGo P rf L xs i m cc ss) : P (mm_lp (tb_L_law L xs) (12, mm_run md 9000 12) (m + 120) 661 lv [] (mk rf it lg cc ss)) := by
  have hI' := hI
  obtain ⟨pad, rs, as, Q, hD, hDM, hW, hA, hM, hK⟩ := hI
  have c := cd_conn (d := 4) (lg := lg) (cc := cc) (ss := ss) (c := xs (i + 1)) (st := !decide (xs (i + 2) = 0)) hR hA hK
  by_cases hu : inU Q (xs (i + 1))
  · obtain ⟨n, hn, e, hun⟩ := hu
    by_cases h4 : (Q n).1 = 4
    · obtain ⟨y1, r1, A1, f1⟩ := c.2.2 n hn e h4
      obtain ⟨y2, r2, M2, g2⟩ := (md_conn (d := 7) (it := y1) (lg := lg) (cc := cc) (ss := ss) (c := xs (i + 1)) (st := !decide (xs (i + 2) = 0)) hR (hM.rows (fun r hr => f1 r (by omega))) hK).2.2 n hn e h4
      have hN := inv_conn hD hDM hW f1 A1 M2 g2.lo (ok_upQ hK (ok_conn (hK n hn) h4))
      exact law_9 hL hL2 hlv (lw_connected_ok r1) r2 hN.2 (fun m9 lv9 q1 q2 => H m9 lv9 _ _ _ _ q1 q2 hN.1 (by omega) (by omega))
    · have r2 := (md_conn (d := 7) (lg := lg) (cc := cc + 1) (ss := ss + 6) (c := xs (i + 1)) (st := !decide (xs (i + 2) = 0)) hR hM hK).2.1 n hn e hun h4
      exact law_9 hL hL2 hlv (lw_connected_3 (c.2.1 n hn e hun h4)) r2 u2_at (fun m9 lv9 q1 q2 => H m9 lv9 _ _ _ _ q1 q2 (inv_thr hI') (by omega) (by omega))
  · have r2 := (md_conn (d := 7) (lg := lg) (cc := cc + 1) (ss := ss + 6) (c := xs (i + 1)) (st := !decide (xs (i + 2) = 0)) hR hM hK).1 hu
    exact law_9 hL hL2 hlv (lw_connected_1 (c.1 hu)) r2 u2_at (fun m9 lv9 q1 q2 => H m9 lv9 _ _ _ _ q1 q2 (inv_thr hI') (by omega) (by omega))
theorem c_12 (hR : RfOk rf) (hI : Inv it) (hL : i + 7 ≤ L) (hL2 : L ≤ 336) (hlv : LV i lv) (H : LGo P rf L xs i m cc ss) : P (mm_lp (tb_L_law L xs) (12, mm_run md 9000 12) (m + 120) 837 lv [] (mk rf it lg cc ss)) := by
  have hI' := hI
  obtain ⟨pad, rs, as, Q, hD, hDM, hW, hA, hM, hK⟩ := hI
  have c := cd_fin (d := 4) (lg := lg) (cc := cc) (ss := ss) (c := xs (i + 1)) (cl := !decide (xs (i + 2) = 0)) hR hA hK
  by_cases hu : inU Q (xs (i + 1))
  · obtain ⟨n, hn, e, hun⟩ := hu
    cases hf : finB (Q n) (!decide (xs (i + 2) = 0)) with
    | false =>
      obtain ⟨y1, r1, A1, f1⟩ := c.2.2 n hn e hun hf
      obtain ⟨y2, r2, M2, g2⟩ := (md_fin (d := 8) (it := y1) (lg := lg) (cc := cc) (ss := ss) (c := xs (i + 1)) (cl := !decide (xs (i + 2) = 0)) hR (hM.rows (fun r hr => f1 r (by omega))) hK).2.2 n hn e hun hf
      have hN := inv_conn hD hDM hW f1 A1 M2 g2.lo (ok_upQ hK (ok_fin (hK n hn)))
      exact law_12 hL hL2 hlv (lw_finish_ok r1) r2 hN.2 (fun m9 lv9 q1 q2 => H m9 lv9 _ _ _ _ q1 q2 hN.1 (by omega) (by omega))
    | true =>
      have r2 := (md_fin (d := 8) (lg := lg) (cc := cc + 1) (ss := ss + 6) (c := xs (i + 1)) (cl := !decide (xs (i + 2) = 0)) hR hM hK).2.1 n hn e hun hf
      exact law_12 hL hL2 hlv (lw_finish_3 (c.2.1 n hn e hun hf)) r2 u2_at (fun m9 lv9 q1 q2 => H m9 lv9 _ _ _ _ q1 q2 (inv_thr hI') (by omega) (by omega))
  · have r2 := (md_fin (d := 8) (lg := lg) (cc := cc + 1) (ss := ss + 6) (c := xs (i + 1)) (cl := !decide (xs (i + 2) = 0)) hR hM hK).1 hu
    exact law_12 hL hL2 hlv (lw_finish_1 (c.1 hu)) r2 u2_at (fun m9 lv9 q1 q2 => H m9 lv9 _ _ _ _ q1 q2 (inv_thr hI') (by omega) (by omega))
theorem c_14 (hR : RfOk rf) (hI : Inv it) (hL : i + 7 ≤ L) (hL2 : L ≤ 336) (hlv : LV i lv) (H : LGo P rf L xs i m cc ss) : P (mm_lp (tb_L_law L xs) (12, mm_run md 9000 12) (m + 120) 914 lv [] (mk rf it lg cc ss)) := by
  have hI' := hI
  obtain ⟨pad, rs, as, Q, hD, hDM, hW, hA, hM, hK⟩ := hI
  have c := cd_about (d := 5) (lg := lg) (cc := cc) (ss := ss) (c := xs (i + 1)) (w := xs (i + 2)) hR hA
  by_cases hn9 : ∃ n, n < 4 ∧ xs (i + 1) = Int32.ofNat n
  · obtain ⟨n, hn, e⟩ := hn9
    rcases w_cases 8 (by decide) (xs (i + 2)) with ⟨k, hk, ek⟩ | ⟨-, hw⟩
    · have r1 := c.2.2 n k hn e hk ek
      have r2 := (md_about (d := 10) (lg := mm_u2 lg 161 0 (Int32.toInt64 (abA (Q n) k))) (cc := cc) (ss := ss) (c := xs (i + 1)) (w := xs (i + 2)) hR hM hK).2.2 n k hn e hk ek
      exact law_14 hL hL2 hlv (lw_about_ok r1) r2 u2_at (fun _ => lg_at) (fun m9 lv9 q1 q2 => H m9 lv9 _ _ _ _ q1 q2 (inv_thr1 hI') (by omega) (by omega))
    · obtain ⟨v, r2⟩ := (md_about (d := 10) (lg := lg) (cc := cc + 1) (ss := ss + 6) (c := xs (i + 1)) (w := xs (i + 2)) hR hM hK).2.1 n hn e hw
      exact law_14 hL hL2 hlv (lw_about_2 (c.2.1 n hn e hw)) r2 u2_at (fun z => absurd z (by decide)) (fun m9 lv9 q1 q2 => H m9 lv9 _ _ _ _ q1 q2 (inv_thr hI') (by omega) (by omega))
  · obtain ⟨v, r2⟩ := (md_about (d := 10) (lg := lg) (cc := cc + 1) (ss := ss + 6) (c := xs (i + 1)) (w := xs (i + 2)) hR hM hK).1 hn9
    exact law_14 hL hL2 hlv (lw_about_1 (c.1 hn9)) r2 u2_at (fun z => absurd z (by decide)) (fun m9 lv9 q1 q2 => H m9 lv9 _ _ _ _ q1 q2 (inv_thr hI') (by omega) (by omega))
theorem c_15 (hR : RfOk rf) (hI : Inv it) (hL : i + 7 ≤ L) (hL2 : L ≤ 336) (hlv : LV i lv) (H : LGo P rf L xs i m cc ss) : P (mm_lp (tb_L_law L xs) (12, mm_run md 9000 12) (m + 120) 982 lv [] (mk rf it lg cc ss)) := by
  have hI' := hI
  obtain ⟨pad, rs, as, Q, hD, hDM, hW, hA, hM, hK⟩ := hI
  have c := cd_lets (d := 5) (lg := lg) (cc := cc) (ss := ss) (ad := xs (i + 1)) (p := xs (i + 2)) hR hD
  cases hp : (decide (0 ≤ xs (i + 2)) && decide (xs (i + 2) ≤ 65535)) with
  | false =>
    obtain ⟨v, r2⟩ := (md_lets (d := 6) (lg := lg) (cc := cc + 1) (ss := ss + 6) (ad := xs (i + 1)) (p := xs (i + 2)) hR hDM hD.isC).1 hp
    exact law_15 hL hL2 hlv (lw_lets_2 (c.1 hp)) r2 u2_at (fun z => absurd z (by decide)) (fun m9 lv9 q1 q2 => H m9 lv9 _ _ _ _ q1 q2 (inv_thr hI') (by omega) (by omega))
  | true =>
    obtain ⟨y1, r1, D1, f1⟩ := c.2 hp
    have r2 := (md_lets (d := 6) (it := y1) (lg := mm_u2 lg 161 0 (if b2i (allA rs (goA (xs (i + 1)) pad) (goN pad) (xs (i + 2))) = 0 then 0 else 1)) (cc := cc) (ss := ss) (ad := xs (i + 1)) (p := xs (i + 2)) hR (hDM.row (fun k _ => by rw [f1 127 (by decide)]) (fun a p q => f1 a (by omega))) hD.isC).2 hp
    refine law_15 hL hL2 hlv (lw_lets_ok r1) r2 u2_at (fun _ => lg_at) (fun m9 lv9 q1 q2 => H m9 lv9 _ _ _ _ q1 q2 (inv_thr1 ?_) (by omega) (by omega))
    exact ⟨pad, rs, as, Q, D1, hDM.row (fun k _ => by rw [f1 127 (by decide)]) (fun a p q => f1 a (by omega)), hW.row (f1 _ (by decide)), hA.row (fun b p q => f1 b (by omega)), hM.rows (fun r hr => f1 r (by omega)), hK⟩
theorem c_17 (hR : RfOk rf) (hI : Inv it) (hL : i + 7 ≤ L) (hL2 : L ≤ 336) (hlv : LV i lv) (H : LGo P rf L xs i m cc ss) : P (mm_lp (tb_L_law L xs) (12, mm_run md 9000 12) (m + 120) 1100 lv [] (mk rf it lg cc ss)) := by
  have hI' := hI
  obtain ⟨pad, rs, as, Q, hD, hDM, hW, hA, hM, hK⟩ := hI
  have c := cd_count (d := 5) (lg := lg) (cc := cc) (ss := ss) (w := xs (i + 1)) hR hD hA hK
  rcases w_cases 4 (by decide) (xs (i + 1)) with ⟨k, hk, ek⟩ | ⟨-, hw⟩
  · have r2 := (md_count (d := 10) (lg := mm_u2 lg 161 0 (Int32.toInt64 (cnA pad rs as Q k))) (cc := cc) (ss := ss) (w := xs (i + 1)) hR hDM hM hK).2 k hk ek
    exact law_17 hL hL2 hlv (lw_count_ok (c.2 k hk ek)) r2 u2_at (fun _ => lg_at) (fun m9 lv9 q1 q2 => H m9 lv9 _ _ _ _ q1 q2 (inv_thr1 hI') (by omega) (by omega))
  · obtain ⟨v, r2⟩ := (md_count (d := 10) (lg := lg) (cc := cc + 1) (ss := ss + 6) (w := xs (i + 1)) hR hDM hM hK).1 hw
    exact law_17 hL hL2 hlv (lw_count_2 (c.1 hw)) r2 u2_at (fun z => absurd z (by decide)) (fun m9 lv9 q1 q2 => H m9 lv9 _ _ _ _ q1 q2 (inv_thr hI') (by omega) (by omega))
theorem fu_d : ∀ n, n < 5 → ∀ b, b < 129 → ∃ f : UInt32, fuA n b = .float f ∧ FP.f2d f &&& 0x7fffffffffffffff ≤ 0x7ff0000000000000 ∧ (Op.cmpValue (FP.dcmp (FP.f2d f) (FP.f2d f)) .l) = (0 : Int32) := by
  have h : ∀ n, n < 5 → ∀ b, b < 129 → (FP.f2d (if n = 0 then FP.fconst0 else FP.fdiv (FP.i2f (Int32.ofNat b)) (FP.i2f (Int32.ofNat (32 * n)))) &&& 0x7fffffffffffffff ≤ 0x7ff0000000000000 ∧ (Op.cmpValue (FP.dcmp (FP.f2d (if n = 0 then FP.fconst0 else FP.fdiv (FP.i2f (Int32.ofNat b)) (FP.i2f (Int32.ofNat (32 * n))))) (FP.f2d (if n = 0 then FP.fconst0 else FP.fdiv (FP.i2f (Int32.ofNat b)) (FP.i2f (Int32.ofNat (32 * n)))))) .l) = (0 : Int32)) := by decide +kernel
  intro n hn b hb
  refine ⟨_, ?_, h n hn b hb⟩
  unfold fuA
  by_cases e : n = 0
  · rw [if_pos e, if_pos e]
  · rw [if_neg e, if_neg e]
theorem c_16 (hR : RfOk rf) (hI : Inv it) (hL : i + 7 ≤ L) (hL2 : L ≤ 336) (hlv : LV i lv) (H : LGo P rf L xs i m cc ss) : P (mm_lp (tb_L_law L xs) (12, mm_run md 9000 12) (m + 120) 1057 lv [] (mk rf it lg cc ss)) := by
  have hI' := hI
  obtain ⟨pad, rs, as, Q, hD, hDM, hW, hA, hM, hK⟩ := hI
  have hu := usN_le (Q := Q) 4
  have hy := byN_le hK 4 (by decide)
  obtain ⟨f, e1, e2, e3⟩ := fu_d (usN Q 4) (by omega) (byN Q 4) (by omega)
  have r1 := cd_full (d := 11) (lg := lg) (cc := cc) (ss := ss) hR hA hK
  have r2 := md_full (d := 10) (lg := lg) (cc := cc) (ss := ss) hR hM hK
  rw [e1] at r1 r2
  exact law_16 hL hL2 hlv e2 e3 r1 r2 (fun m9 lv9 q1 q2 => H m9 lv9 _ _ _ _ q1 q2 (inv_thr1 hI') (by omega) (by omega))
end PW3
