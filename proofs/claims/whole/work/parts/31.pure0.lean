/-! running the small machine by its segments: rules -/
section PU0
variable {rf : Nat → Nat → Option Nat} {it : Nat → Nat → Int32} {lg : Nat → Nat → Int64} {cc ss : Nat}
theorem mk_sh : mm_sh (mk rf it lg cc ss) = SH := rfl
theorem mk_rf : mm_rf (mk rf it lg cc ss) = rf := rfl
theorem mk_it : mm_it (mk rf it lg cc ss) = it := rfl
theorem mk_lg : mm_lg (mk rf it lg cc ss) = lg := rfl
theorem mk_cc : mm_cc (mk rf it lg cc ss) = cc := rfl
theorem mk_ss : mm_ss (mk rf it lg cc ss) = ss := rfl
theorem mk_si {a k : Nat} {v : Int32} : mm_si (mk rf it lg cc ss) a k v = mk rf (mm_u2 it a k v) lg cc ss := rfl
theorem mk_sl {a k : Nat} {v : Int64} : mm_sl (mk rf it lg cc ss) a k v = mk rf it (mm_u2 lg a k v) cc ss := rfl
theorem mk_th : mm_th (mk rf it lg cc ss) = mk rf it lg (cc + 1) (ss + 6) := rfl
theorem mq_b_d (p : Prop) [Decidable p] (a b : Option mm_R) : mq_b (decide p) a b = if p then a else b := by
  unfold mq_b
  by_cases hp : p
  · rw [if_pos hp, decide_eq_true hp]; rfl
  · rw [if_neg hp, decide_eq_false hp]; rfl
theorem mq_u_s {u : mm_M} {f : mm_M → Option mm_R} : mq_u u f = f u := rfl
theorem mq_r_s {q : Nat} {f : Nat → Option mm_R} : mq_r (some q) f = f q := rfl
theorem mq_a_s {t t9 n : Nat} {i : Int32} {a : Option mm_R} : mq_a (some (t9, n)) t i a = if t9 = t ∧ mm_in i n = true then a else none := rfl
theorem mq_l_s {t n : Nat} {f : Int32 → Option mm_R} : mq_l (some (t, n)) f = if 0 < t ∧ t < 8 then f (Int32.ofNat n) else none := rfl
theorem ck_mk {it9 : Nat → Nat → Int32} {lg9 : Nat → Nat → Int64} {cc9 ss9 : Nat} {x : Option Value ⊕ Nat} : mm_ck (mk rf it lg cc ss) (some (x, mk rf it9 lg9 cc9 ss9)) = if cc ≤ cc9 ∧ ss ≤ ss9 then some (x, mk rf it9 lg9 cc9 ss9) else none := rfl
theorem ck_ite (u : mm_M) (p : Prop) [Decidable p] (a b : Option mm_R) : mm_ck u (if p then a else b) = if p then mm_ck u a else mm_ck u b := by
  by_cases hp : p
  · rw [if_pos hp, if_pos hp]
  · rw [if_neg hp, if_neg hp]
theorem ck_none {u : mm_M} : mm_ck u none = none := rfl
theorem gd_get {l : List Int32} {j : Nat} (h : j < l.length) : l.getD j 0 = l[j] := by simp [List.getD_eq_getElem?_getD, h]
theorem gd_app {l r : List Int32} {j : Nat} (h : j < l.length) : (l ++ r).getD j 0 = l.getD j 0 := by simp [List.getD_eq_getElem?_getD, List.getElem?_append_left h]
theorem in_of {j n : Nat} (hj : j < 2 ^ 31) : mm_in (Int32.ofNat j) n = true ↔ j < n := by
  have h0 : ¬ Int32.ofNat j < 0 := by
    rw [Int32.lt_iff_toInt_lt, Int32.toInt_ofNat_of_lt hj]
    simp
  simp only [mm_in, decide_eq_true_eq, not_or, Nat.not_le, Int32.toNatClampNeg_ofNat_of_lt hj]
  exact ⟨fun h => h.2, fun h => ⟨h0, h⟩⟩
theorem i_lt {j k : Nat} (hj : j < 2 ^ 31) (hk : k < 2 ^ 31) : Int32.ofNat j < (OfNat.ofNat k : Int32) ↔ j < k := Int32.ofNat_lt_iff_lt hj hk
theorem i_lt' {j k : Nat} (hj : j < 2 ^ 31) (hk : k < 2 ^ 31) : (OfNat.ofNat k : Int32) < Int32.ofNat j ↔ k < j := Int32.ofNat_lt_iff_lt hk hj
theorem i_le {j k : Nat} (hj : j < 2 ^ 31) (hk : k < 2 ^ 31) : Int32.ofNat j ≤ (OfNat.ofNat k : Int32) ↔ j ≤ k := Int32.ofNat_le_iff_le hj hk
theorem i_le' {j k : Nat} (hj : j < 2 ^ 31) (hk : k < 2 ^ 31) : (OfNat.ofNat k : Int32) ≤ Int32.ofNat j ↔ k ≤ j := Int32.ofNat_le_iff_le hk hj
theorem i_lt0 {j : Nat} (hj : j < 2 ^ 31) : ¬ Int32.ofNat j < 0 := by
  rw [Int32.lt_iff_toInt_lt, Int32.toInt_ofNat_of_lt hj]
  simp
theorem i_inj {j k : Nat} (hj : j < 2 ^ 31) (hk : k < 2 ^ 31) : Int32.ofNat j = Int32.ofNat k ↔ j = k := by
  refine ⟨fun h => ?_, fun h => by rw [h]⟩
  have h9 := congrArg Int32.toNatClampNeg h
  rwa [Int32.toNatClampNeg_ofNat_of_lt hj, Int32.toNatClampNeg_ofNat_of_lt hk] at h9
theorem i_eq {j k : Nat} (hj : j < 2 ^ 31) (hk : k < 2 ^ 31) : Int32.ofNat j = (OfNat.ofNat k : Int32) ↔ j = k := i_inj hj hk
theorem lit_eq {j k : Nat} (hj : j < 2147483648) (hk : k < 2147483648) : ((OfNat.ofNat j : Int32) = OfNat.ofNat k) = (j = k) := propext (i_inj hj hk)
theorem ne_0_1 : ((0 : Int32) = 1) = False := by decide
theorem ne_0_2 : ((0 : Int32) = 2) = False := by decide
theorem ne_0_3 : ((0 : Int32) = 3) = False := by decide
theorem ne_0_4 : ((0 : Int32) = 4) = False := by decide
theorem ne_0_5 : ((0 : Int32) = 5) = False := by decide
theorem ne_0_6 : ((0 : Int32) = 6) = False := by decide
theorem ne_0_7 : ((0 : Int32) = 7) = False := by decide
theorem ne_0_8 : ((0 : Int32) = 8) = False := by decide
theorem ne_1_0 : ((1 : Int32) = 0) = False := by decide
theorem ne_1_2 : ((1 : Int32) = 2) = False := by decide
theorem ne_1_3 : ((1 : Int32) = 3) = False := by decide
theorem ne_1_4 : ((1 : Int32) = 4) = False := by decide
theorem ne_1_5 : ((1 : Int32) = 5) = False := by decide
theorem ne_1_6 : ((1 : Int32) = 6) = False := by decide
theorem ne_1_7 : ((1 : Int32) = 7) = False := by decide
theorem ne_1_8 : ((1 : Int32) = 8) = False := by decide
theorem ne_2_0 : ((2 : Int32) = 0) = False := by decide
theorem ne_2_1 : ((2 : Int32) = 1) = False := by decide
theorem ne_2_3 : ((2 : Int32) = 3) = False := by decide
theorem ne_2_4 : ((2 : Int32) = 4) = False := by decide
theorem ne_2_5 : ((2 : Int32) = 5) = False := by decide
theorem ne_2_6 : ((2 : Int32) = 6) = False := by decide
theorem ne_2_7 : ((2 : Int32) = 7) = False := by decide
theorem ne_2_8 : ((2 : Int32) = 8) = False := by decide
theorem ne_3_0 : ((3 : Int32) = 0) = False := by decide
theorem ne_3_1 : ((3 : Int32) = 1) = False := by decide
theorem ne_3_2 : ((3 : Int32) = 2) = False := by decide
theorem ne_3_4 : ((3 : Int32) = 4) = False := by decide
theorem ne_3_5 : ((3 : Int32) = 5) = False := by decide
theorem ne_3_6 : ((3 : Int32) = 6) = False := by decide
theorem ne_3_7 : ((3 : Int32) = 7) = False := by decide
theorem ne_3_8 : ((3 : Int32) = 8) = False := by decide
theorem ne_4_0 : ((4 : Int32) = 0) = False := by decide
theorem ne_4_1 : ((4 : Int32) = 1) = False := by decide
theorem ne_4_2 : ((4 : Int32) = 2) = False := by decide
theorem ne_4_3 : ((4 : Int32) = 3) = False := by decide
theorem ne_4_5 : ((4 : Int32) = 5) = False := by decide
theorem ne_4_6 : ((4 : Int32) = 6) = False := by decide
theorem ne_4_7 : ((4 : Int32) = 7) = False := by decide
theorem ne_4_8 : ((4 : Int32) = 8) = False := by decide
theorem ne_5_0 : ((5 : Int32) = 0) = False := by decide
theorem ne_5_1 : ((5 : Int32) = 1) = False := by decide
theorem ne_5_2 : ((5 : Int32) = 2) = False := by decide
theorem ne_5_3 : ((5 : Int32) = 3) = False := by decide
theorem ne_5_4 : ((5 : Int32) = 4) = False := by decide
theorem ne_5_6 : ((5 : Int32) = 6) = False := by decide
theorem ne_5_7 : ((5 : Int32) = 7) = False := by decide
theorem ne_5_8 : ((5 : Int32) = 8) = False := by decide
theorem ne_6_0 : ((6 : Int32) = 0) = False := by decide
theorem ne_6_1 : ((6 : Int32) = 1) = False := by decide
theorem ne_6_2 : ((6 : Int32) = 2) = False := by decide
theorem ne_6_3 : ((6 : Int32) = 3) = False := by decide
theorem ne_6_4 : ((6 : Int32) = 4) = False := by decide
theorem ne_6_5 : ((6 : Int32) = 5) = False := by decide
theorem ne_6_7 : ((6 : Int32) = 7) = False := by decide
theorem ne_6_8 : ((6 : Int32) = 8) = False := by decide
theorem ne_7_0 : ((7 : Int32) = 0) = False := by decide
theorem ne_7_1 : ((7 : Int32) = 1) = False := by decide
theorem ne_7_2 : ((7 : Int32) = 2) = False := by decide
theorem ne_7_3 : ((7 : Int32) = 3) = False := by decide
theorem ne_7_4 : ((7 : Int32) = 4) = False := by decide
theorem ne_7_5 : ((7 : Int32) = 5) = False := by decide
theorem ne_7_6 : ((7 : Int32) = 6) = False := by decide
theorem ne_7_8 : ((7 : Int32) = 8) = False := by decide
theorem ne_8_0 : ((8 : Int32) = 0) = False := by decide
theorem ne_8_1 : ((8 : Int32) = 1) = False := by decide
theorem ne_8_2 : ((8 : Int32) = 2) = False := by decide
theorem ne_8_3 : ((8 : Int32) = 3) = False := by decide
theorem ne_8_4 : ((8 : Int32) = 4) = False := by decide
theorem ne_8_5 : ((8 : Int32) = 5) = False := by decide
theorem ne_8_6 : ((8 : Int32) = 6) = False := by decide
theorem ne_8_7 : ((8 : Int32) = 7) = False := by decide
theorem i_suc {j : Nat} : Int32.ofNat j + 1 = Int32.ofNat (j + 1) := (Int32.ofNat_add j 1).symm
theorem i_tn {j : Nat} (hj : j < 2 ^ 31) : (Int32.ofNat j).toNatClampNeg = j := Int32.toNatClampNeg_ofNat_of_lt hj
theorem i_nn {v : Int32} (h : 0 ≤ v) : v = Int32.ofNat v.toNatClampNeg := by
  apply Int32.toInt_inj.mp
  rw [Int32.toInt_ofNat_of_lt (Int32.toNatClampNeg_lt v)]
  have h0 : 0 ≤ v.toInt := by
    have := Int32.le_iff_toInt_le.mp h
    simpa using this
  show v.toInt = ((v.toInt.toNat : Nat) : Int)
  omega
def mm_clr (r : Option mm_R) (rest : List Value) (hs : List (Nat × Nat × Nat)) (K : mm_K) (pc : Nat) (lv : mm_L) : Option mm_R := match r with
  | some (.inl none, u2) => K (pc + 3) lv rest u2
  | some (.inl (some v), u2) => K (pc + 3) lv (v :: rest) u2
  | some (.inr x, u2) => (match hs.find? (fun h => Nat.beq h.1 x) with
      | some h => K (h.2.1 + h.2.2) [] [] u2
      | none => if hs = [] then some (.inr x, u2) else none)
  | none => none
theorem cl_eq {k : Nat} {as rest : List Value} {hs : List (Nat × Nat × Nat)} {K : mm_K} {F : mm_F} {pc : Nat} {lv : mm_L} {u : mm_M} : mm_cl k as rest hs K F pc lv u = mm_clr (F.2 k as u) rest hs K pc lv := rfl
theorem clr_n {u2 : mm_M} {rest : List Value} {hs : List (Nat × Nat × Nat)} {K : mm_K} {pc : Nat} {lv : mm_L} : mm_clr (some (.inl none, u2)) rest hs K pc lv = K (pc + 3) lv rest u2 := rfl
theorem clr_v {v : Value} {u2 : mm_M} {rest : List Value} {hs : List (Nat × Nat × Nat)} {K : mm_K} {pc : Nat} {lv : mm_L} : mm_clr (some (.inl (some v), u2)) rest hs K pc lv = K (pc + 3) lv (v :: rest) u2 := rfl
theorem clr_x {x : Nat} {u2 : mm_M} {rest : List Value} {K : mm_K} {pc : Nat} {lv : mm_L} : mm_clr (some (.inr x, u2)) rest [] K pc lv = some (.inr x, u2) := rfl
theorem clr_ite (p : Prop) [Decidable p] (a b : Option mm_R) (rest : List Value) (hs : List (Nat × Nat × Nat)) (K : mm_K) (pc : Nat) (lv : mm_L) : mm_clr (if p then a else b) rest hs K pc lv = if p then mm_clr a rest hs K pc lv else mm_clr b rest hs K pc lv := by
  by_cases hp : p
  · rw [if_pos hp, if_pos hp]
  · rw [if_neg hp, if_neg hp]
def mm_crr (r : Option mm_R) (rest : List Value) (K : mm_K) (pc : Nat) (lv : mm_L) : Option mm_R := match r with
  | some (.inl none, u2) => K (pc + 3) lv rest u2
  | some (.inl (some v), u2) => K (pc + 3) lv (v :: rest) u2
  | _ => none
theorem cr_eq {k : Nat} {as rest : List Value} {K : mm_K} {F : mm_F} {pc : Nat} {lv : mm_L} {u : mm_M} : mm_cr k as rest K F pc lv u = mm_crr (F.2 k as u) rest K pc lv := rfl
theorem crr_n {u2 : mm_M} {rest : List Value} {K : mm_K} {pc : Nat} {lv : mm_L} : mm_crr (some (.inl none, u2)) rest K pc lv = K (pc + 3) lv rest u2 := rfl
theorem crr_v {v : Value} {u2 : mm_M} {rest : List Value} {K : mm_K} {pc : Nat} {lv : mm_L} : mm_crr (some (.inl (some v), u2)) rest K pc lv = K (pc + 3) lv (v :: rest) u2 := rfl
theorem crr_ite (p : Prop) [Decidable p] (a b : Option mm_R) (rest : List Value) (K : mm_K) (pc : Nat) (lv : mm_L) : mm_crr (if p then a else b) rest K pc lv = if p then mm_crr a rest K pc lv else mm_crr b rest K pc lv := by
  by_cases hp : p
  · rw [if_pos hp, if_pos hp]
  · rw [if_neg hp, if_neg hp]
theorem ct_0 : mm_ct [] = true := rfl
theorem u2_at {f : Nat → Nat → Int32} {a k : Nat} {v : Int32} : mm_u2 f a k v a k = v := by simp [mm_u2]
theorem u2_ne {f : Nat → Nat → Int32} {a k x y : Nat} {v : Int32} (h : x ≠ a) : mm_u2 f a k v x y = f x y := by simp [mm_u2, h]
theorem u2_row {f : Nat → Nat → Int32} {a k x : Nat} {v : Int32} (h : x ≠ a) : mm_u2 f a k v x = f x := by
  funext y
  exact u2_ne h
theorem u2_nk {f : Nat → Nat → Int32} {a k x y : Nat} {v : Int32} (h : y ≠ k) : mm_u2 f a k v x y = f x y := by
  simp only [mm_u2, h, if_false]
  by_cases hx : x = a
  · rw [if_pos hx, hx]
  · rw [if_neg hx]
/-- a text: its characters -/
def TxC (x : Nat → Nat → Int32) (t : Nat) (l : List Int32) : Prop := l.length ≤ 15 ∧ x t 1 = Int32.ofNat l.length ∧ ∀ j, j < l.length → x (t + 1) j = l.getD j 0
/-- where texts are -/
def TxS (rf : Nat → Nat → Option Nat) (t : Nat) : Prop := SH[t]? = some (0, 9) ∧ rf t 0 = some (t + 1) ∧ SH[t + 1]? = some (3, 15)
theorem chr_id {n : Nat} (h : n < 65536) : vp_nar .char ((Int32.ofNat n).toUInt32 % 65536).toInt32 = Int32.ofNat n := by
  have e1 : (Int32.ofNat n).toUInt32 % 65536 = UInt32.ofNat n := by
    apply UInt32.toNat_inj.mp
    simp only [Int32.toUInt32_ofNat', UInt32.toNat_mod, UInt32.toNat_ofNat']
    show n % 2 ^ 32 % 65536 = n % 2 ^ 32
    omega
  rw [e1]
  show (UInt32.ofNat n).toInt32.toUInt32.toUInt16.toUInt32.toInt32 = _
  have e2 : (UInt32.ofNat n).toInt32.toUInt32.toUInt16.toUInt32 = UInt32.ofNat n := by
    apply UInt32.toNat_inj.mp
    simp only [UInt32.toInt32_ofNat', Int32.toUInt32_ofNat', UInt16.toNat_toUInt32, UInt32.toNat_toUInt16, UInt32.toNat_ofNat']
    omega
  rw [e2]
  rfl
def isC (v : Int32) : Prop := ∃ n, n < 65536 ∧ v = Int32.ofNat n
theorem isC.chr {v : Int32} (h : isC v) : vp_nar .char (v.toUInt32 % 65536).toInt32 = v := by
  obtain ⟨n, h1, rfl⟩ := h
  exact chr_id h1
end PU0
