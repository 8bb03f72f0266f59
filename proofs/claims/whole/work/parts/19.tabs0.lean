/-! tables of ops: their soundness leaf by leaf; the handlers (printed) -/
def mt_V (mi : mm_I) (T : Nat → Option mm_O) : Prop := ∀ pc o, T pc = some o → mm_Snd mi pc o
theorem mt_Vl {mi : mm_I} {p : Nat} {o : mm_O} (h : mm_Snd mi p o) : mt_V mi (mt_l p o) := by
  intro pc o9 h9
  simp only [mt_l] at h9
  cases hb : Nat.beq pc p with
  | true =>
    rw [hb] at h9
    have e : pc = p := Nat.eq_of_beq_eq_true hb
    have h8 : some o = some o9 := h9
    cases h8
    rw [e]
    exact h
  | false => rw [hb] at h9; cases h9
theorem mt_Vn {mi : mm_I} {p : Nat} {l r : Nat → Option mm_O} (h1 : mt_V mi l) (h2 : mt_V mi r) : mt_V mi (mt_n p l r) := by
  intro pc o9 h9
  simp only [mt_n] at h9
  cases hb : Nat.ble pc p with
  | true => rw [hb] at h9; exact h1 pc o9 h9
  | false => rw [hb] at h9; exact h2 pc o9 h9
theorem hs_L_rule : mm_Hs mi_L_rule 13 [(2, 21, 2), (3, 25, 2)] := by
  refine Or.inr ⟨by decide, fun x h hf => ?_⟩
  simp only [List.find?] at hf
  by_cases hx0 : Nat.beq 2 x = true
  · rw [hx0] at hf
    have hf9 := Option.some.inj hf
    have ex : x = 2 := (Nat.eq_of_beq_eq_true hx0).symm
    subst ex
    subst hf9
    exact ⟨⟨8, by decide, Or.inl ⟨(by decide +kernel), rfl⟩⟩, [], ⟨0, 18, 21, 13⟩, [⟨0, 18, 25, 15⟩], rfl, rfl, rfl, by decide, gw_434, tw_442, fun z hz => nomatch hz⟩
  · rw [Bool.eq_false_iff.mpr hx0] at hf
    by_cases hx1 : Nat.beq 3 x = true
    · rw [hx1] at hf
      have hf9 := Option.some.inj hf
      have ex : x = 3 := (Nat.eq_of_beq_eq_true hx1).symm
      subst ex
      subst hf9
      exact ⟨⟨8, by decide, Or.inl ⟨(by decide +kernel), rfl⟩⟩, [⟨0, 18, 21, 13⟩], ⟨0, 18, 25, 15⟩, [], rfl, rfl, rfl, by decide, gw_435, tw_520, List.forall_mem_cons.mpr ⟨Or.inr ⟨by decide, 3, 2, by decide, by decide, by decide, by decide, by decide, rfl, gw_434⟩, fun z hz => nomatch hz⟩⟩
    · rw [Bool.eq_false_iff.mpr hx1] at hf
      cases hf
theorem hs_L_named : mm_Hs mi_L_named 7 [(2, 15, 2), (3, 19, 2)] := by
  refine Or.inr ⟨by decide, fun x h hf => ?_⟩
  simp only [List.find?] at hf
  by_cases hx0 : Nat.beq 2 x = true
  · rw [hx0] at hf
    have hf9 := Option.some.inj hf
    have ex : x = 2 := (Nat.eq_of_beq_eq_true hx0).symm
    subst ex
    subst hf9
    exact ⟨⟨5, by decide, Or.inl ⟨(by decide +kernel), rfl⟩⟩, [], ⟨0, 12, 15, 13⟩, [⟨0, 12, 19, 15⟩], rfl, rfl, rfl, by decide, gw_434, tw_442, fun z hz => nomatch hz⟩
  · rw [Bool.eq_false_iff.mpr hx0] at hf
    by_cases hx1 : Nat.beq 3 x = true
    · rw [hx1] at hf
      have hf9 := Option.some.inj hf
      have ex : x = 3 := (Nat.eq_of_beq_eq_true hx1).symm
      subst ex
      subst hf9
      exact ⟨⟨5, by decide, Or.inl ⟨(by decide +kernel), rfl⟩⟩, [⟨0, 12, 15, 13⟩], ⟨0, 12, 19, 15⟩, [], rfl, rfl, rfl, by decide, gw_435, tw_520, List.forall_mem_cons.mpr ⟨Or.inr ⟨by decide, 3, 2, by decide, by decide, by decide, by decide, by decide, rfl, gw_434⟩, fun z hz => nomatch hz⟩⟩
    · rw [Bool.eq_false_iff.mpr hx1] at hf
      cases hf
theorem hs_L_account : mm_Hs mi_L_account 3 [(2, 11, 1), (3, 14, 1)] := by
  refine Or.inr ⟨by decide, fun x h hf => ?_⟩
  simp only [List.find?] at hf
  by_cases hx0 : Nat.beq 2 x = true
  · rw [hx0] at hf
    have hf9 := Option.some.inj hf
    have ex : x = 2 := (Nat.eq_of_beq_eq_true hx0).symm
    subst ex
    subst hf9
    exact ⟨⟨2, by decide, Or.inr ⟨2, (by decide +kernel), rfl, rfl⟩⟩, [], ⟨0, 8, 11, 13⟩, [⟨0, 8, 14, 15⟩], rfl, rfl, rfl, by decide, gw_434, tw_442, fun z hz => nomatch hz⟩
  · rw [Bool.eq_false_iff.mpr hx0] at hf
    by_cases hx1 : Nat.beq 3 x = true
    · rw [hx1] at hf
      have hf9 := Option.some.inj hf
      have ex : x = 3 := (Nat.eq_of_beq_eq_true hx1).symm
      subst ex
      subst hf9
      exact ⟨⟨2, by decide, Or.inr ⟨2, (by decide +kernel), rfl, rfl⟩⟩, [⟨0, 8, 11, 13⟩], ⟨0, 8, 14, 15⟩, [], rfl, rfl, rfl, by decide, gw_435, tw_520, List.forall_mem_cons.mpr ⟨Or.inr ⟨by decide, 3, 2, by decide, by decide, by decide, by decide, by decide, rfl, gw_434⟩, fun z hz => nomatch hz⟩⟩
    · rw [Bool.eq_false_iff.mpr hx1] at hf
      cases hf
theorem hs_L_free : mm_Hs mi_L_free 4 [(1, 12, 1)] := by
  refine Or.inr ⟨by decide, fun x h hf => ?_⟩
  simp only [List.find?] at hf
  by_cases hx0 : Nat.beq 1 x = true
  · rw [hx0] at hf
    have hf9 := Option.some.inj hf
    have ex : x = 1 := (Nat.eq_of_beq_eq_true hx0).symm
    subst ex
    subst hf9
    exact ⟨⟨3, by decide, Or.inr ⟨3, (by decide +kernel), rfl, rfl⟩⟩, [], ⟨0, 9, 12, 29⟩, [], rfl, rfl, rfl, by decide, gw_583, tw_594, fun z hz => nomatch hz⟩
  · rw [Bool.eq_false_iff.mpr hx0] at hf
    cases hf
theorem hs_L_send : mm_Hs mi_L_send 5 [(1, 20, 2), (2, 24, 2), (3, 28, 2)] := by
  refine Or.inr ⟨by decide, fun x h hf => ?_⟩
  simp only [List.find?] at hf
  by_cases hx0 : Nat.beq 1 x = true
  · rw [hx0] at hf
    have hf9 := Option.some.inj hf
    have ex : x = 1 := (Nat.eq_of_beq_eq_true hx0).symm
    subst ex
    subst hf9
    exact ⟨⟨4, by decide, Or.inl ⟨(by decide +kernel), rfl⟩⟩, [], ⟨0, 17, 20, 29⟩, [⟨0, 17, 24, 13⟩, ⟨0, 17, 28, 15⟩], rfl, rfl, rfl, by decide, gw_583, tw_594, fun z hz => nomatch hz⟩
  · rw [Bool.eq_false_iff.mpr hx0] at hf
    by_cases hx1 : Nat.beq 2 x = true
    · rw [hx1] at hf
      have hf9 := Option.some.inj hf
      have ex : x = 2 := (Nat.eq_of_beq_eq_true hx1).symm
      subst ex
      subst hf9
      exact ⟨⟨4, by decide, Or.inl ⟨(by decide +kernel), rfl⟩⟩, [⟨0, 17, 20, 29⟩], ⟨0, 17, 24, 13⟩, [⟨0, 17, 28, 15⟩], rfl, rfl, rfl, by decide, gw_434, tw_442, List.forall_mem_cons.mpr ⟨Or.inr ⟨by decide, 2, 1, by decide, by decide, by decide, by decide, by decide, rfl, gw_583⟩, fun z hz => nomatch hz⟩⟩
    · rw [Bool.eq_false_iff.mpr hx1] at hf
      by_cases hx2 : Nat.beq 3 x = true
      · rw [hx2] at hf
        have hf9 := Option.some.inj hf
        have ex : x = 3 := (Nat.eq_of_beq_eq_true hx2).symm
        subst ex
        subst hf9
        exact ⟨⟨4, by decide, Or.inl ⟨(by decide +kernel), rfl⟩⟩, [⟨0, 17, 20, 29⟩, ⟨0, 17, 24, 13⟩], ⟨0, 17, 28, 15⟩, [], rfl, rfl, rfl, by decide, gw_435, tw_520, List.forall_mem_cons.mpr ⟨Or.inr ⟨by decide, 3, 1, by decide, by decide, by decide, by decide, by decide, rfl, gw_583⟩, List.forall_mem_cons.mpr ⟨Or.inr ⟨by decide, 3, 2, by decide, by decide, by decide, by decide, by decide, rfl, gw_434⟩, fun z hz => nomatch hz⟩⟩⟩
      · rw [Bool.eq_false_iff.mpr hx2] at hf
        cases hf
theorem hs_L_give : mm_Hs mi_L_give 5 [(1, 20, 2), (2, 24, 2), (3, 28, 2)] := by
  refine Or.inr ⟨by decide, fun x h hf => ?_⟩
  simp only [List.find?] at hf
  by_cases hx0 : Nat.beq 1 x = true
  · rw [hx0] at hf
    have hf9 := Option.some.inj hf
    have ex : x = 1 := (Nat.eq_of_beq_eq_true hx0).symm
    subst ex
    subst hf9
    exact ⟨⟨4, by decide, Or.inl ⟨(by decide +kernel), rfl⟩⟩, [], ⟨0, 17, 20, 29⟩, [⟨0, 17, 24, 13⟩, ⟨0, 17, 28, 15⟩], rfl, rfl, rfl, by decide, gw_583, tw_594, fun z hz => nomatch hz⟩
  · rw [Bool.eq_false_iff.mpr hx0] at hf
    by_cases hx1 : Nat.beq 2 x = true
    · rw [hx1] at hf
      have hf9 := Option.some.inj hf
      have ex : x = 2 := (Nat.eq_of_beq_eq_true hx1).symm
      subst ex
      subst hf9
      exact ⟨⟨4, by decide, Or.inl ⟨(by decide +kernel), rfl⟩⟩, [⟨0, 17, 20, 29⟩], ⟨0, 17, 24, 13⟩, [⟨0, 17, 28, 15⟩], rfl, rfl, rfl, by decide, gw_434, tw_442, List.forall_mem_cons.mpr ⟨Or.inr ⟨by decide, 2, 1, by decide, by decide, by decide, by decide, by decide, rfl, gw_583⟩, fun z hz => nomatch hz⟩⟩
    · rw [Bool.eq_false_iff.mpr hx1] at hf
      by_cases hx2 : Nat.beq 3 x = true
      · rw [hx2] at hf
        have hf9 := Option.some.inj hf
        have ex : x = 3 := (Nat.eq_of_beq_eq_true hx2).symm
        subst ex
        subst hf9
        exact ⟨⟨4, by decide, Or.inl ⟨(by decide +kernel), rfl⟩⟩, [⟨0, 17, 20, 29⟩, ⟨0, 17, 24, 13⟩], ⟨0, 17, 28, 15⟩, [], rfl, rfl, rfl, by decide, gw_435, tw_520, List.forall_mem_cons.mpr ⟨Or.inr ⟨by decide, 3, 1, by decide, by decide, by decide, by decide, by decide, rfl, gw_583⟩, List.forall_mem_cons.mpr ⟨Or.inr ⟨by decide, 3, 2, by decide, by decide, by decide, by decide, by decide, rfl, gw_434⟩, fun z hz => nomatch hz⟩⟩⟩
      · rw [Bool.eq_false_iff.mpr hx2] at hf
        cases hf
theorem hs_L_connected : mm_Hs mi_L_connected 3 [(1, 9, 1), (3, 12, 1)] := by
  refine Or.inr ⟨by decide, fun x h hf => ?_⟩
  simp only [List.find?] at hf
  by_cases hx0 : Nat.beq 1 x = true
  · rw [hx0] at hf
    have hf9 := Option.some.inj hf
    have ex : x = 1 := (Nat.eq_of_beq_eq_true hx0).symm
    subst ex
    subst hf9
    exact ⟨⟨3, by decide, Or.inr ⟨3, (by decide +kernel), rfl, rfl⟩⟩, [], ⟨0, 6, 9, 29⟩, [⟨0, 6, 12, 15⟩], rfl, rfl, rfl, by decide, gw_583, tw_594, fun z hz => nomatch hz⟩
  · rw [Bool.eq_false_iff.mpr hx0] at hf
    by_cases hx1 : Nat.beq 3 x = true
    · rw [hx1] at hf
      have hf9 := Option.some.inj hf
      have ex : x = 3 := (Nat.eq_of_beq_eq_true hx1).symm
      subst ex
      subst hf9
      exact ⟨⟨3, by decide, Or.inr ⟨3, (by decide +kernel), rfl, rfl⟩⟩, [⟨0, 6, 9, 29⟩], ⟨0, 6, 12, 15⟩, [], rfl, rfl, rfl, by decide, gw_435, tw_520, List.forall_mem_cons.mpr ⟨Or.inr ⟨by decide, 3, 1, by decide, by decide, by decide, by decide, by decide, rfl, gw_583⟩, fun z hz => nomatch hz⟩⟩
    · rw [Bool.eq_false_iff.mpr hx1] at hf
      cases hf
theorem hs_L_up : mm_Hs mi_L_up 4 [(1, 12, 1)] := by
  refine Or.inr ⟨by decide, fun x h hf => ?_⟩
  simp only [List.find?] at hf
  by_cases hx0 : Nat.beq 1 x = true
  · rw [hx0] at hf
    have hf9 := Option.some.inj hf
    have ex : x = 1 := (Nat.eq_of_beq_eq_true hx0).symm
    subst ex
    subst hf9
    exact ⟨⟨3, by decide, Or.inr ⟨3, (by decide +kernel), rfl, rfl⟩⟩, [], ⟨0, 9, 12, 29⟩, [], rfl, rfl, rfl, by decide, gw_583, tw_594, fun z hz => nomatch hz⟩
  · rw [Bool.eq_false_iff.mpr hx0] at hf
    cases hf
theorem hs_L_down : mm_Hs mi_L_down 4 [(1, 12, 1)] := by
  refine Or.inr ⟨by decide, fun x h hf => ?_⟩
  simp only [List.find?] at hf
  by_cases hx0 : Nat.beq 1 x = true
  · rw [hx0] at hf
    have hf9 := Option.some.inj hf
    have ex : x = 1 := (Nat.eq_of_beq_eq_true hx0).symm
    subst ex
    subst hf9
    exact ⟨⟨3, by decide, Or.inr ⟨3, (by decide +kernel), rfl, rfl⟩⟩, [], ⟨0, 9, 12, 29⟩, [], rfl, rfl, rfl, by decide, gw_583, tw_594, fun z hz => nomatch hz⟩
  · rw [Bool.eq_false_iff.mpr hx0] at hf
    cases hf
theorem hs_L_finish : mm_Hs mi_L_finish 3 [(1, 9, 1), (3, 12, 1)] := by
  refine Or.inr ⟨by decide, fun x h hf => ?_⟩
  simp only [List.find?] at hf
  by_cases hx0 : Nat.beq 1 x = true
  · rw [hx0] at hf
    have hf9 := Option.some.inj hf
    have ex : x = 1 := (Nat.eq_of_beq_eq_true hx0).symm
    subst ex
    subst hf9
    exact ⟨⟨3, by decide, Or.inr ⟨3, (by decide +kernel), rfl, rfl⟩⟩, [], ⟨0, 6, 9, 29⟩, [⟨0, 6, 12, 15⟩], rfl, rfl, rfl, by decide, gw_583, tw_594, fun z hz => nomatch hz⟩
  · rw [Bool.eq_false_iff.mpr hx0] at hf
    by_cases hx1 : Nat.beq 3 x = true
    · rw [hx1] at hf
      have hf9 := Option.some.inj hf
      have ex : x = 3 := (Nat.eq_of_beq_eq_true hx1).symm
      subst ex
      subst hf9
      exact ⟨⟨3, by decide, Or.inr ⟨3, (by decide +kernel), rfl, rfl⟩⟩, [⟨0, 6, 9, 29⟩], ⟨0, 6, 12, 15⟩, [], rfl, rfl, rfl, by decide, gw_435, tw_520, List.forall_mem_cons.mpr ⟨Or.inr ⟨by decide, 3, 1, by decide, by decide, by decide, by decide, by decide, rfl, gw_583⟩, fun z hz => nomatch hz⟩⟩
    · rw [Bool.eq_false_iff.mpr hx1] at hf
      cases hf
theorem hs_L_about : mm_Hs mi_L_about 5 [(1, 13, 2), (2, 17, 2)] := by
  refine Or.inr ⟨by decide, fun x h hf => ?_⟩
  simp only [List.find?] at hf
  by_cases hx0 : Nat.beq 1 x = true
  · rw [hx0] at hf
    have hf9 := Option.some.inj hf
    have ex : x = 1 := (Nat.eq_of_beq_eq_true hx0).symm
    subst ex
    subst hf9
    exact ⟨⟨4, by decide, Or.inl ⟨(by decide +kernel), rfl⟩⟩, [], ⟨0, 10, 13, 29⟩, [⟨0, 10, 17, 13⟩], rfl, rfl, rfl, by decide, gw_583, tw_594, fun z hz => nomatch hz⟩
  · rw [Bool.eq_false_iff.mpr hx0] at hf
    by_cases hx1 : Nat.beq 2 x = true
    · rw [hx1] at hf
      have hf9 := Option.some.inj hf
      have ex : x = 2 := (Nat.eq_of_beq_eq_true hx1).symm
      subst ex
      subst hf9
      exact ⟨⟨4, by decide, Or.inl ⟨(by decide +kernel), rfl⟩⟩, [⟨0, 10, 13, 29⟩], ⟨0, 10, 17, 13⟩, [], rfl, rfl, rfl, by decide, gw_434, tw_442, List.forall_mem_cons.mpr ⟨Or.inr ⟨by decide, 2, 1, by decide, by decide, by decide, by decide, by decide, rfl, gw_583⟩, fun z hz => nomatch hz⟩⟩
    · rw [Bool.eq_false_iff.mpr hx1] at hf
      cases hf
theorem hs_L_lets : mm_Hs mi_L_lets 5 [(2, 20, 2)] := by
  refine Or.inr ⟨by decide, fun x h hf => ?_⟩
  simp only [List.find?] at hf
  by_cases hx0 : Nat.beq 2 x = true
  · rw [hx0] at hf
    have hf9 := Option.some.inj hf
    have ex : x = 2 := (Nat.eq_of_beq_eq_true hx0).symm
    subst ex
    subst hf9
    exact ⟨⟨4, by decide, Or.inl ⟨(by decide +kernel), rfl⟩⟩, [], ⟨0, 17, 20, 13⟩, [], rfl, rfl, rfl, by decide, gw_434, tw_442, fun z hz => nomatch hz⟩
  · rw [Bool.eq_false_iff.mpr hx0] at hf
    cases hf
theorem hs_L_count : mm_Hs mi_L_count 4 [(2, 12, 1)] := by
  refine Or.inr ⟨by decide, fun x h hf => ?_⟩
  simp only [List.find?] at hf
  by_cases hx0 : Nat.beq 2 x = true
  · rw [hx0] at hf
    have hf9 := Option.some.inj hf
    have ex : x = 2 := (Nat.eq_of_beq_eq_true hx0).symm
    subst ex
    subst hf9
    exact ⟨⟨3, by decide, Or.inr ⟨3, (by decide +kernel), rfl, rfl⟩⟩, [], ⟨0, 9, 12, 13⟩, [], rfl, rfl, rfl, by decide, gw_434, tw_442, fun z hz => nomatch hz⟩
  · rw [Bool.eq_false_iff.mpr hx0] at hf
    cases hf
