section PW1
theorem ok6 {dn : List Int32} {w : Nat} {cf tf : Bool} {g : Int32 × Int32 × Int32} {h : A_hs} (h1 : dn.length ≤ 16) (h2 : w < 256) : CnOk (6, 0, ([], dn), (w, cf, tf), g, h) := ⟨Nat.le_refl _, (by show 0 < most 6; decide), ⟨Nat.zero_le _, h1, h2⟩, fun z => absurd z (by show ¬ 6 = 0; decide), fun _ => ⟨rfl, rfl⟩, fun z => absurd z (by show ¬ 6 < 4; decide), fun z => absurd z (by show ¬ 6 < 5; decide), fun z => absurd z (by show ¬ 6 = 1; decide), fun z => absurd z (by show ¬ 6 = 2; decide), fun z => absurd z (by show ¬ (6 = 4 ∨ 6 = 5); decide)⟩
theorem okE {dn : List Int32} {w : Nat} {g : Int32 × Int32 × Int32} (h1 : dn.length ≤ 16) (h2 : w < 256) : CnOk (endH dn w g) := ok6 h1 h2
theorem okH {dn : List Int32} {s w : Nat} {h : A_hs} (hs : s = 1 ∨ s = 2 ∨ s = 3) (hw : w < 256) (hh : HsOk s w h) (hd : dn.length ≤ 4) (h1 : s = 1 → dn = []) (h2 : s = 2 → dn.length ≤ 2) : CnOk (goOn dn s w h) := by
  refine ⟨(by show s ≤ 6; omega), ?_, ⟨Nat.zero_le _, (by show dn.length ≤ 16; omega), hw⟩, fun z => absurd z (by show ¬ s = 0; omega), fun z => absurd z (by show ¬ s = 6; omega), fun _ => ⟨rfl, rfl, hh⟩, fun _ => ⟨hd, rfl⟩, h1, h2, fun z => absurd z (by show ¬ (s = 4 ∨ s = 5); omega)⟩
  show 0 < most s
  unfold most
  split
  · decide
  · split <;> decide
theorem ok4 {dn : List Int32} {w : Nat} {g : Int32 × Int32 × Int32} (hd : dn.length ≤ 4) (hw : w = 5 ∨ w = 67) : CnOk (4, 0, ([], dn), (w, false, false), g, h0) := ⟨(by show 4 ≤ 6; decide), (by show 0 < most 4; decide), ⟨Nat.zero_le _, (by show dn.length ≤ 16; omega), (by show w < 256; omega)⟩, fun z => absurd z (by show ¬ 4 = 0; decide), fun z => absurd z (by show ¬ 4 = 6; decide), fun z => absurd z (by show ¬ 4 < 4; decide), fun _ => ⟨hd, rfl⟩, fun z => absurd z (by show ¬ 4 = 1; decide), fun z => absurd z (by show ¬ 4 = 2; decide), fun _ => hw⟩
theorem ok_free : CnOk cFree := ⟨by decide, by decide, by decide, fun _ => rfl, fun z => absurd z (by decide), fun _ => ⟨rfl, rfl, by decide, rfl⟩, fun _ => ⟨by decide, rfl⟩, fun _ => rfl, fun _ => by decide, fun z => absurd z (by decide)⟩
theorem ok_fresh : CnOk oFresh := okH (Or.inl rfl) (by decide) ⟨by decide, rfl⟩ (by decide) (fun _ => rfl) (fun _ => by decide)
theorem ok_end {q : A_cn} (h : CnOk q) : CnOk (endA q) := ok6 h.2.2.1.2.1 h.2.2.1.2.2
theorem ok_done {q : A_cn} (h : CnOk q) : CnOk (doneA q) := by
  unfold doneA
  split
  · exact ok_end h
  · exact h
theorem ok_shr {s t : Nat} {up dn up2 dn2 : List Int32} {f : Nat × Bool × Bool} {g : Int32 × Int32 × Int32} {h : A_hs} (hk : CnOk (s, t, (up, dn), f, g, h)) (hs : ¬ s = 0) (h1 : up2.length ≤ up.length) (h2 : dn2.length ≤ dn.length) : CnOk (s, 0, (up2, dn2), f, g, h) := by
  obtain ⟨k1, k2, k3, k4, k5, k6, k7, k8, k9, k10⟩ := hk
  dsimp only at k1 k2 k3 k4 k5 k6 k7 k8 k9 k10
  have nil : ∀ {a b : List Int32}, a.length ≤ b.length → b = [] → a = [] := by
    intro a b q e
    rw [e] at q
    exact List.length_eq_zero_iff.mp (Nat.le_zero.mp q)
  refine ⟨k1, (by show 0 < most s; omega), ⟨(by show up2.length ≤ 16; omega), (by show dn2.length ≤ 16; omega), k3.2.2⟩, fun z => absurd z hs, fun z => ⟨rfl, nil h1 (k5 z).2⟩, fun z => ⟨nil h1 (k6 z).1, (k6 z).2⟩, fun z => ⟨(by show dn2.length ≤ 4; have := (k7 z).1; omega), (k7 z).2⟩, fun z => nil h2 (k8 z), fun z => (by show dn2.length ≤ 2; have := k9 z; omega), k10⟩
theorem ok_up {q : A_cn} (h : CnOk q) (hs : ¬ q.1 = 0) : CnOk (upA q).2 := by
  obtain ⟨s, t, ⟨up, dn⟩, f, g, h9⟩ := q
  cases up with
  | nil => exact h
  | cons v r => exact ok_done (ok_shr h hs (by simp) (Nat.le_refl _))
theorem ok_dn {q : A_cn} (h : CnOk q) (hs : ¬ q.1 = 0) : CnOk (dnA q).2 := by
  obtain ⟨s, t, ⟨up, dn⟩, f, g, h9⟩ := q
  cases dn with
  | nil => exact h
  | cons v r => exact ok_done (ok_shr h hs (Nat.le_refl _) (by simp))
/-- relaying -/
theorem ok5 {t : Nat} {up dn : List Int32} {w : Nat} {cf tf : Bool} {g : Int32 × Int32 × Int32} {h : A_hs} (ht : t < 30) (h1 : up.length ≤ 16) (h2 : dn.length ≤ 16) (hw : w = 5 ∨ w = 67) : CnOk (5, t, (up, dn), (w, cf, tf), g, h) := ⟨(by show 5 ≤ 6; decide), ht, ⟨h1, h2, (by show w < 256; omega)⟩, fun z => absurd z (by show ¬ 5 = 0; decide), fun z => absurd z (by show ¬ 5 = 6; decide), fun z => absurd z (by show ¬ 5 < 4; decide), fun z => absurd z (by show ¬ 5 < 5; decide), fun z => absurd z (by show ¬ 5 = 1; decide), fun z => absurd z (by show ¬ 5 = 2; decide), fun _ => hw⟩
theorem ok_fin {q : A_cn} {cl : Bool} (h : CnOk q) : CnOk (finA q cl) := by
  unfold finA
  split
  · rename_i e
    have hw := h.2.2.2.2.2.2.2.2.2 (Or.inr e)
    have ht := h.2.1
    rw [e] at ht
    exact ok_done (ok5 ht h.2.2.1.1 h.2.2.1.2.1 hw)
  · exact ok_end h
theorem ok_tick {q : A_cn} (h : CnOk q) : CnOk (tickA q).2 := by
  unfold tickA
  split
  · exact h
  · split
    · rename_i e0 el
      obtain ⟨s, t, ⟨up, dn⟩, f, g, h9⟩ := q
      obtain ⟨k1, k2, k3, k4, k5, k6, k7, k8, k9, k10⟩ := h
      exact ⟨k1, el, k3, fun z => absurd (Or.inl z) e0, fun z => absurd (Or.inr z) e0, k6, k7, k8, k9, k10⟩
    · exact ok_end h
theorem ok_conn {q : A_cn} {st : Bool} (h : CnOk q) (h4 : q.1 = 4) : CnOk (connA q st) := by
  have hd := (h.2.2.2.2.2.2.1 (by omega)).1
  have hu := h.2.2.1.1
  have hw9 := h.2.2.1.2.2
  have hw := h.2.2.2.2.2.2.2.2.2 (Or.inl h4)
  unfold connA
  split
  · split
    · exact ok5 (by decide) hu (by simp only [List.length_append, List.length_cons, List.length_nil]; omega) hw
    · exact ok6 (by simp only [List.length_append, List.length_cons, List.length_nil]; omega) hw9
  · split
    · exact ok5 (by decide) hu (by simp only [List.length_append, List.length_cons, List.length_nil]; omega) hw
    · exact ok6 (by simp only [List.length_append, List.length_cons, List.length_nil]; omega) hw9
theorem ok_rel {q : A_cn} {B : Int32} (h : CnOk q) (hs : q.1 = 4 ∨ q.1 = 5) : CnOk (relA q B).2 := by
  unfold relA
  split
  · rename_i hl
    obtain ⟨s, t, ⟨up, dn⟩, f, g, h9⟩ := q
    obtain ⟨k1, k2, k3, k4, k5, k6, k7, k8, k9, k10⟩ := h
    dsimp only at k1 k2 k3 k4 k5 k6 k7 k8 k9 k10 hs hl
    refine ⟨k1, (by show 0 < most s; omega), ⟨?_, k3.2⟩, fun z => absurd z (by show ¬ s = 0; omega), fun z => absurd z (by show ¬ s = 6; omega), fun z => absurd z (by show ¬ s < 4; omega), k7, fun z => absurd z (by show ¬ s = 1; omega), fun z => absurd z (by show ¬ s = 2; omega), k10⟩
    simp only [List.length_append, List.length_cons, List.length_nil]
    omega
  · exact h
theorem ok_giv {q : A_cn} {B : Int32} (h : CnOk q) (hs : q.1 = 5) : CnOk (givA q B).2 := by
  unfold givA
  split
  · rename_i hl
    obtain ⟨s, t, ⟨up, dn⟩, ⟨w, cf, tf⟩, g, h9⟩ := q
    have hs : s = 5 := hs
    subst hs
    exact ok5 (by decide) h.2.2.1.1 (by simp only [List.length_append, List.length_cons, List.length_nil]; dsimp only at hl; omega) (h.2.2.2.2.2.2.2.2.2 (Or.inr rfl))
  · exact h
theorem isB_app {l : List Int32} {b : Nat} (h : ∀ v ∈ l, isB v) (hb : b < 256) : ∀ v ∈ l ++ [Int32.ofNat b], isB v := by
  intro v hv
  rcases List.mem_append.mp hv with z | z
  · exact h v z
  · rw [List.mem_singleton.mp z]
    exact ⟨b, hb, rfl⟩
theorem noB : ∀ v ∈ ([] : List Int32), isB v := fun v hv => absurd hv (by simp)
theorem ok_jd {rs : List A_ru} {dn no : List Int32} {w : Nat} {ad p : Int32} {nm : List Int32} (hd : dn.length ≤ 4) (hn : no.length ≤ 12) (hw : w = 5 ∨ w = 67) : CnOk (jdA rs dn no w ad nm p) := by
  unfold jdA
  split
  · exact ok4 hd hw
  · exact okE (by simp only [List.length_append]; omega) (by omega)
theorem ok_hs {rs : List A_ru} {as : List A_ac} {q : A_cn} {b : Nat} (h : CnOk q) (h1 : 1 ≤ q.1) (h4 : q.1 < 4) (hb : b < 256) : CnOk (hsA rs as q.2.2.1.2 b q.2.2.2.2.2) := by
  obtain ⟨s, t, ⟨up, dn⟩, ⟨w, cf, tf⟩, g, h9⟩ := q
  obtain ⟨k1, k2, k3, k4, k5, k6, k7, k8, k9, k10⟩ := h
  dsimp only at k1 k2 k3 k4 k5 k6 k7 k8 k9 k10 h1 h4
  obtain ⟨-, -, u3⟩ := k6 h4
  have hd := (k7 (by omega)).1
  obtain ⟨tg, n1, n2, n3, n4, l1, l2⟩ := h9
  have e14 : (dn ++ [52, 48, 48, 10]).length ≤ 16 := by simp only [List.length_append, List.length_cons, List.length_nil]; omega
  match tg with
  | 0 =>
    obtain ⟨q1, q2⟩ := u3
    have es : s = 1 := by omega
    have ed := k8 es
    show CnOk (st0 dn b)
    unfold st0
    split
    · exact okH (Or.inl rfl) (by decide) ⟨⟨rfl, rfl⟩, by decide, by decide⟩ hd (fun _ => ed) (fun z => absurd z (by decide))
    · split
      · exact okH (Or.inl rfl) (by decide) ⟨rfl, rfl⟩ hd (fun _ => ed) (fun z => absurd z (by decide))
      · exact okE (by omega) hb
  | 1 =>
    obtain ⟨q1, q2⟩ := u3
    have ed := k8 q1
    show CnOk (st1 dn b)
    unfold st1
    split
    · rename_i z
      exact okH (Or.inl rfl) (by decide) ⟨⟨rfl, rfl⟩, z.1, z.2, by decide, by decide⟩ hd (fun _ => ed) (fun z => absurd z (by decide))
    · exact okE (by omega) (by decide)
  | 2 =>
    obtain ⟨⟨q1, q2⟩, m1, m2, m3, m4⟩ := u3
    have ed := k8 q1
    have e2 : ∀ x y : Int32, (dn ++ [x, y]).length ≤ 2 := fun x y => by rw [ed]; exact Nat.le_refl _
    show CnOk (st2 as dn n1 n2 n3 b)
    unfold st2
    split
    · split
      · split
        · exact okH (Or.inr (Or.inr rfl)) (by decide) ⟨⟨rfl, rfl⟩, by decide, by decide, by decide, noB, by decide, fun _ => rfl, fun z => absurd z (by decide), fun _ => rfl, fun z => absurd z (by decide), fun z => absurd z (by decide), fun z => absurd z (by decide), fun z => absurd z (by decide)⟩ (by have := e2 5 0; omega) (fun z => absurd z (by decide)) (fun z => absurd z (by decide))
        · exact okE (by have := e2 5 255; omega) (by decide)
      · split
        · exact okH (Or.inr (Or.inl rfl)) (by decide) ⟨⟨rfl, rfl⟩, by decide, noB, noB, by decide, by decide, fun _ => rfl, fun _ => rfl, fun z => absurd z (by decide), fun z => absurd z (by decide), fun z => absurd z (by decide)⟩ (by have := e2 5 2; omega) (fun z => absurd z (by decide)) (fun _ => e2 5 2)
        · exact okE (by have := e2 5 255; omega) (by decide)
    · exact okH (Or.inl rfl) (by decide) ⟨⟨rfl, rfl⟩, by omega, by omega, st2o_le m3, st2l_le m4⟩ hd (fun _ => ed) (fun z => absurd z (by decide))
  | 3 =>
    obtain ⟨⟨q1, q2⟩, m1, m2, m3, m4, m5, m6, m7, m8, m9, m10⟩ := u3
    have ed := k9 q1
    have e2 : ∀ x y : Int32, (dn ++ [x, y]).length ≤ 4 := fun x y => by simp only [List.length_append, List.length_cons, List.length_nil]; omega
    show CnOk (st3 as dn n1 n2 n3 l1 l2 b)
    unfold st3
    split
    · split
      · exact okH (Or.inr (Or.inl rfl)) (by decide) ⟨⟨rfl, rfl⟩, by decide, noB, noB, by decide, by decide, fun _ => rfl, fun _ => rfl, fun z => absurd z (by decide), fun z => absurd z (by decide), fun z => absurd z (by decide)⟩ hd (fun z => absurd z (by decide)) (fun _ => ed)
      · exact okE (by omega) (by decide)
    · split
      · split
        · rename_i z
          exact okH (Or.inr (Or.inl rfl)) (by decide) ⟨⟨rfl, rfl⟩, by decide, noB, noB, by decide, by decide, fun _ => rfl, fun _ => rfl, fun _ => ⟨z.1, by simp, z.2⟩, fun z => absurd z (by decide), fun z => absurd z (by decide)⟩ hd (fun z => absurd z (by decide)) (fun _ => ed)
        · exact okE (by omega) (by decide)
      · split
        · rename_i e2'
          obtain ⟨o1, o2, o3⟩ := m8 e2'
          have el : (l1 ++ [Int32.ofNat b]).length = l1.length + 1 := by simp
          split
          · exact okH (Or.inr (Or.inl rfl)) (by decide) ⟨⟨rfl, rfl⟩, by decide, isB_app m2 hb, noB, by omega, by decide, fun z => absurd z (by decide), fun _ => rfl, fun z => absurd z (by decide), fun _ => by omega, fun z => absurd z (by decide)⟩ hd (fun z => absurd z (by decide)) (fun _ => ed)
          · exact okH (Or.inr (Or.inl rfl)) (by decide) ⟨⟨rfl, rfl⟩, by decide, isB_app m2 hb, noB, by omega, by decide, fun z => absurd z (by decide), fun _ => rfl, fun _ => ⟨by omega, by omega, o3⟩, fun z => absurd z (by decide), fun z => absurd z (by decide)⟩ hd (fun z => absurd z (by decide)) (fun _ => ed)
        · split
          · rename_i e3
            split
            · rename_i z
              exact okH (Or.inr (Or.inl rfl)) (by decide) ⟨⟨rfl, rfl⟩, by decide, m2, noB, m4, by decide, fun z => absurd z (by decide), fun z => absurd z (by decide), fun z => absurd z (by decide), fun _ => m9 (by omega), fun _ => ⟨z.1, by simp; omega⟩⟩ hd (fun z => absurd z (by decide)) (fun _ => ed)
            · exact okE (by omega) (by decide)
          · rename_i c0 c1 c2 c3
            have en : n1 = 4 := by omega
            obtain ⟨o1, o2⟩ := m10 en
            have el : (l2 ++ [Int32.ofNat b]).length = l2.length + 1 := by simp
            split
            · split
              · exact okH (Or.inr (Or.inr rfl)) (by decide) ⟨⟨rfl, rfl⟩, by decide, by decide, by decide, noB, by decide, fun _ => rfl, fun z => absurd z (by decide), fun _ => rfl, fun z => absurd z (by decide), fun z => absurd z (by decide), fun z => absurd z (by decide), fun z => absurd z (by decide)⟩ (e2 1 0) (fun z => absurd z (by decide)) (fun z => absurd z (by decide))
              · exact okE (by have := e2 1 1; omega) (by decide)
            · exact okH (Or.inr (Or.inl rfl)) (by decide) ⟨⟨rfl, rfl⟩, by decide, m2, isB_app m3 hb, m4, by omega, fun z => absurd z (by decide), fun z => absurd z (by decide), fun z => absurd z (by decide), fun _ => m9 (by omega), fun _ => ⟨by omega, by omega⟩⟩ hd (fun z => absurd z (by decide)) (fun _ => ed)
  | 4 =>
    obtain ⟨⟨q1, q2⟩, m1, m2, m3, m4, m5, m6, m7, m8, m9, m10, m11, m12⟩ := u3
    have n3z : ¬ (3 : Nat) = 1 := by decide
    have e10 : ∀ r, (dn ++ rep r).length ≤ 16 := fun r => by simp only [rep, List.length_append, List.length_cons, List.length_nil]; omega
    have big : ∀ {p1 p2 p3 p4 : Nat} {l : List Int32}, HsOk 3 5 (4, p1, p2, p3, p4, l, []) → CnOk (goOn dn 3 5 (4, p1, p2, p3, p4, l, [])) := fun z => okH (Or.inr (Or.inr rfl)) (by decide) z hd (fun z => absurd z (by decide)) (fun z => absurd z (by decide))
    have no : CnOk (endH dn 5 (0, 0, 0)) := okE (by omega) (by decide)
    show CnOk (st4 rs dn n1 n2 n3 n4 l1 b)
    unfold st4
    split
    · split
      · exact big ⟨⟨rfl, rfl⟩, by decide, by decide, by decide, noB, by decide, fun _ => rfl, fun z => absurd z (by decide), fun _ => rfl, fun z => absurd z (by decide), fun z => absurd z (by decide), fun z => absurd z (by decide), fun z => absurd z (by decide)⟩
      · exact no
    · split
      · exact big ⟨⟨rfl, rfl⟩, by decide, by decide, hb, noB, by decide, fun _ => rfl, fun z => absurd z (by decide), fun _ => rfl, fun z => absurd z (by decide), fun z => absurd z (by decide), fun z => absurd z (by decide), fun z => absurd z (by decide)⟩
      · split
        · split
          · exact big ⟨⟨rfl, rfl⟩, by decide, by decide, m3, noB, by decide, fun _ => rfl, fun z => absurd z (by decide), fun _ => rfl, fun z => absurd z (by decide), fun z => absurd z (by decide), fun z => absurd z (by decide), fun z => absurd z (by decide)⟩
          · exact no
        · split
          · split
            · exact big ⟨⟨rfl, rfl⟩, by decide, by decide, m3, noB, by decide, fun _ => rfl, fun z => absurd z (by decide), fun z => absurd z (by decide), fun _ => ⟨by decide, by simp, fun _ => by simp⟩, fun z => absurd z (by decide), fun z => absurd z (by decide), fun z => absurd z (by decide)⟩
            · split
              · exact big ⟨⟨rfl, rfl⟩, by decide, by decide, m3, noB, by decide, fun z => absurd z (by decide), fun _ => rfl, fun _ => rfl, fun z => absurd z (by decide), fun z => absurd z (by decide), fun z => absurd z (by decide), fun z => absurd z (by decide)⟩
              · exact okE (e10 8) (by decide)
          · split
            · split
              · rename_i z
                exact big ⟨⟨rfl, rfl⟩, by decide, by decide, m3, noB, by decide, fun z => absurd z (by decide), fun z => absurd z (by decide), fun z => absurd z (by decide), fun _ => ⟨z.1, by simp; omega, fun z => absurd z (by decide)⟩, fun z => absurd z (by decide), fun z => absurd z (by decide), fun z => absurd z (by decide)⟩
              · exact no
            · split
              · rename_i c0 c1 c2 c3 c4 c5
                obtain ⟨o1, o2, o3⟩ := m9 c5
                have el : (l1 ++ [Int32.ofNat b]).length = l1.length + 1 := by simp
                split
                · rename_i c6
                  exact big ⟨⟨rfl, rfl⟩, by decide, m2, m3, isB_app m4 hb, by omega, fun z => absurd z (by decide), fun z => absurd z (by decide), fun z => absurd z (by decide), fun z => absurd z (by decide), fun _ z => by have := o3 z; omega, fun _ _ => by simp, fun z => absurd z (by decide)⟩
                · exact big ⟨⟨rfl, rfl⟩, by decide, m2, m3, isB_app m4 hb, by omega, fun z => absurd z (by decide), fun z => absurd z (by decide), fun z => absurd z (by decide), fun _ => ⟨by omega, by omega, fun z => by have := o3 z; omega⟩, fun z => absurd z (by decide), fun z => absurd z (by decide), fun z => absurd z (by decide)⟩
              · split
                · rename_i c6
                  exact big ⟨⟨rfl, rfl⟩, by decide, m2, m3, m4, m5, fun z => absurd z (by decide), fun z => absurd z (by decide), fun z => absurd z (by decide), fun z => absurd z (by decide), fun _ z => m10 (by omega) z, fun _ z => m11 (by omega) z, fun _ => hb⟩
                · split
                  · exact okE (e10 1) (by decide)
                  · split
                    · exact ok_jd hd (by decide) (Or.inl rfl)
                    · exact okE (e10 7) (by decide)
  | 5 =>
    obtain ⟨⟨q1, q2⟩, m1, m2⟩ := u3
    have ed := k8 q1
    show CnOk (st5 dn n1 b)
    unfold st5
    split
    · split
      · exact okH (Or.inl rfl) (by decide) ⟨⟨rfl, rfl⟩, noB, by decide⟩ hd (fun _ => ed) (fun z => absurd z (by decide))
      · exact okH (Or.inl rfl) (by decide) ⟨⟨rfl, rfl⟩, by omega, by omega⟩ hd (fun _ => ed) (fun z => absurd z (by decide))
    · exact okE e14 (by decide)
  | 6 =>
    obtain ⟨⟨q1, q2⟩, m1, m2⟩ := u3
    have ed := k8 q1
    show CnOk (st6 dn l1 b)
    unfold st6
    split
    · exact okH (Or.inl rfl) (by decide) ⟨⟨rfl, rfl⟩, m1, m2, by decide, by decide⟩ hd (fun _ => ed) (fun z => absurd z (by decide))
    · split
      · rename_i z
        exact okH (Or.inl rfl) (by decide) ⟨⟨rfl, rfl⟩, isB_app m1 hb, by simp; omega⟩ hd (fun _ => ed) (fun z => absurd z (by decide))
      · exact okE e14 (by decide)
  | 7 =>
    obtain ⟨⟨q1, q2⟩, m1, m2, m3, m4⟩ := u3
    have ed := k8 q1
    show CnOk (st7 dn n1 n2 l1 b)
    unfold st7
    split
    · rename_i z
      exact okH (Or.inl rfl) (by decide) ⟨⟨rfl, rfl⟩, m1, m2, m3, z.2.2⟩ hd (fun _ => ed) (fun z => absurd z (by decide))
    · split
      · rename_i z
        have h48 := (isDg_nat (show b < 65536 by omega)).mp z.1
        exact okH (Or.inl rfl) (by decide) ⟨⟨rfl, rfl⟩, m1, m2, by omega, by rw [Nat.pow_succ]; omega⟩ hd (fun _ => ed) (fun z => absurd z (by decide))
      · exact okE e14 (by decide)
  | 8 =>
    obtain ⟨⟨q1, q2⟩, m1, m2, m3, m4⟩ := u3
    show CnOk (st8 rs as dn n2 l1 b)
    unfold st8
    split
    · split
      · exact ok_jd hd (by decide) (Or.inr rfl)
      · exact okE (by simp only [List.length_append, List.length_cons, List.length_nil]; omega) (by decide)
    · exact okE e14 (by decide)
  | n + 9 => exact False.elim u3
theorem ok_snd {rs : List A_ru} {as : List A_ac} {q : A_cn} {b : Nat} (h : CnOk q) (h1 : ¬ q.1 = 0) (h6 : ¬ q.1 = 6) (hb : b < 256) : CnOk (sndA rs as q b).2 := by
  unfold sndA
  have := h.1
  split
  · rename_i h4
    exact ok_hs h (by omega) h4 hb
  · rename_i h4
    exact ok_rel h (by omega)
theorem ok_upQ {Q : Nat → A_cn} {n : Nat} {q : A_cn} (hK : ∀ n, n < 4 → CnOk (Q n)) (h : CnOk q) : ∀ j, j < 4 → CnOk (upQ Q n q j) := by
  intro j hj
  by_cases e : j = n
  · rw [e, upQ_at]; exact h
  · rw [upQ_ne e]; exact hK j hj
theorem ok_tkQ {Q : Nat → A_cn} (hK : ∀ n, n < 4 → CnOk (Q n)) {i : Nat} : ∀ j, j < 4 → CnOk (tkQ Q i j) := by
  intro j hj
  unfold tkQ
  split
  · exact ok_tick (hK j hj)
  · exact hK j hj
theorem ok_opQ {Q : Nat → A_cn} (hK : ∀ n, n < 4 → CnOk (Q n)) {o : Option Nat} : ∀ j, j < 4 → CnOk (opQ Q o j) := by
  cases o with
  | none => exact hK
  | some n => exact ok_upQ hK ok_fresh
end PW1
