section MMK
abbrev mo_iadd : mm_O := mo_bi (fun x y => x + y)
abbrev mo_isub : mm_O := mo_bi (fun x y => x - y)
abbrev mo_imul : mm_O := mo_bi (fun x y => x * y)
abbrev mo_iand : mm_O := mo_bi (fun x y => x &&& y)
abbrev mo_ior : mm_O := mo_bi (fun x y => x ||| y)
abbrev mo_ixor : mm_O := mo_bi (fun x y => x ^^^ y)
abbrev mo_ishl : mm_O := mo_bi (fun x y => x <<< (y &&& 31))
abbrev mo_ishr : mm_O := mo_bi (fun x y => x >>> (y &&& 31))
abbrev mo_iushr : mm_O := mo_bi (fun x y => (x.toUInt32 >>> (y.toUInt32 &&& Int32.toUInt32 31)).toInt32)
abbrev mo_idiv : mm_O := mo_dv (fun x y => x / y)
abbrev mo_irem : mm_O := mo_dv (fun x y => x - x / y * y)
abbrev mo_ladd : mm_O := mo_bl (fun x y => x + y)
abbrev mo_lmul : mm_O := mo_bl (fun x y => x * y)
abbrev mo_lor : mm_O := mo_bl (fun x y => x ||| y)
abbrev mo_i2c : mm_O := mo_ui (fun x => (x.toUInt32 % 65536).toInt32)
abbrev mo_icmp_eq (t : Nat) : mm_O := mo_cmp (fun x y => decide (x = y)) t
abbrev mo_icmp_ne (t : Nat) : mm_O := mo_cmp (fun x y => decide (¬ x = y)) t
abbrev mo_icmp_lt (t : Nat) : mm_O := mo_cmp (fun x y => decide (x < y)) t
abbrev mo_icmp_ge (t : Nat) : mm_O := mo_cmp (fun x y => decide (y ≤ x)) t
abbrev mo_icmp_gt (t : Nat) : mm_O := mo_cmp (fun x y => decide (y < x)) t
abbrev mo_icmp_le (t : Nat) : mm_O := mo_cmp (fun x y => decide (x ≤ y)) t
abbrev mo_if_eq (t : Nat) : mm_O := mo_if (fun x => decide (x = 0)) t
abbrev mo_if_ne (t : Nat) : mm_O := mo_if (fun x => decide (¬ x = 0)) t
abbrev mo_if_lt (t : Nat) : mm_O := mo_if (fun x => decide (x < 0)) t
abbrev mo_if_ge (t : Nat) : mm_O := mo_if (fun x => decide (0 ≤ x)) t
abbrev mo_if_gt (t : Nat) : mm_O := mo_if (fun x => decide (0 < x)) t
abbrev mo_if_le (t : Nat) : mm_O := mo_if (fun x => decide (x ≤ 0)) t
/-- the one text that is read: cell 200000, its bytes: cell 200001 -/
def mm_ch (j : Nat) : Int32 := [79, 78, 78, 69, 67, 84, 32].getD j 0
def mo_gsv : mm_O := fun K _ pc lv st u => match st with
  | .ref a :: r => if a = 200000 then K (pc + 3) lv (.ref 200001 :: r) u else none
  | _ => none
def mo_gsc : mm_O := fun K _ pc lv st u => match st with
  | .ref a :: r => if a = 200000 then K (pc + 3) lv (.int 0 :: r) u else none
  | _ => none
def mo_gst : mm_O := fun K _ pc lv st u => K (pc + 3) lv (.int 1 :: st) u
def mo_sbl : mm_O := fun K _ pc lv st u => match st with
  | .ref a :: r => if a = 200001 then K (pc + 1) lv (.int 7 :: r) u else none
  | _ => none
def mo_sba : mm_O := fun K _ pc lv st u => match st with
  | .int i :: .ref a :: r => if a = 200001 ∧ mm_in i 7 = true then K (pc + 1) lv (.int (mm_ch i.toNatClampNeg) :: r) u else none
  | _ => none
def mo_cvS (k n : Nat) : mm_O := fun K F pc lv st u =>
  match (st.take n).reverse with
  | .ref a :: as => if n ≤ st.length ∧ mm_ct (st.drop n) = true ∧ a = 200000 then mm_cr k (.ref a :: as) (st.drop n) K F pc lv u else none
  | _ => none
theorem sn_ldcS {mi : mm_I} {pc idx : Nat} (hd : decode mi.2.1 pc = .ok (.ldc idx, 2)) (ho : mi.1 = RX4) (hi : idx = 44) : mm_Snd mi pc (mo_push 2 (.ref 200000)) := by
  intro p l e R s m args below meth c D cy r bs sk sv c0 s0 Q res K F hc hF hE hK lv st u h
  obtain ⟨hx, hb, hml, hr, hlk, hown, hnm, htb, hex, hrr, hrs, hts, hst, hbs, htr, hRf, hRl, hRc, hRs⟩ := hc
  subst hi
  have hk : vk_R mi.1 44 "ONNECT " (r 200000) s := by rw [ho, hrs.1]; exact hst.2.2.2.2.2.2.2.1
  exact mm_same (hK _ _ _ _ h) (fun H locs cells slots ls hW hS hl kk => va_ldcS hx hb hown hk hd (kk ls hl))
theorem sn_gsv {mi : mm_I} {pc idx : Nat} (hd : decode mi.2.1 pc = .ok (.getfield idx, 3)) (hw : Cond.fieldLink mi.1 idx "java/lang/String" "value" "[B" ∈ mm_gw) : mm_Snd mi pc mo_gsv := by
  intro p l e R s m args below meth c D cy r bs sk sv c0 s0 Q res K F hc hF hE hK lv st u h
  obtain ⟨hx, hb, hml, hr, hlk, hown, hnm, htb, hex, hrr, hrs, hts, hst, hbs, htr, hRf, hRl, hRc, hRs⟩ := hc
  simp only [mo_gsv] at h
  split at h
  · rename_i a rest
    split at h
    · rename_i ha
      subst ha
      refine mm_same (hK _ _ _ _ h) (fun H locs cells slots ls hW hS hl kk => ?_)
      have k : W p l e R s m args below meth c H locs cells slots Q (F0 m (pc + 3) ls (.ref (r 200001) :: rest.map (mv r))) := kk ls hl
      rw [hrs.2] at k
      show W p l e R s m args below meth c H locs cells slots Q (F0 m pc ls (.ref (r 200000) :: rest.map (mv r)))
      rw [hrs.1]
      exact vk_getf hx hb (hst.2.2.2.2.2.2.2.2.1.1 0 (by decide)).2.2.1 hS hown (hts _ hw) (fun _ z => z) hd k
    · cases h
  · cases h
theorem sn_gsc {mi : mm_I} {pc idx : Nat} (hd : decode mi.2.1 pc = .ok (.getfield idx, 3)) (hw : Cond.fieldLink mi.1 idx "java/lang/String" "coder" "B" ∈ mm_gw) : mm_Snd mi pc mo_gsc := by
  intro p l e R s m args below meth c D cy r bs sk sv c0 s0 Q res K F hc hF hE hK lv st u h
  obtain ⟨hx, hb, hml, hr, hlk, hown, hnm, htb, hex, hrr, hrs, hts, hst, hbs, htr, hRf, hRl, hRc, hRs⟩ := hc
  simp only [mo_gsc] at h
  split at h
  · rename_i a rest
    split at h
    · rename_i ha
      subst ha
      refine mm_same (hK _ _ _ _ h) (fun H locs cells slots ls hW hS hl kk => ?_)
      show W p l e R s m args below meth c H locs cells slots Q (F0 m pc ls (.ref (r 200000) :: rest.map (mv r)))
      rw [hrs.1]
      exact vk_getf hx hb (hst.2.2.2.2.2.2.2.2.1.1 0 (by decide)).2.1 hS hown (hts _ hw) (fun _ z => z) hd (kk ls hl)
    · cases h
  · cases h
theorem sn_gst {mi : mm_I} {pc idx : Nat} (hd : decode mi.2.1 pc = .ok (.getstatic idx, 3)) (hw : Cond.fieldLink mi.1 idx "java/lang/String" "COMPACT_STRINGS" "Z" ∈ mm_gw) : mm_Snd mi pc mo_gst := by
  intro p l e R s m args below meth c D cy r bs sk sv c0 s0 Q res K F hc hF hE hK lv st u h
  obtain ⟨hx, hb, hml, hr, hlk, hown, hnm, htb, hex, hrr, hrs, hts, hst, hbs, htr, hRf, hRl, hRc, hRs⟩ := hc
  exact mm_same (hK _ _ _ _ h) (fun H locs cells slots ls hW hS hl kk => va_gets hx hb hst.2.2.2.2.2.2.2.2.2.1 hS hown (hts _ hw) (fun _ z => z) hd (kk ls hl))
theorem sn_sbl {mi : mm_I} {pc : Nat} (hd : decode mi.2.1 pc = .ok (.arraylength, 1)) : mm_Snd mi pc mo_sbl := by
  intro p l e R s m args below meth c D cy r bs sk sv c0 s0 Q res K F hc hF hE hK lv st u h
  obtain ⟨hx, hb, hml, hr, hlk, hown, hnm, htb, hex, hrr, hrs, hts, hst, hbs, htr, hRf, hRl, hRc, hRs⟩ := hc
  simp only [mo_sbl] at h
  split at h
  · rename_i a rest
    split at h
    · rename_i ha
      subst ha
      refine mm_same (hK _ _ _ _ h) (fun H locs cells slots ls hW hS hl kk => ?_)
      show W p l e R s m args below meth c H locs cells slots Q (F0 m pc ls (.ref (r 200001) :: rest.map (mv r)))
      rw [hrs.2]
      exact va_tlen hx hb (hst.2.2.2.2.2.2.2.2.1.1 0 (by decide)).2.2.2 hS (by decide) hd (kk ls hl)
    · cases h
  · cases h
theorem sn_sba {mi : mm_I} {pc : Nat} (hd : decode mi.2.1 pc = .ok (.baload, 1)) : mm_Snd mi pc mo_sba := by
  intro p l e R s m args below meth c D cy r bs sk sv c0 s0 Q res K F hc hF hE hK lv st u h
  obtain ⟨hx, hb, hml, hr, hlk, hown, hnm, htb, hex, hrr, hrs, hts, hst, hbs, htr, hRf, hRl, hRc, hRs⟩ := hc
  simp only [mo_sba] at h
  split at h
  · rename_i i a rest
    split at h
    · rename_i ha
      obtain ⟨ha, hq⟩ := ha
      subst ha
      refine mm_same (hK _ _ _ _ h) (fun H locs cells slots ls hW hS hl kk => ?_)
      show W p l e R s m args below meth c H locs cells slots Q (F0 m pc ls (.int i :: .ref (r 200001) :: rest.map (mv r)))
      rw [hrs.2]
      exact va_tb hx hb (hst.2.2.2.2.2.2.2.2.1.1 0 (by decide)).2.2.2 hS (mm_in_of hq) rfl hd (kk ls hl)
    · cases h
  · cases h
theorem sn_cvS {mi : mm_I} {pc k n idx maxL : Nat} {y : MethodName} {bytes : ByteArray} {ret : Option FieldType} (hd : decode mi.2.1 pc = .ok (.invokevirtual idx, 3)) (hk : mm_yh k = (y, .code y bytes maxL ret)) (hm : Cond.code y bytes maxL ret ∈ mm_gw) (hl : Cond.methodLink mi.1 idx y ∈ mm_gw) (hi9 : Cond.instanceMethod y ∈ mm_gw) (hs9 : Cond.selects "java/lang/String" y y ∈ mm_gw) (hini : Cond.initialized y.cls ∈ mm_gw)
    (hd9 : y.cls ≠ "java/lang/invoke/MethodHandle" ∧ y.cls ≠ "java/lang/invoke/VarHandle" ∧ (parseMethodDescriptor y.desc).map (fun d => d.parameters.length + 1) = some n) (hL : maxL ≤ 11) : mm_Snd mi pc (mo_cvS k n) := by
  intro p l e R s m args below meth c D cy r bs sk sv c0 s0 Q res K F hc hF hE hK lv st u h
  simp only [mo_cvS] at h
  split at h
  · rename_i a as hargs
    split at h
    · rename_i hq
      obtain ⟨hq1, hq2, hq3⟩ := hq
      refine mm_cr_G (av := ((Value.ref a :: as).map (mv r)).toArray) hF hK h (fun cres v hcall hv hend H locs ls hW hS hsize k1 k2 hsz => ?_)
      obtain ⟨hx, hb, hml, hr, hlk, hown, hnm, htb, hex, hrr, hrs, hts, hst, hbs, htr, hRf, hRl, hRc, hRs⟩ := hc
      have hM := mm_met hv ((hF _ _ _ _ hcall).2 D cy r bs sk sv hrr hrs)
      rw [hk] at hM
      have hmono := (hF _ _ _ _ hcall).1
      have cb : CallB R s args mi.1 idx y bytes maxL ret (.code y bytes maxL ret :: mm_gw) (mm_Rm F.1 (mm_cc cres.2 - mm_cc u) (mm_ss cres.2 - mm_ss u)) (mm_cc cres.2 - mm_cc u) (mm_ss cres.2 - mm_ss u) as.length := callB_of as.length hts (mm_goodIn hm) rfl rfl rfl (hts _ hini) (hts _ hl) ⟨hd9.1, hd9.2.1, mm_n1 hd9.2.2 hargs hq1⟩ ⟨hRf, by show 8 + (maxL + 11) + 30 * F.1 ≤ R.locals; omega⟩
      have hrec : ∃ cell : Cell, H[r a]? = some cell ∧ cell.vm.isStatics = false ∧ s.vm.findClass "java/lang/String" = some cell.cls := by
        rw [hq3, hrs.1]
        exact vk_recv hst.2.2.2.2.2.2.2.2.1 (i := 0) (by decide) hS
      exact va_runV (nL := mi.2.2.1) (b := r a) (As := as.map (mv r)) ⟨hx, hb, hml, hown, hts⟩ hM ⟨cb, hts _ hi9, hts _ hs9⟩ ⟨mm_blind, hrec, mm_calls hst hbs hW hS hsz⟩ rfl (by simp) hsize (mm_splitR hargs hq1) (mm_roomW m pc ls _ hq2) hd ⟨by omega, by omega⟩
    · cases h
  · cases h
-- the JDK's own check of an index, where it passes
theorem ck_3 (l : Launch) (i n : Int32) (w : Value) (hw : w.category = 1) (h0 : ¬ i < 0) (h1 : i < n) (d : Nat) : Met l yJ3_checkIndex_8e157 (.code yJ3_checkIndex_8e157 cJ3_checkIndex_8e157 3 (some .int) :: mm_gw) { frames := d, cells := 0, slots := 0, locals := 30 * d } (fun v _ => v = #[.int i, .int n, w]) (QcRead i) 0 0 (fun _ => False) := by
  refine Met.ofW (cc := cJ3_checkIndex_8e157) (maxL := 3) (ret := some .int) (by decide) rfl ?_
  intro p e s m args below meth c s₁ B hml hv
  subst hv
  have hx := B.exec
  have hb := B.bytes
  have hr := B.returns
  have hlk := B.notSynchronized
  have hsl : (lg_sl [.int i, .int n, w]).length ≤ 3 := by
    rw [mm_slots]
    show 1 + (1 + (w.category + 0)) ≤ 3
    omega
  have hl := lv_entry [.int i, .int n, w] (n := 3) hsl
  rw [show (#[Value.int i, .int n, w] : Array Value) = [.int i, .int n, w].toArray from rfl, lg_entry_eq]
  generalize (lg_sl [.int i, .int n, w] ++ List.replicate (3 - (lg_sl [.int i, .int n, w]).length) Slot.unset).toArray = ls at hl ⊢
  have l0 : ls[0]? = some (.val (.int i)) := lv_at hl 0 rfl
  have l1 : ls[1]? = some (.val (.int n)) := lv_at hl 1 rfl
  refine lv_iload_n hx hb (k := 0) (by decide +kernel) rfl l0 ?_
  refine lv_if_lt (off := 8) (tgt := 9) hx hb (by decide +kernel) (by decide) (fun z => absurd z h0) (fun _ => ?_)
  refine lv_iload_n hx hb (k := 0) (by decide +kernel) rfl l0 ?_
  refine lv_iload_n hx hb (k := 1) (by decide +kernel) rfl l1 ?_
  refine lv_icmp_lt (off := 10) (tgt := 16) hx hb (by decide +kernel) (by decide) (fun _ => ?_) (fun z => absurd h1 z)
  refine lv_iload_n hx hb (k := 0) (by decide +kernel) rfl l0 ?_
  exact W.iret hx hb hr (fun t ht _ => ⟨rfl, ht⟩) (fun _ z => nomatch z) (by decide +kernel) hlk
theorem ck_0 (l : Launch) (i n : Int32) (h0 : ¬ i < 0) (h1 : i < n) (d : Nat) (A : Nat → Prop) (hl1 : Cond.fieldLink RJ0 1053 "jdk/internal/util/Preconditions" "SIOOBE_FORMATTER" "Ljava/util/function/BiFunction;" ∈ mm_gw) (hl2 : Cond.methodLink RJ0 1059 yJ3_checkIndex_8e157 ∈ mm_gw) (hl3 : Cond.static yJ3_checkIndex_8e157 ∈ mm_gw) (hl4 : Cond.initialized RJ3 ∈ mm_gw) (hl5 : Cond.code yJ3_checkIndex_8e157 cJ3_checkIndex_8e157 3 (some .int) ∈ mm_gw) :
    Met l yJ0_checkIndex_df160 (.code yJ0_checkIndex_df160 cJ0_checkIndex_df160 2 none :: mm_gw) { frames := d + 1, cells := 0, slots := 0, locals := 30 * (d + 1) } (fun v U => v = #[.int i, .int n] ∧ va_Zq "jdk/internal/util/Preconditions" "SIOOBE_FORMATTER" "Ljava/util/function/BiFunction;" A U U.heap) (va_Sv (fun _ => True)) 0 0 (fun _ => False) := by
  refine Met.ofW (cc := cJ0_checkIndex_df160) (maxL := 2) (ret := none) (by decide) rfl ?_
  intro p e s m args below meth c s₁ B hml hv
  obtain ⟨rfl, hZ⟩ := hv
  have hx := B.exec
  have hb := B.bytes
  have hr := B.returns
  have hlk := B.notSynchronized
  have hts0 := atoms_spec (ws := .code yJ0_checkIndex_df160 cJ0_checkIndex_df160 2 none :: mm_gw) B.pre
  have hts : ∀ w ∈ mm_gw, w.before #[Value.int i, .int n] s = true := fun w hw => hts0 w (List.mem_cons_of_mem _ hw)
  have hown : s.vm.findClass RJ0 = some m.cls := findClass_of_methodNamed B.named
  have hl := lv_entry [.int i, .int n] (n := 2) (Nat.le_of_ble_eq_true rfl)
  rw [show (#[Value.int i, .int n] : Array Value) = [.int i, .int n].toArray from rfl, lg_entry_eq]
  generalize (lg_sl [.int i, .int n] ++ List.replicate (2 - (lg_sl [.int i, .int n]).length) Slot.unset).toArray = ls at hl ⊢
  have l0 : ls[0]? = some (.val (.int i)) := lv_at hl 0 rfl
  have l1 : ls[1]? = some (.val (.int n)) := lv_at hl 1 rfl
  refine lv_iload_n hx hb (k := 0) (by decide +kernel) rfl l0 ?_
  refine lv_iload_n hx hb (k := 1) (by decide +kernel) rfl l1 ?_
  have go : ∀ w : Value, w.category = 1 → va_Z "jdk/internal/util/Preconditions" "SIOOBE_FORMATTER" "Ljava/util/function/BiFunction;" w A s s.heap → W p l e (headSpec (.code yJ0_checkIndex_df160 cJ0_checkIndex_df160 2 none :: mm_gw) { frames := d + 1, cells := 0, slots := 0, locals := 30 * (d + 1) }).room s m [Value.int i, .int n].toArray below meth c s.heap [] 0 0 (MQ below (va_Sv (fun _ => True)) [Value.int i, .int n].toArray s 0 0 (fun _ => False)) (F0 m (0 + 1 + 1) ls [.int n, .int i]) := by
    intro w hw hz
    refine va_gets hx hb (index := 1053) hz va_S.rf hown (hts _ hl1) (fun _ z => z) (by decide +kernel) ?_
    refine W.callR (r := i) (rest := []) (g := F0 m (0 + 1 + 1 + 3) ls [w, .int n, .int i]) (W.runS (As := [.int i, .int n, w]) (rest := []) (nL := 2) (index := 1059) (n := 3) ⟨hx, hb, hml, hown, hts⟩ (ck_3 l i n w hw h0 h1 d) ⟨callB_of 3 hts (mm_goodIn hl5) rfl rfl rfl (hts _ hl4) (hts _ hl2) (by decide +kernel) ⟨Nat.le_refl _, by show 8 + (3 + 11) + 30 * d ≤ 30 * (d + 1); omega⟩, hts _ hl3⟩ preEq rfl rfl hl.1 rfl (Nat.le_of_ble_eq_true rfl) (show decode cJ0_checkIndex_df160 5 = .ok (.invokestatic 1059, 3) by decide +kernel) ⟨Nat.le_refl _, Nat.le_refl _⟩) ?_
    refine lv_pop (pc := 8) hx hb (by decide +kernel) rfl ?_
    exact W.vret hx hb hr (fun t ht _ => ⟨rfl, trivial, ht⟩) (fun _ z => nomatch z) (show decode cJ0_checkIndex_df160 9 = .ok (.return_, 1) by decide +kernel) hlk
  rcases hZ with hZ | ⟨t, hZ⟩
  · exact go .null rfl hZ
  · exact go (.ref t) rfl hZ
def mo_cki : mm_O := fun K F pc lv st u => match st with
  | .int n :: .int i :: r => if (¬ i < 0 ∧ i < n) ∧ mm_ct r = true ∧ 1 ≤ F.1 then K (pc + 3) lv r u else none
  | _ => none
theorem sn_cki {mi : mm_I} {pc idx : Nat} (hd : decode mi.2.1 pc = .ok (.invokestatic idx, 3)) (hl0 : Cond.methodLink mi.1 idx yJ0_checkIndex_df160 ∈ mm_gw) (hs0 : Cond.static yJ0_checkIndex_df160 ∈ mm_gw) (hi0 : Cond.initialized RJ0 ∈ mm_gw) (hc0 : Cond.code yJ0_checkIndex_df160 cJ0_checkIndex_df160 2 none ∈ mm_gw) (hl1 : Cond.fieldLink RJ0 1053 "jdk/internal/util/Preconditions" "SIOOBE_FORMATTER" "Ljava/util/function/BiFunction;" ∈ mm_gw) (hl2 : Cond.methodLink RJ0 1059 yJ3_checkIndex_8e157 ∈ mm_gw) (hl3 : Cond.static yJ3_checkIndex_8e157 ∈ mm_gw) (hl4 : Cond.initialized RJ3 ∈ mm_gw) (hl5 : Cond.code yJ3_checkIndex_8e157 cJ3_checkIndex_8e157 3 (some .int) ∈ mm_gw) : mm_Snd mi pc mo_cki := by
  intro p l e R s m args below meth c D cy r bs sk sv c00 s0 Q res K F hc hF hE hK lv st u h
  obtain ⟨hx, hb, hml, hr, hlk, hown, hnm, htb, hex, hrr, hrs, hts, hst, hbs, htr, hRf, hRl, hRc, hRs⟩ := hc
  simp only [mo_cki] at h
  split at h
  · rename_i n i rest
    split at h
    · rename_i hq
      obtain ⟨⟨q1, q2⟩, q3, q4⟩ := hq
      obtain ⟨d, hd'⟩ : ∃ d, F.1 = d + 1 := ⟨F.1 - 1, by omega⟩
      have g := hK _ _ _ _ h
      refine ⟨g.1, fun H locs ls hW hS hl k1 k2 k3 => ?_⟩
      have hZ := hst.2.2.2.2.2.2.2.2.2.2
      refine va_csv (a := #[.int i, .int n]) (W.runS (As := [.int i, .int n]) (rest := rest.map (mv r)) (nL := mi.2.2.1) (n := 2) ⟨hx, hb, hml, hown, hts⟩ (ck_0 l i n q1 q2 d (fun q => bs ≤ q) hl1 hl2 hl3 hl4 hl5) ⟨callB_of 2 hts (mm_goodIn hc0) rfl rfl rfl (hts _ hi0) (hts _ hl0) (by decide +kernel) ⟨by show d + 1 + 1 ≤ R.frames; omega, by show 8 + (2 + 11) + 30 * (d + 1) ≤ R.locals; omega⟩, hts _ hs0⟩ ⟨?_, ?_⟩ rfl rfl hl.1 rfl (mm_roomW m pc ls _ q3) hd ⟨?_, ?_⟩) (fun _ => g.2 H locs ls hW hS hl k1 k2 k3)
      · intro a U g9 mk hp
        exact ⟨hp.1, va_Zq.moved (u := U) (U := U.calling g9 mk a) (Vm.Alike.refl U.vm) hp.2⟩
      · intro U hU hw
        refine ⟨rfl, ?_⟩
        rw [hU]
        exact va_Zq.kept (va_Zq.moved hw.alike hZ) (fun a w1 w2 => hS.2.1 a w1 w2)
      · have := g.1.1; omega
      · have := g.1.2; omega
    · cases h
  · cases h
end MMK
