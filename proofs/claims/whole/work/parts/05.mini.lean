/-! THE SMALL MACHINE: the cells that the law makes, by their number from 0 on; ints, longs and references by cell and place. An instruction is an op: it says how it goes on. -/
section MMA
/-- the cells' shapes (0, class) or (kind of array, length); references; ints; longs; how many cells, slots were made -/
abbrev mm_M : Type := List (Nat × Nat) × (Nat → Nat → Option Nat) × (Nat → Nat → Int32) × (Nat → Nat → Int64) × Nat × Nat
def mm_sh (u : mm_M) : List (Nat × Nat) := u.1
def mm_rf (u : mm_M) : Nat → Nat → Option Nat := u.2.1
def mm_it (u : mm_M) : Nat → Nat → Int32 := u.2.2.1
def mm_lg (u : mm_M) : Nat → Nat → Int64 := u.2.2.2.1
def mm_cc (u : mm_M) : Nat := u.2.2.2.2.1
def mm_ss (u : mm_M) : Nat := u.2.2.2.2.2
def mm_u2 {α : Type} (f : Nat → Nat → α) (a k : Nat) (v : α) : Nat → Nat → α := fun x y => if x = a then (if y = k then v else f a y) else f x y
def mm_u1 {α : Type} (f : Nat → Nat → α) (a : Nat) (v : α) : Nat → Nat → α := fun x y => if x = a then v else f x y
def mm_si (u : mm_M) (a k : Nat) (v : Int32) : mm_M := (u.1, u.2.1, mm_u2 u.2.2.1 a k v, u.2.2.2)
def mm_sl (u : mm_M) (a k : Nat) (v : Int64) : mm_M := (u.1, u.2.1, u.2.2.1, mm_u2 u.2.2.2.1 a k v, u.2.2.2.2)
def mm_sr (u : mm_M) (a k : Nat) (v : Option Nat) : mm_M := (u.1, mm_u2 u.2.1 a k v, u.2.2)
/-- a new cell of this shape, with n slots -/
def mm_nw (u : mm_M) (x : Nat × Nat) (n : Nat) : mm_M := (u.1 ++ [x], mm_u1 u.2.1 u.1.length none, mm_u1 u.2.2.1 u.1.length 0, mm_u1 u.2.2.2.1 u.1.length 0, u.2.2.2.2.1 + 1, u.2.2.2.2.2 + n)
/-- an exception was made: a cell that is not kept -/
def mm_th (u : mm_M) : mm_M := (u.1, u.2.1, u.2.2.1, u.2.2.2.1, u.2.2.2.2.1 + 1, u.2.2.2.2.2 + 6)
/-- an end: an answer, or the number of an exception's class -/
abbrev mm_R : Type := (Option Value ⊕ Nat) × mm_M
abbrev mm_L : Type := List (Nat × Value)
abbrev mm_K : Type := Nat → mm_L → List Value → mm_M → Option mm_R
/-- the callees, and how many levels they have -/
abbrev mm_F : Type := Nat × (Nat → List Value → mm_M → Option mm_R)
abbrev mm_O : Type := mm_K → mm_F → Nat → mm_L → List Value → mm_M → Option mm_R
def mm_ld : mm_L → Nat → Option Value
  | [], _ => none
  | q :: r, i => bif Nat.beq q.1 i then some q.2 else mm_ld r i
def mm_s1 (lv : mm_L) (i : Nat) (v : Value) : mm_L := (i, v) :: lv.filter (fun q => !(q.1 == i) && !(q.1 + 1 == i && q.2.category == 2))
def mm_s2 (lv : mm_L) (i : Nat) (v : Value) : mm_L := (i, v) :: lv.filter (fun q => !(q.1 == i) && (!(q.1 == i + 1) && !(q.1 + 1 == i && q.2.category == 2)))
-- constants, locals, stack
def mo_push (n : Nat) (v : Value) : mm_O := fun K _ pc lv st u => K (pc + n) lv (v :: st) u
def mo_ldi (n i : Nat) : mm_O := fun K _ pc lv st u => match mm_ld lv i with
  | some (.int x) => K (pc + n) lv (.int x :: st) u
  | _ => none
def mo_lda (n i : Nat) : mm_O := fun K _ pc lv st u => match mm_ld lv i with
  | some (.ref x) => K (pc + n) lv (.ref x :: st) u
  | _ => none
def mo_ldl (n i : Nat) : mm_O := fun K _ pc lv st u => match mm_ld lv i with
  | some (.long x) => K (pc + n) lv (.long x :: st) u
  | _ => none
def mo_ldd (n i : Nat) : mm_O := fun K _ pc lv st u => match mm_ld lv i with
  | some (.double x) => K (pc + n) lv (.double x :: st) u
  | _ => none
def mo_sti (n i : Nat) : mm_O := fun K _ pc lv st u => match st with
  | .int x :: r => K (pc + n) (mm_s1 lv i (.int x)) r u
  | _ => none
def mo_sta (n i : Nat) : mm_O := fun K _ pc lv st u => match st with
  | .ref x :: r => K (pc + n) (mm_s1 lv i (.ref x)) r u
  | _ => none
def mo_stl (n i : Nat) : mm_O := fun K _ pc lv st u => match st with
  | .long x :: r => K (pc + n) (mm_s2 lv i (.long x)) r u
  | _ => none
def mo_std (n i : Nat) : mm_O := fun K _ pc lv st u => match st with
  | .double x :: r => K (pc + n) (mm_s2 lv i (.double x)) r u
  | _ => none
def mo_inc (i : Nat) (z : Int32) : mm_O := fun K _ pc lv st u => match mm_ld lv i with
  | some (.int x) => K (pc + 3) (mm_s1 lv i (.int (x + z))) st u
  | _ => none
def mo_bi (f : Int32 → Int32 → Int32) : mm_O := fun K _ pc lv st u => match st with
  | .int y :: .int x :: r => K (pc + 1) lv (.int (f x y) :: r) u
  | _ => none
def mo_dv (f : Int32 → Int32 → Int32) : mm_O := fun K _ pc lv st u => match st with
  | .int y :: .int x :: r => if y = 0 then none else K (pc + 1) lv (.int (f x y) :: r) u
  | _ => none
def mo_ui (f : Int32 → Int32) : mm_O := fun K _ pc lv st u => match st with
  | .int x :: r => K (pc + 1) lv (.int (f x) :: r) u
  | _ => none
def mo_i2l : mm_O := fun K _ pc lv st u => match st with
  | .int x :: r => K (pc + 1) lv (.long x.toInt64 :: r) u
  | _ => none
def mo_l2i : mm_O := fun K _ pc lv st u => match st with
  | .long x :: r => K (pc + 1) lv (.int x.toInt32 :: r) u
  | _ => none
def mo_bl (f : Int64 → Int64 → Int64) : mm_O := fun K _ pc lv st u => match st with
  | .long y :: .long x :: r => K (pc + 1) lv (.long (f x y) :: r) u
  | _ => none
def mo_lshl : mm_O := fun K _ pc lv st u => match st with
  | .int y :: .long x :: r => K (pc + 1) lv (.long (x <<< (y.toInt64 &&& 63)) :: r) u
  | _ => none
def mo_lcmp : mm_O := fun K _ pc lv st u => match st with
  | .long y :: .long x :: r => K (pc + 1) lv (.int (lg_cmp x y) :: r) u
  | _ => none
def mo_i2f : mm_O := fun K _ pc lv st u => match st with
  | .int x :: r => K (pc + 1) lv (.float (FP.i2f x) :: r) u
  | _ => none
def mo_fdiv : mm_O := fun K _ pc lv st u => match st with
  | .float y :: .float x :: r => if FP.fdiv x y &&& 0x7fffffff ≤ 0x7f800000 then K (pc + 1) lv (.float (FP.fdiv x y) :: r) u else none
  | _ => none
def mo_f2d : mm_O := fun K _ pc lv st u => match st with
  | .float x :: r => if FP.f2d x &&& 0x7fffffffffffffff ≤ 0x7ff0000000000000 then K (pc + 1) lv (.double (FP.f2d x) :: r) u else none
  | _ => none
def mo_dcmp (o : CmpOp) : mm_O := fun K _ pc lv st u => match st with
  | .double y :: .double x :: r => K (pc + 1) lv (.int (Op.cmpValue (FP.dcmp x y) o) :: r) u
  | _ => none
def mo_dup : mm_O := fun K _ pc lv st u => match st with
  | .int x :: r => K (pc + 1) lv (.int x :: .int x :: r) u
  | .ref x :: r => K (pc + 1) lv (.ref x :: .ref x :: r) u
  | _ => none
def mo_pop : mm_O := fun K _ pc lv st u => match st with
  | .int _ :: r => K (pc + 1) lv r u
  | .ref _ :: r => K (pc + 1) lv r u
  | _ => none
def mo_dup2 : mm_O := fun K _ pc lv st u => match st with
  | .int x :: .ref y :: r => K (pc + 1) lv (.int x :: .ref y :: .int x :: .ref y :: r) u
  | _ => none
-- jumps
def mo_go (t : Nat) : mm_O := fun K _ _ lv st u => K t lv st u
def mo_cmp (f : Int32 → Int32 → Bool) (t : Nat) : mm_O := fun K _ pc lv st u => match st with
  | .int y :: .int x :: r => if f x y = true then K t lv r u else K (pc + 3) lv r u
  | _ => none
def mo_if (f : Int32 → Bool) (t : Nat) : mm_O := fun K _ pc lv st u => match st with
  | .int x :: r => if f x = true then K t lv r u else K (pc + 3) lv r u
  | _ => none
/-- a switch: its cases one behind the other -/
def mm_sw (x : Int32) (dflt : Nat) : List (Int32 × Nat) → Nat
  | [] => dflt
  | q :: r => if x = q.1 then q.2 else mm_sw x dflt r
def mo_sw (dflt : Nat) (l : List (Int32 × Nat)) : mm_O := fun K _ _ lv st u => match st with
  | .int x :: r => K (mm_sw x dflt l) lv r u
  | _ => none
-- fields
def mo_gti (ci k : Nat) : mm_O := fun K _ pc lv st u => match st with
  | .ref a :: r => if (mm_sh u)[a]? = some (0, ci) then K (pc + 3) lv (.int (mm_it u a k) :: r) u else none
  | _ => none
def mo_gtr (ci k : Nat) : mm_O := fun K _ pc lv st u => match st with
  | .ref a :: r => if (mm_sh u)[a]? = some (0, ci) then (match mm_rf u a k with
      | some q => K (pc + 3) lv (.ref q :: r) u
      | none => none) else none
  | _ => none
def mo_pti (ci k : Nat) : mm_O := fun K _ pc lv st u => match st with
  | .int v :: .ref a :: r => if (mm_sh u)[a]? = some (0, ci) then K (pc + 3) lv r (mm_si u a k v) else none
  | _ => none
/-- a boolean field -/
def mo_ptz (ci k : Nat) : mm_O := fun K _ pc lv st u => match st with
  | .int v :: .ref a :: r => if (mm_sh u)[a]? = some (0, ci) then (if v = 0 ∨ v = 1 then K (pc + 3) lv r (mm_si u a k v) else none) else none
  | _ => none
def mo_ptr (ci k : Nat) : mm_O := fun K _ pc lv st u => match st with
  | .ref v :: .ref a :: r => if (mm_sh u)[a]? = some (0, ci) then (if v < (mm_sh u).length then K (pc + 3) lv r (mm_sr u a k (some v)) else none) else none
  | _ => none
-- arrays: kinds 1 int, 2 boolean, 3 char, 4 long, 5 and on: references
def mm_in (i : Int32) (n : Nat) : Bool := decide (¬ (i < 0 ∨ n ≤ i.toNatClampNeg))
def mo_ald (t : Nat) : mm_O := fun K _ pc lv st u => match st with
  | .int i :: .ref a :: r => (match (mm_sh u)[a]? with
      | some x => if x.1 = t ∧ mm_in i x.2 = true then K (pc + 1) lv (.int (mm_it u a i.toNatClampNeg) :: r) u else none
      | none => none)
  | _ => none
def mo_aldl : mm_O := fun K _ pc lv st u => match st with
  | .int i :: .ref a :: r => (match (mm_sh u)[a]? with
      | some x => if x.1 = 4 ∧ mm_in i x.2 = true then K (pc + 1) lv (.long (mm_lg u a i.toNatClampNeg) :: r) u else none
      | none => none)
  | _ => none
def mo_aldr (t : Nat) : mm_O := fun K _ pc lv st u => match st with
  | .int i :: .ref a :: r => (match (mm_sh u)[a]? with
      | some x => if x.1 = t ∧ mm_in i x.2 = true then (match mm_rf u a i.toNatClampNeg with
          | some q => K (pc + 1) lv (.ref q :: r) u
          | none => none) else none
      | none => none)
  | _ => none
/-- f: what a store of this kind keeps -/
def mo_ast (t : Nat) (f : Int32 → Int32) : mm_O := fun K _ pc lv st u => match st with
  | .int v :: .int i :: .ref a :: r => (match (mm_sh u)[a]? with
      | some x => if x.1 = t ∧ mm_in i x.2 = true then K (pc + 1) lv r (mm_si u a i.toNatClampNeg (f v)) else none
      | none => none)
  | _ => none
def mo_astl : mm_O := fun K _ pc lv st u => match st with
  | .long v :: .int i :: .ref a :: r => (match (mm_sh u)[a]? with
      | some x => if x.1 = 4 ∧ mm_in i x.2 = true then K (pc + 1) lv r (mm_sl u a i.toNatClampNeg v) else none
      | none => none)
  | _ => none
def mo_astr (t ci : Nat) : mm_O := fun K _ pc lv st u => match st with
  | .ref v :: .int i :: .ref a :: r => (match (mm_sh u)[a]? with
      | some x => if x.1 = t ∧ mm_in i x.2 = true ∧ (mm_sh u)[v]? = some (0, ci) then K (pc + 1) lv r (mm_sr u a i.toNatClampNeg (some v)) else none
      | none => none)
  | _ => none
def mo_len : mm_O := fun K _ pc lv st u => match st with
  | .ref a :: r => (match (mm_sh u)[a]? with
      | some x => if 0 < x.1 ∧ x.1 < 8 then K (pc + 1) lv (.int (Int32.ofNat x.2) :: r) u else none
      | none => none)
  | _ => none
-- the script: cell 100000
def mo_slen (L : Nat) : mm_O := fun K _ pc lv st u => match st with
  | .ref a :: r => if a = 100000 then K (pc + 1) lv (.int (Int32.ofNat L) :: r) u else none
  | _ => none
def mo_sld (L : Nat) (xs : Nat → Int32) : mm_O := fun K _ pc lv st u => match st with
  | .int i :: .ref a :: r => if a = 100000 ∧ mm_in i L = true then K (pc + 1) lv (.int (xs i.toNatClampNeg) :: r) u else none
  | _ => none
-- making
def mo_new (ci n : Nat) : mm_O := fun K _ pc lv st u => if mm_cc u = (mm_sh u).length ∧ (mm_sh u).length < 100000 then K (pc + 3) lv (.ref (mm_sh u).length :: st) (mm_nw u (0, ci) n) else none
def mo_nwa (n t : Nat) : mm_O := fun K _ pc lv st u => match st with
  | .int v :: r => if (mm_cc u = (mm_sh u).length ∧ (mm_sh u).length < 100000) ∧ (¬ v < 0 ∧ v.toNatClampNeg < 1000) then K (pc + n) lv (.ref (mm_sh u).length :: r) (mm_nw u (t, v.toNatClampNeg) v.toNatClampNeg) else none
  | _ => none
-- calls: n arguments, the receiver among them
def mm_ct (st : List Value) : Bool := decide ((st.map fun v => v.category).sum ≤ 8)
/-- behind the callee's end: hs says where an exception is caught: its number, the handler's pc, the length of the astore there -/
def mm_cl (k : Nat) (as rest : List Value) (hs : List (Nat × Nat × Nat)) (K : mm_K) (F : mm_F) (pc : Nat) (lv : mm_L) (u : mm_M) : Option mm_R :=
  match F.2 k as u with
  | some (.inl none, u2) => K (pc + 3) lv rest u2
  | some (.inl (some v), u2) => K (pc + 3) lv (v :: rest) u2
  | some (.inr x, u2) => (match hs.find? (fun h => Nat.beq h.1 x) with
      | some h => K (h.2.1 + h.2.2) [] [] u2
      | none => if hs = [] then some (.inr x, u2) else none)
  | none => none
def mo_cs (k n : Nat) (hs : List (Nat × Nat × Nat)) : mm_O := fun K F pc lv st u =>
  if n ≤ st.length ∧ mm_ct (st.drop n) = true then mm_cl k (st.take n).reverse (st.drop n) hs K F pc lv u else none
/-- the receiver is of the class ci -/
def mo_cv (k n ci : Nat) (hs : List (Nat × Nat × Nat)) : mm_O := fun K F pc lv st u =>
  match (st.take n).reverse with
  | .ref a :: as => if n ≤ st.length ∧ mm_ct (st.drop n) = true ∧ (mm_sh u)[a]? = some (0, ci) then mm_cl k (.ref a :: as) (st.drop n) hs K F pc lv u else none
  | _ => none
/-- a callee that doesn't throw -/
def mm_cr (k : Nat) (as rest : List Value) (K : mm_K) (F : mm_F) (pc : Nat) (lv : mm_L) (u : mm_M) : Option mm_R :=
  match F.2 k as u with
  | some (.inl none, u2) => K (pc + 3) lv rest u2
  | some (.inl (some v), u2) => K (pc + 3) lv (v :: rest) u2
  | _ => none
def mo_ci (k n : Nat) : mm_O := fun K F pc lv st u =>
  match (st.take n).reverse with
  | .ref a :: as => if n ≤ st.length ∧ mm_ct (st.drop n) = true then mm_cr k (.ref a :: as) (st.drop n) K F pc lv u else none
  | _ => none
def mo_sn (k n : Nat) : mm_O := fun K F pc lv st u =>
  if n ≤ st.length ∧ mm_ct (st.drop n) = true then mm_cr k (st.take n).reverse (st.drop n) K F pc lv u else none
/-- Object's constructor -/
def mo_obj : mm_O := fun K _ pc lv st u => match st with
  | .ref _ :: r => if mm_ct r = true then K (pc + 3) lv r u else none
  | _ => none
def mo_max : mm_O := fun K _ pc lv st u => match st with
  | .int y :: .int x :: r => if mm_ct r = true then K (pc + 3) lv (.int (if x < y then y else x) :: r) u else none
  | _ => none
-- ends
def mo_iret : mm_O := fun _ _ _ _ st u => match st with
  | [.int v] => some (.inl (some (.int v)), u)
  | _ => none
/-- a boolean -/
def mo_zret : mm_O := fun _ _ _ _ st u => match st with
  | [.int v] => if v = 0 ∨ v = 1 then some (.inl (some (.int v)), u) else none
  | _ => none
/-- a char, a byte -/
def mo_nret (ty : FieldType) : mm_O := fun _ _ _ _ st u => match st with
  | [.int v] => if narrow ty (.int v) = .int v then some (.inl (some (.int v)), u) else none
  | _ => none
def mo_lret : mm_O := fun _ _ _ _ st u => match st with
  | [.long v] => some (.inl (some (.long v)), u)
  | _ => none
def mo_fret : mm_O := fun _ _ _ _ st u => match st with
  | [.float v] => some (.inl (some (.float v)), u)
  | _ => none
def mo_aret : mm_O := fun _ _ _ _ st u => match st with
  | [.ref v] => some (.inl (some (.ref v)), u)
  | _ => none
def mo_ret : mm_O := fun _ _ _ _ st u => match st with
  | [] => some (.inl none, u)
  | _ => none
/-- new; dup; ldc; invokespecial; athrow -/
def mo_thr (x : Nat) : mm_O := fun _ F _ _ st u => match st with
  | [] => if 5 ≤ F.1 then some (.inr x, mm_th u) else none
  | _ => none
-- tables of ops by pc
def mt_n (p : Nat) (l r : Nat → Option mm_O) : Nat → Option mm_O := fun pc => bif Nat.ble pc p then l pc else r pc
def mt_l (p : Nat) (o : mm_O) : Nat → Option mm_O := fun pc => bif Nat.beq pc p then some o else none
/-- so many steps at the most -/
def mm_lp (T : Nat → Option mm_O) (F : mm_F) : Nat → mm_K
  | 0 => fun _ _ _ _ => none
  | n + 1 => fun pc lv st u => match T pc with
    | some o => o (mm_lp T F n) F pc lv st u
    | none => none
def mm_lv0 (as : List Value) : mm_L := lv_args 0 as
end MMA
