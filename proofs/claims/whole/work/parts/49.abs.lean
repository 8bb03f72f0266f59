section PU11
/-- how far a handshake is: what is awaited, three or four numbers, two texts -/
abbrev A_hs : Type := Nat × Nat × Nat × Nat × Nat × List Int32 × List Int32
/-- a connection: state, ticks, what waits for the target and for the client, way and who has finished, goal, handshake -/
abbrev A_cn : Type := Nat × Nat × (List Int32 × List Int32) × (Nat × Bool × Bool) × (Int32 × Int32 × Int32) × A_hs
def h0 : A_hs := (0, 0, 0, 0, 0, [], [])
def cFree : A_cn := (0, 0, ([], []), (0, false, false), (0, 0, 0), h0)
def endA (q : A_cn) : A_cn := (6, 0, ([], q.2.2.1.2), q.2.2.2.1, q.2.2.2.2.1, h0)
def doneA (q : A_cn) : A_cn := if q.1 = 5 ∧ q.2.2.2.1.2.1 = true ∧ q.2.2.2.1.2.2 = true ∧ q.2.2.1.1 = [] ∧ q.2.2.1.2 = [] then endA q else q
def upA (q : A_cn) : Int32 × A_cn := match q.2.2.1.1 with
  | [] => (if q.2.2.2.1.2.1 = true ∨ q.1 = 6 then -2 else -1, q)
  | b :: r => (b, doneA (q.1, 0, (r, q.2.2.1.2), q.2.2.2.1, q.2.2.2.2.1, q.2.2.2.2.2))
def dnA (q : A_cn) : Int32 × A_cn := match q.2.2.1.2 with
  | [] => (if q.2.2.2.1.2.2 = true ∨ q.1 = 6 then -2 else -1, q)
  | b :: r => (b, doneA (q.1, 0, (q.2.2.1.1, r), q.2.2.2.1, q.2.2.2.2.1, q.2.2.2.2.2))
def finA (q : A_cn) (cl : Bool) : A_cn := if q.1 = 5 then doneA (5, q.2.1, q.2.2.1, (q.2.2.2.1.1, q.2.2.2.1.2.1 || cl, q.2.2.2.1.2.2 || !cl), q.2.2.2.2.1, q.2.2.2.2.2) else endA q
def most (s : Nat) : Nat := if s = 4 then 12 else if s = 5 then 30 else 8
def tickA (q : A_cn) : Bool × A_cn := if q.1 = 0 ∨ q.1 = 6 then (false, q) else if q.2.1 + 1 < most q.1 then (false, (q.1, q.2.1 + 1, q.2.2)) else (true, endA q)
def connA (q : A_cn) (st : Bool) : A_cn :=
  if q.2.2.2.1.1 = 67 then (if st = true then (5, 0, (q.2.2.1.1, q.2.2.1.2 ++ [50, 48, 48, 10]), q.2.2.2.1, q.2.2.2.2.1, h0) else (6, 0, ([], q.2.2.1.2 ++ [53, 48, 50, 10]), q.2.2.2.1, q.2.2.2.2.1, h0))
  else (if st = true then (5, 0, (q.2.2.1.1, q.2.2.1.2 ++ [5, 0, 0, 1, 0, 0, 0, 0, 0, 0]), q.2.2.2.1, q.2.2.2.2.1, h0) else (6, 0, ([], q.2.2.1.2 ++ [5, 5, 0, 1, 0, 0, 0, 0, 0, 0]), q.2.2.2.1, q.2.2.2.2.1, h0))
def relA (q : A_cn) (b : Int32) : Bool × A_cn := if q.2.2.1.1.length < 16 then (true, (q.1, 0, (q.2.2.1.1 ++ [b], q.2.2.1.2), q.2.2.2)) else (false, q)
def givA (q : A_cn) (b : Int32) : Bool × A_cn := if q.2.2.1.2.length < 16 then (true, (q.1, 0, (q.2.2.1.1, q.2.2.1.2 ++ [b]), q.2.2.2)) else (false, q)
/-- the class's readers, empty -/
def GrC (x : Nat → Nat → Int32) (a : Nat) (l o i : Int32) : Prop := x (a + 8) 0 = l ∧ x (a + 8) 1 = o ∧ x (a + 8) 2 = i
def LgC (x : Nat → Nat → Int32) (a : Nat) (st : Int32) (u p : List Int32) : Prop := x (a + 9) 2 = st ∧ TxC x (a + 10) u ∧ TxC x (a + 12) p
def RqC (x : Nat → Nat → Int32) (a : Nat) (st ad pt : Int32) (n : List Int32) : Prop := x (a + 14) 1 = st ∧ x (a + 14) 4 = ad ∧ x (a + 14) 5 = pt ∧ TxC x (a + 15) n
def LnC (x : Nat → Nat → Int32) (a : Nat) (st mt dg pt : Int32) (n : List Int32) : Prop := x (a + 17) 1 = st ∧ x (a + 17) 2 = mt ∧ x (a + 17) 3 = dg ∧ x (a + 17) 4 = pt ∧ TxC x (a + 18) n
def rqs (n nm : Nat) : Int32 := if n = 4 then 5 else if n = 5 then (if nm = 1 then 6 else 4) else if 6 ≤ n then 7 else Int32.ofNat n
/-- the class's side of a handshake -/
def HsC (x : Nat → Nat → Int32) (a : Nat) (hb : Int32) : A_hs → Prop
  | (0, _, _, _, _, _, _) => hb = 0 ∧ GrC x a 0 0 0 ∧ LgC x a 0 [] [] ∧ RqC x a 0 0 0 [] ∧ LnC x a 0 0 0 0 []
  | (1, _, _, _, _, _, _) => hb = 1 ∧ GrC x a 0 0 0 ∧ LgC x a 0 [] [] ∧ RqC x a 0 0 0 []
  | (2, n1, n2, n3, _, _, _) => hb = 1 ∧ GrC x a (Int32.ofNat n1) (Int32.ofNat n2) (Int32.ofNat n3) ∧ LgC x a 0 [] [] ∧ RqC x a 0 0 0 []
  | (3, n1, n2, _, _, l1, l2) => hb = 1 ∧ LgC x a (Int32.ofNat n1) l1 l2 ∧ (n1 = 2 ∨ n1 = 4 → x (a + 9) 3 = Int32.ofNat n2) ∧ RqC x a 0 0 0 []
  | (4, n1, n2, n3, n4, l1, _) => hb = 1 ∧ RqC x a (rqs n1 n3) (if n3 = 1 then 0 else Int32.ofNat (adr l1 0)) (if n1 = 7 then Int32.ofNat n2 else 0) (if n3 = 1 then l1 else []) ∧ (5 ≤ n1 → x (a + 14) 2 = (if n1 = 5 then Int32.ofNat n2 else if n1 = 6 then 2 else 1)) ∧ (2 ≤ n1 → x (a + 14) 3 = Int32.ofNat n4)
  | (5, n1, _, _, _, _, _) => hb = 1 ∧ LnC x a 0 (Int32.ofNat (n1 - 1)) 0 0 []
  | (6, _, _, _, _, l1, _) => hb = 1 ∧ LnC x a 1 7 0 0 l1
  | (7, n1, n2, _, _, l1, _) => hb = 1 ∧ LnC x a 2 7 (Int32.ofNat n1) (Int32.ofNat n2) l1
  | (8, n1, n2, _, _, l1, _) => hb = 1 ∧ LnC x a 3 7 (Int32.ofNat n1) (Int32.ofNat n2) l1
  | _ => False
theorem HsC.row {x y : Nat → Nat → Int32} {a : Nat} {hb : Int32} {h : A_hs} (hh : HsC x a hb h) (hr : ∀ b, a + 8 ≤ b → b < a + 20 → y b = x b) : HsC y a hb h := by
  have e8 := hr (a + 8) (by omega) (by omega)
  have e9 := hr (a + 9) (by omega) (by omega)
  have e10 := hr (a + 10) (by omega) (by omega)
  have e11 := hr (a + 10 + 1) (by omega) (by omega)
  have e12 := hr (a + 12) (by omega) (by omega)
  have e13 := hr (a + 12 + 1) (by omega) (by omega)
  have e14 := hr (a + 14) (by omega) (by omega)
  have e15 := hr (a + 15) (by omega) (by omega)
  have e16 := hr (a + 15 + 1) (by omega) (by omega)
  have e17 := hr (a + 17) (by omega) (by omega)
  have e18 := hr (a + 18) (by omega) (by omega)
  have e19 := hr (a + 18 + 1) (by omega) (by omega)
  have k : HsC y a hb h = HsC x a hb h := by
    unfold HsC GrC LgC RqC LnC TxC
    rw [e8, e9, e10, e11, e12, e13, e14, e15, e16, e17, e18, e19]
  rw [k]
  exact hh
/-- the class's side of a connection -/
def CnC (x : Nat → Nat → Int32) (a : Nat) (q : A_cn) : Prop := ∃ (hb : Int32) (cf tf : Bool), OuC x a (Int32.ofNat q.1) (Int32.ofNat q.2.1) q.2.2.1.1 q.2.2.1.2 hb (b2i (decide (q.2.2.2.1.1 = 67))) (b2i cf) (b2i tf) q.2.2.2.2.1.1 q.2.2.2.2.1.2.1 q.2.2.2.2.1.2.2 ∧ (¬ q.1 = 6 → cf = q.2.2.2.1.2.1 ∧ tf = q.2.2.2.1.2.2) ∧ (q.1 < 4 → HsC x a hb q.2.2.2.2.2)
theorem CnC.row {x y : Nat → Nat → Int32} {a : Nat} {q : A_cn} (h : CnC x a q) (hr : ∀ b, a ≤ b → b < a + 20 → y b = x b) : CnC y a q := by
  obtain ⟨hb, cf, tf, h1, h2, h3⟩ := h
  exact ⟨hb, cf, tf, h1.row (fun b p1 p2 => hr b p1 (by omega)), h2, fun z => (h3 z).row (fun b p1 p2 => hr b (by omega) p2)⟩
/-- what a handshake's numbers and texts keep to -/
def HsOk : Nat → Nat → A_hs → Prop
  | s, w, (0, _, _, _, _, _, _) => s ≤ 1 ∧ w = 0
  | s, w, (1, _, _, _, _, _, _) => s = 1 ∧ w = 5
  | s, w, (2, n1, n2, n3, _, _, _) => (s = 1 ∧ w = 5) ∧ 1 ≤ n1 ∧ n1 ≤ 4 ∧ n2 ≤ 1 ∧ n3 ≤ 1
  | s, w, (3, n1, n2, n3, _, l1, l2) => (s = 2 ∧ w = 5) ∧ n1 ≤ 4 ∧ (∀ v ∈ l1, isB v) ∧ (∀ v ∈ l2, isB v) ∧ l1.length ≤ 6 ∧ l2.length ≤ 6 ∧ (n1 < 2 → l1 = []) ∧ (n1 < 4 → l2 = []) ∧ (n1 = 2 → 1 ≤ n2 ∧ l1.length + n2 = n3 ∧ n3 ≤ 6) ∧ (3 ≤ n1 → l1.length = n3) ∧ (n1 = 4 → 1 ≤ n2 ∧ l2.length + n2 ≤ 6)
  | s, w, (4, n1, n2, n3, n4, l1, _) => (s = 3 ∧ w = 5) ∧ n1 ≤ 7 ∧ n3 ≤ 1 ∧ n4 < 256 ∧ (∀ v ∈ l1, isB v) ∧ l1.length ≤ 15 ∧ (n1 < 4 → n3 = 0) ∧ (n1 = 4 → n3 = 1) ∧ (n1 ≤ 4 → l1 = []) ∧ (n1 = 5 → 1 ≤ n2 ∧ n2 + l1.length ≤ 15 ∧ (n3 = 0 → l1.length + n2 = 4)) ∧ (6 ≤ n1 → n3 = 0 → l1.length = 4) ∧ (6 ≤ n1 → n3 = 1 → ¬ l1 = []) ∧ (n1 = 7 → n2 < 256)
  | s, w, (5, n1, _, _, _, _, _) => (s = 1 ∧ w = 67) ∧ 1 ≤ n1 ∧ n1 ≤ 7
  | s, w, (6, _, _, _, _, l1, _) => (s = 1 ∧ w = 67) ∧ (∀ v ∈ l1, isB v) ∧ l1.length ≤ 15
  | s, w, (7, n1, n2, _, _, l1, _) => (s = 1 ∧ w = 67) ∧ (∀ v ∈ l1, isB v) ∧ l1.length ≤ 15 ∧ n1 ≤ 5 ∧ n2 < 10 ^ n1
  | s, w, (8, n1, n2, _, _, l1, _) => (s = 1 ∧ w = 67) ∧ (∀ v ∈ l1, isB v) ∧ l1.length ≤ 15 ∧ n1 ≤ 5 ∧ n2 ≤ 65535
  | _, _, _ => False
def CnOk (q : A_cn) : Prop := q.1 ≤ 6 ∧ (q.2.1 < most q.1) ∧ (q.2.2.1.1.length ≤ 16 ∧ q.2.2.1.2.length ≤ 16 ∧ q.2.2.2.1.1 < 256) ∧ (q.1 = 0 → q = cFree) ∧ (q.1 = 6 → q.2.1 = 0 ∧ q.2.2.1.1 = []) ∧ (q.1 < 4 → q.2.2.1.1 = [] ∧ q.2.2.2.2.1 = (0, 0, 0) ∧ HsOk q.1 q.2.2.2.1.1 q.2.2.2.2.2) ∧ (q.1 < 5 → q.2.2.1.2.length ≤ 4 ∧ q.2.2.2.1.2 = (false, false)) ∧ (q.1 = 1 → q.2.2.1.2 = []) ∧ (q.1 = 2 → q.2.2.1.2.length ≤ 2) ∧ (q.1 = 4 ∨ q.1 = 5 → q.2.2.2.1.1 = 5 ∨ q.2.2.2.1.1 = 67)
end PU11
