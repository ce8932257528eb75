/-! objects with their rows: the row of field x of the object at key a has key a + 1 + x -/
def arrOf (ci x : Nat) : Option (Nat × Nat) := match ci, x with
  | 0, 5 => some (10, 9) | 0, 6 => some (10, 60) | 0, 7 => some (10, 12)
  | 1, 8 => some (10, 12) | 1, 9 => some (10, 12) | 1, 10 => some (10, 12) | 1, 11 => some (10, 60) | 1, 12 => some (14, 30)
  | 2, 3 => some (10, 24) | 2, 4 => some (10, 24) | 2, 5 => some (10, 24) | 2, 6 => some (10, 25) | 2, 7 => some (10, 24) | 2, 8 => some (10, 9) | 2, 9 => some (10, 9) | 2, 10 => some (10, 1000) | 2, 11 => some (10, 32)
  | 3, 7 => some (10, 12)
  | 5, 1 => some (9, 1000)
  | 6, 2 => some (13, 6) | 6, 9 => some (10, 10) | 6, 10 => some (10, 10)
  | 7, 1 => some (10, 1000) | 7, 4 => some (10, 1002) | 7, 5 => some (10, 1002) | 7, 6 => some (11, 1002) | 7, 9 => some (11, 23) | 7, 12 => some (10, 2) | 7, 13 => some (10, 48) | 7, 14 => some (10, 48) | 7, 15 => some (10, 48) | 7, 16 => some (10, 48) | 7, 17 => some (10, 48) | 7, 18 => some (10, 2) | 7, 20 => some (10, 2200) | 7, 21 => some (10, 2200) | 7, 22 => some (10, 9) | 7, 23 => some (10, 1100)
  | 7, 26 => some (10, 8) | 7, 27 => some (10, 96) | 7, 28 => some (10, 96) | 7, 29 => some (10, 96) | 7, 30 => some (10, 480) | 7, 31 => some (10, 8) | 7, 32 => some (10, 8) | 7, 33 => some (10, 8) | 7, 34 => some (11, 8) | 7, 35 => some (11, 8) | 7, 36 => some (10, 8) | 7, 37 => some (10, 240) | 7, 38 => some (10, 240) | 7, 39 => some (10, 240) | 7, 40 => some (10, 240) | 7, 41 => some (10, 240) | 7, 42 => some (10, 240) | 7, 43 => some (10, 2880)
  | 7, 46 => some (10, 60) | 7, 47 => some (10, 12) | 7, 49 => some (10, 10) | 7, 50 => some (10, 10) | 7, 51 => some (12, 6)
  | _, _ => none
def Ob (S : HS) (ci a : Nat) : Prop := S.1 a = ci + 1 ∧ ∀ x kd ln, arrOf ci x = some (kd, ln) → S.2.2 a x = some (a + 1 + x) ∧ S.1 (a + 1 + x) = kd ∧ S.2.1 (a + 1 + x) = ln
theorem ob_K {S : HS} {ci a : Nat} (h : Ob S ci a) : S.1 a = ci + 1 := h.1
theorem ob_R {S : HS} {ci a : Nat} (h : Ob S ci a) (x : Nat) {kd ln : Nat} (e : arrOf ci x = some (kd, ln)) : S.2.2 a x = some (a + 1 + x) := (h.2 x kd ln e).1
theorem ob_A {S : HS} {ci a : Nat} (h : Ob S ci a) (x : Nat) {kd ln : Nat} (e : arrOf ci x = some (kd, ln)) : S.1 (a + 1 + x) = kd := (h.2 x kd ln e).2.1
theorem ob_A2 {S : HS} {ci a : Nat} (h : Ob S ci a) (x : Nat) {kd ln : Nat} (e : arrOf ci x = some (kd + 13, ln)) (hk : kd ≤ 1 := by decide) : S.1 (a + 1 + x) = 13 ∨ S.1 (a + 1 + x) = 14 := by
  have := (h.2 x _ ln e).2.1
  omega
theorem ob_N {S : HS} {ci a : Nat} (h : Ob S ci a) (x : Nat) {kd ln : Nat} (e : arrOf ci x = some (kd, ln)) : S.2.1 (a + 1 + x) = ln := (h.2 x kd ln e).2.2
/-- the room of a method that calls n deep and makes nothing -/
def rmk (n : Nat) : Room := { frames := n, cells := 0, slots := 0, locals := 60 * n }
/-- a method that makes nothing and changes no reference -/
abbrev Mn (l : Launch) (y : MethodName) (cc : ByteArray) (nL : Nat) (ret : Option FieldType) (n : Nat) (As : List Value) (S : HS) (I : HI) (J : HJ) (q : Option Value → HI → HJ → Prop) : Prop := Mt l y cc nL ret (rmk n) (fun _ => True) As S I J (fun v S' I' J' => S' = S ∧ q v I' J')
/-- a sum of n places from k on -/
def iSum (f : Nat → Int32) (k : Nat) : Nat → Int32
  | 0 => 0
  | n + 1 => iSum f k n + f (k + n)
