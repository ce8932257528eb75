/-! objects with their rows: the row of field x of the object at key a has key a + 1 + x -/
def arrOf (ci x : Nat) : Option (Nat × Nat) := match ci, x with
  | 0, 5 => some (10, 9) | 0, 6 => some (10, 60) | 0, 7 => some (10, 12)
  | 1, 8 => some (10, 12) | 1, 9 => some (10, 12) | 1, 10 => some (10, 12) | 1, 11 => some (10, 60) | 1, 12 => some (14, 30)
  | 2, 3 => some (10, 24) | 2, 4 => some (10, 24) | 2, 5 => some (10, 24) | 2, 6 => some (10, 25) | 2, 7 => some (10, 24) | 2, 8 => some (10, 9) | 2, 9 => some (10, 9) | 2, 10 => some (10, 1000) | 2, 11 => some (10, 32)
  | 3, 7 => some (10, 12)
  | 5, 1 => some (9, 1000)
  | 6, 2 => some (13, 6) | 6, 9 => some (10, 10) | 6, 10 => some (10, 10)
  | 7, 1 => some (10, 1000) | 7, 4 => some (10, 1002) | 7, 5 => some (10, 1002) | 7, 6 => some (11, 1002) | 7, 9 => some (11, 23) | 7, 12 => some (10, 2) | 7, 13 => some (10, 48) | 7, 14 => some (10, 48) | 7, 15 => some (10, 48) | 7, 16 => some (10, 48) | 7, 17 => some (10, 48) | 7, 18 => some (10, 2) | 7, 20 => some (10, 2200) | 7, 21 => some (10, 2200) | 7, 22 => some (10, 9) | 7, 23 => some (10, 1100)
  | 7, 26 => some (10, 8) | 7, 27 => some (10, 96) | 7, 28 => some (10, 96) | 7, 29 => some (10, 96) | 7, 30 => some (10, 480) | 7, 31 => some (10, 8) | 7, 32 => some (10, 8) | 7, 33 => some (10, 8) | 7, 34 => some (11, 8) | 7, 35 => some (11, 8) | 7, 36 => some (10, 8) | 7, 37 => some (10, 240) | 7, 38 => some (10, 240) | 7, 39 => some (10, 240) | 7, 40 => some (10, 240) | 7, 41 => some (10, 240) | 7, 42 => some (10, 240) | 7, 43 => some (10, 2880)
  | 7, 46 => some (10, 60) | 7, 47 => some (10, 12) | 7, 49 => some (10, 10) | 7, 50 => some (10, 10) | 7, 51 => some (12, 6)
  | _, _ => none
def Ob (S : HS) (ci a : Nat) : Prop := S.1 a = ci + 1 ∧ ∀ x kd ln, arrOf ci x = some (kd, ln) → S.2.2 a x = some (a + 1 + x) ∧ S.1 (a + 1 + x) = kd ∧ S.2.1 (a + 1 + x) = ln
theorem ob_K {S : HS} {ci a : Nat} (h : Ob S ci a) : S.1 a = ci + 1 := h.1
theorem ob_R {S : HS} {ci a : Nat} (h : Ob S ci a) (x k : Nat) {kd ln : Nat} (e : arrOf ci x = some (kd, ln)) (hk : a + 1 + x = k) : S.2.2 a x = some k := hk ▸ (h.2 x kd ln e).1
theorem ob_A {S : HS} {ci a : Nat} (h : Ob S ci a) (x k : Nat) {kd ln : Nat} (e : arrOf ci x = some (kd, ln)) (hk : a + 1 + x = k) : S.1 k = kd := hk ▸ (h.2 x kd ln e).2.1
theorem ob_A2 {S : HS} {ci a : Nat} (h : Ob S ci a) (x k : Nat) {kd ln : Nat} (e : arrOf ci x = some (kd + 13, ln)) (hk : a + 1 + x = k) (hd : kd ≤ 1 := by decide) : S.1 k = 13 ∨ S.1 k = 14 := by
  have := (h.2 x _ ln e).2.1
  rw [hk] at this
  omega
theorem ob_N {S : HS} {ci a : Nat} (h : Ob S ci a) (x k : Nat) {kd ln : Nat} (e : arrOf ci x = some (kd, ln)) (hk : a + 1 + x = k) : S.2.1 k = ln := hk ▸ (h.2 x kd ln e).2.2
/-- the room of a method that calls n deep and makes nothing -/
def rmk (n : Nat) : Room := { frames := n, cells := 0, slots := 0, locals := 60 * n }
/-- a method that makes nothing and changes no reference -/
abbrev Mn (l : Launch) (y : MethodName) (cc : ByteArray) (nL : Nat) (ret : Option FieldType) (n : Nat) (As : List Value) (S : HS) (I : HI) (J : HJ) (q : Option Value → HI → HJ → Prop) : Prop := Mt l y cc nL ret (rmk n) (fun _ => True) As S I J (fun v S' I' J' => S' = S ∧ q v I' J')
/-- a sum of n places from k on -/
def iSum (f : Nat → Int32) (k : Nat) : Nat → Int32
  | 0 => 0
  | n + 1 => iSum f k n + f (k + n)
theorem Mn.of {l : Launch} {y : MethodName} {cc : ByteArray} {nL : Nat} {ret : Option FieldType} {n : Nat} {As : List Value} {S : HS} {I : HI} {J : HJ} {q : Option Value → HI → HJ → Prop} (hy : plainName y.cls = true) (hl : ∀ ad, (lg_sl (As.map (vv ad))).length ≤ nL)
    (body : ∀ (X : VX) (P : Option Value → HS → HI → HJ → Prop), (∀ v I' J', q v I' J' → P v S I' J') → (∀ k, k < nL → k < xn X) → Cx X cc y ret (rmk n) → V X P 0 0 0 (lvs nL As) [] S I J) : Mn l y cc nL ret n As S I J q :=
  Mt.of hy hl (fun _ _ => trivial) (fun X _ hN _ C => body X _ (fun v I' J' h => ⟨rfl, h⟩) (fun k hk => by rw [hN]; exact hk) C)
section IX
variable {X : VX} {cc : ByteArray} {y : MethodName} {ret : Option FieldType} {rm : Room} {post : Option Value → HS → HI → HJ → Prop} {nc ns pc : Nat} {lv : List (Option Value)} {st : List Value} {S : HS} {I : HI} {J : HJ}
theorem nI_p1 (i : Nat) : nI i + Int32.ofInt 1 = nI (i + 1) := by rw [show Int32.ofInt 1 = 1 by decide]; exact nI_1 i
theorem nI_m1 (i : Nat) : nI (i + 1) + Int32.ofInt (-1) = nI i := by rw [show Int32.ofInt (-1) = -1 by decide]; exact pk_m1 i
theorem V_iincU (C : Cx X cc y ret rm) {n i : Nat} (hd : decode cc pc = .ok (.iinc n 1, 3)) (hl : lv[n]? = some (some (.int (nI i)))) (hn : n < xn X) (k : V X post nc ns (pc + 3) (st1 lv n (.int (nI (i + 1)))) st S I J) : V X post nc ns pc lv st S I J := V_iinc C hd hl hn (by rw [nI_p1]; exact k)
theorem V_iincD (C : Cx X cc y ret rm) {n i : Nat} (hd : decode cc pc = .ok (.iinc n (-1), 3)) (hl : lv[n]? = some (some (.int (nI (i + 1))))) (hn : n < xn X) (k : V X post nc ns (pc + 3) (st1 lv n (.int (nI i))) st S I J) : V X post nc ns pc lv st S I J := V_iinc C hd hl hn (by rw [nI_m1]; exact k)
end IX
