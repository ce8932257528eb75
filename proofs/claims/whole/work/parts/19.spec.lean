/-! a value by a condition: one road behind the two -/
section TN
variable {X : VX} {cc : ByteArray} {y : MethodName} {ret : Option FieldType} {rm : Room} {post : Option Value → HS → HI → HJ → Prop} {nc ns pc : Nat} {lv : List (Option Value)} {st : List Value} {S : HS} {I : HI} {J : HJ}
theorem V_tern_if_eq {vt vf : Int32} {pm : Nat} (C : Cx X cc y ret rm) {x : Int32} {off : Int} (tgt : Nat) (hd : decode cc pc = .ok (.ifCond .eq off, 3)) (ht : (pc : Int) + off = (tgt : Int)) (bt : x = 0 → V X post nc ns pm lv (.int vt :: st) S I J → V X post nc ns tgt lv st S I J) (bf : ¬ (x = 0) → V X post nc ns pm lv (.int vf :: st) S I J → V X post nc ns (pc + 3) lv st S I J) (k : V X post nc ns pm lv (.int (if x = 0 then vt else vf) :: st) S I J) : V X post nc ns pc lv (.int x :: st) S I J := V_if_eq C tgt hd ht (fun h => bt h (by rw [if_pos h] at k; exact k)) (fun h => bf h (by rw [if_neg h] at k; exact k))
theorem V_tern_icmp_eq {vt vf : Int32} {pm : Nat} (C : Cx X cc y ret rm) {x y2 : Int32} {off : Int} (tgt : Nat) (hd : decode cc pc = .ok (.if_icmp .eq off, 3)) (ht : (pc : Int) + off = (tgt : Int)) (bt : x = y2 → V X post nc ns pm lv (.int vt :: st) S I J → V X post nc ns tgt lv st S I J) (bf : ¬ (x = y2) → V X post nc ns pm lv (.int vf :: st) S I J → V X post nc ns (pc + 3) lv st S I J) (k : V X post nc ns pm lv (.int (if x = y2 then vt else vf) :: st) S I J) : V X post nc ns pc lv (.int y2 :: .int x :: st) S I J := V_icmp_eq C tgt hd ht (fun h => bt h (by rw [if_pos h] at k; exact k)) (fun h => bf h (by rw [if_neg h] at k; exact k))
theorem V_tern_if_lt {vt vf : Int32} {pm : Nat} (C : Cx X cc y ret rm) {x : Int32} {off : Int} (tgt : Nat) (hd : decode cc pc = .ok (.ifCond .lt off, 3)) (ht : (pc : Int) + off = (tgt : Int)) (bt : x < 0 → V X post nc ns pm lv (.int vt :: st) S I J → V X post nc ns tgt lv st S I J) (bf : ¬ (x < 0) → V X post nc ns pm lv (.int vf :: st) S I J → V X post nc ns (pc + 3) lv st S I J) (k : V X post nc ns pm lv (.int (if x < 0 then vt else vf) :: st) S I J) : V X post nc ns pc lv (.int x :: st) S I J := V_if_lt C tgt hd ht (fun h => bt h (by rw [if_pos h] at k; exact k)) (fun h => bf h (by rw [if_neg h] at k; exact k))
theorem V_tern_icmp_lt {vt vf : Int32} {pm : Nat} (C : Cx X cc y ret rm) {x y2 : Int32} {off : Int} (tgt : Nat) (hd : decode cc pc = .ok (.if_icmp .lt off, 3)) (ht : (pc : Int) + off = (tgt : Int)) (bt : x < y2 → V X post nc ns pm lv (.int vt :: st) S I J → V X post nc ns tgt lv st S I J) (bf : ¬ (x < y2) → V X post nc ns pm lv (.int vf :: st) S I J → V X post nc ns (pc + 3) lv st S I J) (k : V X post nc ns pm lv (.int (if x < y2 then vt else vf) :: st) S I J) : V X post nc ns pc lv (.int y2 :: .int x :: st) S I J := V_icmp_lt C tgt hd ht (fun h => bt h (by rw [if_pos h] at k; exact k)) (fun h => bf h (by rw [if_neg h] at k; exact k))
theorem V_tern_if_ge {vt vf : Int32} {pm : Nat} (C : Cx X cc y ret rm) {x : Int32} {off : Int} (tgt : Nat) (hd : decode cc pc = .ok (.ifCond .ge off, 3)) (ht : (pc : Int) + off = (tgt : Int)) (bt : 0 ≤ x → V X post nc ns pm lv (.int vt :: st) S I J → V X post nc ns tgt lv st S I J) (bf : ¬ (0 ≤ x) → V X post nc ns pm lv (.int vf :: st) S I J → V X post nc ns (pc + 3) lv st S I J) (k : V X post nc ns pm lv (.int (if 0 ≤ x then vt else vf) :: st) S I J) : V X post nc ns pc lv (.int x :: st) S I J := V_if_ge C tgt hd ht (fun h => bt h (by rw [if_pos h] at k; exact k)) (fun h => bf h (by rw [if_neg h] at k; exact k))
theorem V_tern_icmp_ge {vt vf : Int32} {pm : Nat} (C : Cx X cc y ret rm) {x y2 : Int32} {off : Int} (tgt : Nat) (hd : decode cc pc = .ok (.if_icmp .ge off, 3)) (ht : (pc : Int) + off = (tgt : Int)) (bt : y2 ≤ x → V X post nc ns pm lv (.int vt :: st) S I J → V X post nc ns tgt lv st S I J) (bf : ¬ (y2 ≤ x) → V X post nc ns pm lv (.int vf :: st) S I J → V X post nc ns (pc + 3) lv st S I J) (k : V X post nc ns pm lv (.int (if y2 ≤ x then vt else vf) :: st) S I J) : V X post nc ns pc lv (.int y2 :: .int x :: st) S I J := V_icmp_ge C tgt hd ht (fun h => bt h (by rw [if_pos h] at k; exact k)) (fun h => bf h (by rw [if_neg h] at k; exact k))
theorem V_tern_if_gt {vt vf : Int32} {pm : Nat} (C : Cx X cc y ret rm) {x : Int32} {off : Int} (tgt : Nat) (hd : decode cc pc = .ok (.ifCond .gt off, 3)) (ht : (pc : Int) + off = (tgt : Int)) (bt : 0 < x → V X post nc ns pm lv (.int vt :: st) S I J → V X post nc ns tgt lv st S I J) (bf : ¬ (0 < x) → V X post nc ns pm lv (.int vf :: st) S I J → V X post nc ns (pc + 3) lv st S I J) (k : V X post nc ns pm lv (.int (if 0 < x then vt else vf) :: st) S I J) : V X post nc ns pc lv (.int x :: st) S I J := V_if_gt C tgt hd ht (fun h => bt h (by rw [if_pos h] at k; exact k)) (fun h => bf h (by rw [if_neg h] at k; exact k))
theorem V_tern_icmp_gt {vt vf : Int32} {pm : Nat} (C : Cx X cc y ret rm) {x y2 : Int32} {off : Int} (tgt : Nat) (hd : decode cc pc = .ok (.if_icmp .gt off, 3)) (ht : (pc : Int) + off = (tgt : Int)) (bt : y2 < x → V X post nc ns pm lv (.int vt :: st) S I J → V X post nc ns tgt lv st S I J) (bf : ¬ (y2 < x) → V X post nc ns pm lv (.int vf :: st) S I J → V X post nc ns (pc + 3) lv st S I J) (k : V X post nc ns pm lv (.int (if y2 < x then vt else vf) :: st) S I J) : V X post nc ns pc lv (.int y2 :: .int x :: st) S I J := V_icmp_gt C tgt hd ht (fun h => bt h (by rw [if_pos h] at k; exact k)) (fun h => bf h (by rw [if_neg h] at k; exact k))
theorem V_tern_if_le {vt vf : Int32} {pm : Nat} (C : Cx X cc y ret rm) {x : Int32} {off : Int} (tgt : Nat) (hd : decode cc pc = .ok (.ifCond .le off, 3)) (ht : (pc : Int) + off = (tgt : Int)) (bt : x ≤ 0 → V X post nc ns pm lv (.int vt :: st) S I J → V X post nc ns tgt lv st S I J) (bf : ¬ (x ≤ 0) → V X post nc ns pm lv (.int vf :: st) S I J → V X post nc ns (pc + 3) lv st S I J) (k : V X post nc ns pm lv (.int (if x ≤ 0 then vt else vf) :: st) S I J) : V X post nc ns pc lv (.int x :: st) S I J := V_if_le C tgt hd ht (fun h => bt h (by rw [if_pos h] at k; exact k)) (fun h => bf h (by rw [if_neg h] at k; exact k))
theorem V_tern_icmp_le {vt vf : Int32} {pm : Nat} (C : Cx X cc y ret rm) {x y2 : Int32} {off : Int} (tgt : Nat) (hd : decode cc pc = .ok (.if_icmp .le off, 3)) (ht : (pc : Int) + off = (tgt : Int)) (bt : x ≤ y2 → V X post nc ns pm lv (.int vt :: st) S I J → V X post nc ns tgt lv st S I J) (bf : ¬ (x ≤ y2) → V X post nc ns pm lv (.int vf :: st) S I J → V X post nc ns (pc + 3) lv st S I J) (k : V X post nc ns pm lv (.int (if x ≤ y2 then vt else vf) :: st) S I J) : V X post nc ns pc lv (.int y2 :: .int x :: st) S I J := V_icmp_le C tgt hd ht (fun h => bt h (by rw [if_pos h] at k; exact k)) (fun h => bf h (by rw [if_neg h] at k; exact k))
theorem V_tern_if_ne {vt vf : Int32} {pm : Nat} (C : Cx X cc y ret rm) {x : Int32} {off : Int} (tgt : Nat) (hd : decode cc pc = .ok (.ifCond .ne off, 3)) (ht : (pc : Int) + off = (tgt : Int)) (bt : x = 0 → V X post nc ns pm lv (.int vt :: st) S I J → V X post nc ns (pc + 3) lv st S I J) (bf : ¬ (x = 0) → V X post nc ns pm lv (.int vf :: st) S I J → V X post nc ns tgt lv st S I J) (k : V X post nc ns pm lv (.int (if x = 0 then vt else vf) :: st) S I J) : V X post nc ns pc lv (.int x :: st) S I J := V_if_ne C tgt hd ht (fun h => bf h (by rw [if_neg h] at k; exact k)) (fun h => bt h (by rw [if_pos h] at k; exact k))
theorem V_tern_icmp_ne {vt vf : Int32} {pm : Nat} (C : Cx X cc y ret rm) {x y2 : Int32} {off : Int} (tgt : Nat) (hd : decode cc pc = .ok (.if_icmp .ne off, 3)) (ht : (pc : Int) + off = (tgt : Int)) (bt : x = y2 → V X post nc ns pm lv (.int vt :: st) S I J → V X post nc ns (pc + 3) lv st S I J) (bf : ¬ (x = y2) → V X post nc ns pm lv (.int vf :: st) S I J → V X post nc ns tgt lv st S I J) (k : V X post nc ns pm lv (.int (if x = y2 then vt else vf) :: st) S I J) : V X post nc ns pc lv (.int y2 :: .int x :: st) S I J := V_icmp_ne C tgt hd ht (fun h => bf h (by rw [if_neg h] at k; exact k)) (fun h => bt h (by rw [if_pos h] at k; exact k))
end TN
/-! a disk as a value: row 0: rings, step, pull, seed, -, -, came (fallen and thrown go beside it, as longs); 1 gas, 2 warm, 3 period, 4 dust (5 a ring); of lumps 5 state, 6 ring, 7 gas, 8 times, 9 birth, 10 eater, 11 dust by rings (12 a lump) -/
abbrev DV : Type := Nat → Nat → Int32
def tCnt (f : Nat → Int32) : Nat → Int32
  | 0 => 0
  | n + 1 => tCnt f n + (if f n = 0 then 1 else 0)
def cmD (D : DV) : Nat := (D 0 6).toNatClampNeg
def rgD (D : DV) : Nat := (D 0 0).toNatClampNeg
def aD (D : DV) (r : Nat) : Int32 := iSum (D 4) (5 * r) 5
def thD (D : DV) : Int32 := tCnt (D 5) (cmD D)
def wD (D : DV) (u : Nat) : Int32 := iSum (D 11) (12 * u) 12 + D 7 u
/-- what a law of a ring is told -/
def fR (D : DV) (r : Nat) (s d w : Int32) : Nat → Int32
  | 0 => nI r
  | 1 => s
  | 2 => D 1 r
  | 3 => D 2 r
  | 4 => d
  | 5 => aD D r
  | 6 => w
  | 7 => D 0 1
  | 8 => thD D
  | _ => 0
def fDu (D : DV) (r s : Nat) : Nat → Int32 := fR D r (nI s) (D 4 (5 * r + s)) 0
def rg (D : DV) (u : Nat) : Nat := (D 6 u).toNatClampNeg
def fLu (D : DV) (u : Nat) : Nat → Int32 := fR D (rg D u) 0 0 (wD D u)
def inD (D : DV) (r : Nat) : Int32 := if nI r = 0 then D 0 2 else D 1 (r - 1)
def outD (D : DV) (r : Nat) : Int32 := if nI r = D 0 0 - nI 1 then nI 0 else D 1 (r + 1)
def wayD (D : DV) (r : Nat) : Int32 := if outD D r ≤ (if inD D r ≤ D 1 r then D 1 r else inD D r) then (if inD D r ≤ D 1 r then nI 0 else -1) else nI 1
/-- the disk b of the reference -/
def refD (I : HI) (J : HJ) (b : Nat) : DV := fun c k => match c with
  | 0 => (match k with
    | 0 => I 1027 b
    | 1 => I 1034 b
    | 2 => I 1032 b
    | 3 => I 1033 b
    | 6 => I 1037 b
    | _ => 0)
  | 1 => if k < 12 then I 1028 (12 * b + k) else 0
  | 2 => if k < 12 then I 1029 (12 * b + k) else 0
  | 3 => if k < 12 then I 1030 (12 * b + k) else 0
  | 4 => if k < 60 then I 1031 (60 * b + k) else 0
  | 5 => if k < (I 1037 b).toNatClampNeg then I 1038 (30 * b + k) else 0
  | 6 => if k < (I 1037 b).toNatClampNeg then I 1039 (30 * b + k) else 0
  | 7 => if k < (I 1037 b).toNatClampNeg then I 1040 (30 * b + k) else 0
  | 8 => if k < (I 1037 b).toNatClampNeg then I 1041 (30 * b + k) else 0
  | 9 => if k < (I 1037 b).toNatClampNeg then I 1042 (30 * b + k) else 0
  | 10 => if k < (I 1037 b).toNatClampNeg then I 1043 (30 * b + k) else 0
  | 11 => if k < 12 * (I 1037 b).toNatClampNeg then I 1044 (360 * b + k) else 0
  | _ => 0
theorem refD_congr {I I' : HI} {J J' : HJ} {b : Nat} (hI : ∀ a, 1027 ≤ a → a ≤ 1044 → I' a = I a) : refD I' J' b = refD I J b := by
  funext c k
  simp only [refD, hI 1027 (by omega) (by omega), hI 1028 (by omega) (by omega), hI 1029 (by omega) (by omega), hI 1030 (by omega) (by omega), hI 1031 (by omega) (by omega), hI 1032 (by omega) (by omega), hI 1033 (by omega) (by omega), hI 1034 (by omega) (by omega), hI 1037 (by omega) (by omega), hI 1038 (by omega) (by omega), hI 1039 (by omega) (by omega), hI 1040 (by omega) (by omega), hI 1041 (by omega) (by omega), hI 1042 (by omega) (by omega), hI 1043 (by omega) (by omega), hI 1044 (by omega) (by omega)]
theorem iSum_congr {f g : Nat → Int32} {k m : Nat} : ∀ {n : Nat}, (∀ i, i < n → f (k + i) = g (m + i)) → iSum f k n = iSum g m n
  | 0, _ => rfl
  | n + 1, h => by
    rw [iSum, iSum, iSum_congr (fun i hi => h i (by omega)), h n (by omega)]
theorem tCnt_congr {f g : Nat → Int32} : ∀ {n : Nat}, (∀ i, i < n → f i = g i) → tCnt f n = tCnt g n
  | 0, _ => rfl
  | n + 1, h => by rw [tCnt, tCnt, tCnt_congr (fun i hi => h i (by omega)), h n (by omega)]
theorem up2_up {α : Type} (f : Nat → Nat → α) (a j : Nat) (g : Nat → α) (v : α) : up2 (va_up f a g) a j v = va_up f a (va_up g j v) := by
  funext x
  by_cases h : x = a
  · subst h; simp only [up2, va_up_self]
  · simp only [up2, va_up_ne _ _ h]
theorem up2_as {α : Type} (f : Nat → Nat → α) (a j : Nat) (v : α) : up2 f a j v = va_up f a (va_up (f a) j v) := rfl
theorem va_up_up {α : Type} (f : Nat → α) (a : Nat) (g h : α) : va_up (va_up f a g) a h = va_up f a h := by
  funext x
  by_cases e : x = a
  · subst e; simp only [va_up_self]
  · simp only [va_up_ne _ _ e]
/-- nine places, the rest as it was -/
def kn (o f : Nat → Int32) : Nat → Int32 := fun j => if j < 9 then f j else o j
theorem kn_eq {o f g : Nat → Int32} (h : ∀ j, j < 9 → f j = g j) (ho : ∀ j, 9 ≤ j → f j = o j) : f = kn o g := by
  funext j
  unfold kn
  by_cases e : j < 9
  · rw [if_pos e]; exact h j e
  · rw [if_neg e]; exact ho j (by omega)
theorem lt9 {p : Nat → Prop} (h0 : p 0) (h1 : p 1) (h2 : p 2) (h3 : p 3) (h4 : p 4) (h5 : p 5) (h6 : p 6) (h7 : p 7) (h8 : p 8) : ∀ j, j < 9 → p j := by
  intro j hj
  match j, hj with
  | 0, _ => exact h0
  | 1, _ => exact h1
  | 2, _ => exact h2
  | 3, _ => exact h3
  | 4, _ => exact h4
  | 5, _ => exact h5
  | 6, _ => exact h6
  | 7, _ => exact h7
  | 8, _ => exact h8
theorem va_up_ge {f : Nat → Int32} {j k : Nat} {v : Int32} (hk : k < 9) (hj : 9 ≤ j) : va_up f k v j = f j := va_up_ne _ _ (by omega)
theorem refD_k {I : HI} {J : HJ} {b j : Nat} {v : Int32} : refD (up2 I 1023 j v) J b = refD I J b := refD_congr (fun a h1 h2 => up2_ne _ _ _ (by omega))
theorem refD_kv {I : HI} {J : HJ} {b : Nat} {f : Nat → Int32} : refD (va_up I 1023 f) J b = refD I J b := refD_congr (fun a h1 h2 => va_up_ne _ _ (by omega))
theorem refD_p {I : HI} {J : HJ} {b : Nat} {f : Nat → Int32} : refD (va_up I 1024 f) J b = refD I J b := refD_congr (fun a h1 h2 => va_up_ne _ _ (by omega))
set_option maxRecDepth 10000 in
theorem k_nine (I : HI) {f : Nat → Int32} {v0 v1 v2 v3 v4 v5 v6 v7 v8 : Int32} (h0 : v0 = f 0) (h1 : v1 = f 1) (h2 : v2 = f 2) (h3 : v3 = f 3) (h4 : v4 = f 4) (h5 : v5 = f 5) (h6 : v6 = f 6) (h7 : v7 = f 7) (h8 : v8 = f 8) : up2 (up2 (up2 (up2 (up2 (up2 (up2 (up2 (up2 I 1023 0 v0) 1023 1 v1) 1023 2 v2) 1023 3 v3) 1023 4 v4) 1023 5 v5) 1023 6 v6) 1023 7 v7) 1023 8 v8 = va_up I 1023 (kn (I 1023) f) := by
  rw [up2_as I 1023 0 v0]
  simp only [up2_up]
  refine congrArg (va_up I 1023) (kn_eq (lt9 h0 h1 h2 h3 h4 h5 h6 h7 h8) (fun j hj => ?_))
  simp only [va_up_ge (show (0 : Nat) < 9 by omega) hj, va_up_ge (show (1 : Nat) < 9 by omega) hj, va_up_ge (show (2 : Nat) < 9 by omega) hj, va_up_ge (show (3 : Nat) < 9 by omega) hj, va_up_ge (show (4 : Nat) < 9 by omega) hj, va_up_ge (show (5 : Nat) < 9 by omega) hj, va_up_ge (show (6 : Nat) < 9 by omega) hj, va_up_ge (show (7 : Nat) < 9 by omega) hj, va_up_ge (show (8 : Nat) < 9 by omega) hj]
