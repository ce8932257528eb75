/-! the spec of a step's parts on a disk's value; what the reference's writes do to it -/
section SP1
def prt (a n : Int32) : Int32 := (a.toInt64 * n.toInt64 / 100).toInt32
def sdN (x : Int32) : Int32 := (x.toInt64 * 1103515245 + 12345 - (x.toInt64 * 1103515245 + 12345) / 2147483648 * 2147483648).toInt32
def lkN (x n luck : Int32) : Int32 := n + (x / 65536 - x / 65536 / (nI 2 * luck + nI 1) * (nI 2 * luck + nI 1)) - luck
def clN (n : Int32) : Int32 := if 0 ≤ n then (if n ≤ nI 100 then n else nI 100) else nI 0
def mvD (D : DV) (k k2 : Nat) (p : Int32) : DV := up2 (up2 D 4 k (D 4 k - p)) 4 k2 ((up2 D 4 k (D 4 k - p)) 4 k2 + p)
abbrev LW : Type := Nat → (Nat → Int32) → Int32
def stickAt (lw : LW) (luck : Int32) (D : DV) (r s : Nat) : DV :=
  if lw 0 (fDu D r s) < 0 then D
  else if luck ≤ 0 then (if lw 0 (fDu D r s) ≤ 0 then D else mvD D (5 * r + s) (5 * r + s + 1) (prt (D 4 (5 * r + s)) (lw 0 (fDu D r s))))
  else if clN (lkN (sdN (D 0 3)) (lw 0 (fDu D r s)) luck) ≤ 0 then up2 D 0 3 (sdN (D 0 3))
  else mvD (up2 D 0 3 (sdN (D 0 3))) (5 * r + s) (5 * r + s + 1) (prt (D 4 (5 * r + s)) (clN (lkN (sdN (D 0 3)) (lw 0 (fDu D r s)) luck)))
/-- of a ring the sizes below m, from the largest on -/
def stickR (lw : LW) (luck : Int32) (r : Nat) : Nat → DV → DV
  | 0, D => D
  | m + 1, D => stickR lw luck r m (stickAt lw luck D r m)
/-- c rings from r on -/
def stickN (lw : LW) (luck : Int32) : Nat → Nat → DV → DV
  | 0, _, D => D
  | c + 1, r, D => stickN lw luck c (r + 1) (stickR lw luck r 4 D)
def breakAt (lw : LW) (D : DV) (r s : Nat) : DV := if lw 1 (fDu D r s) ≤ 0 then D else mvD D (5 * r + s) (5 * r) (prt (D 4 (5 * r + s)) (lw 1 (fDu D r s)))
def breakR (lw : LW) (r : Nat) : Nat → Nat → DV → DV
  | 0, _, D => D
  | c + 1, s, D => breakR lw r c (s + 1) (breakAt lw D r s)
def breakN (lw : LW) : Nat → Nat → DV → DV
  | 0, _, D => D
  | c + 1, r, D => breakN lw c (r + 1) (breakR lw r 4 1 D)
/-- rings, lumps and where they are stay -/
def kpD (D D' : DV) : Prop := D' 0 0 = D 0 0 ∧ D' 0 6 = D 0 6 ∧ D' 6 = D 6
theorem kpD.re {D : DV} : kpD D D := ⟨Eq.refl _, Eq.refl _, Eq.refl _⟩
theorem kpD.tr {D E F : DV} (h : kpD D E) (g : kpD E F) : kpD D F := ⟨g.1.trans h.1, g.2.1.trans h.2.1, g.2.2.trans h.2.2⟩
theorem kpD.ok {D D' : DV} (h : kpD D D') (hD : rOk D) : rOk D' := by
  obtain ⟨h1, h2, h3⟩ := h
  have e1 : rgD D' = rgD D := by unfold rgD; rw [h1]
  have e2 : cmD D' = cmD D := by unfold cmD; rw [h2]
  unfold rOk rg
  rw [e1, e2, h1, h2, h3]
  exact hD
theorem kpD.mv {D : DV} {k k2 : Nat} {p : Int32} : kpD D (mvD D k k2 p) := ⟨rfl, rfl, rfl⟩
theorem kpD.sd {D : DV} {v : Int32} : kpD D (up2 D 0 3 v) := ⟨rfl, rfl, rfl⟩
theorem stickAt_kp {lw : LW} {luck : Int32} {D : DV} {r s : Nat} : kpD D (stickAt lw luck D r s) := by
  unfold stickAt
  split
  · exact kpD.re
  · split
    · split
      · exact kpD.re
      · exact kpD.mv
    · split
      · exact kpD.sd
      · exact kpD.sd.tr kpD.mv
theorem stickR_kp {lw : LW} {luck : Int32} {r : Nat} : ∀ (m : Nat) (D : DV), kpD D (stickR lw luck r m D)
  | 0, _ => kpD.re
  | m + 1, D => stickAt_kp.tr (stickR_kp m _)
theorem stickN_kp {lw : LW} {luck : Int32} : ∀ (c r : Nat) (D : DV), kpD D (stickN lw luck c r D)
  | 0, _, _ => kpD.re
  | c + 1, r, D => (stickR_kp 4 D).tr (stickN_kp c (r + 1) _)
theorem breakAt_kp {lw : LW} {D : DV} {r s : Nat} : kpD D (breakAt lw D r s) := by
  unfold breakAt
  split
  · exact kpD.re
  · exact kpD.mv
theorem breakR_kp {lw : LW} {r : Nat} : ∀ (c s : Nat) (D : DV), kpD D (breakR lw r c s D)
  | 0, _, _ => kpD.re
  | c + 1, s, D => breakAt_kp.tr (breakR_kp c (s + 1) _)
theorem breakN_kp {lw : LW} : ∀ (c r : Nat) (D : DV), kpD D (breakN lw c r D)
  | 0, _, _ => kpD.re
  | c + 1, r, D => (breakR_kp 4 1 D).tr (breakN_kp c (r + 1) _)
/-! the reference's memory -/
variable {I I' I2 : HI} {J J' J2 : HJ} {b k : Nat}
/-- all but the disk b and what is told and tried stays -/
def Fr (b : Nat) (I : HI) (J : HJ) (I' : HI) (J' : HJ) : Prop := (∀ a, (a < 1023 ∨ a = 1025 ∨ a = 1026 ∨ a = 1045 ∨ a = 1046 ∨ 1049 ≤ a) → I' a = I a) ∧ (∀ d, d < 8 → d ≠ b → refD I' J' d = refD I J d) ∧ (∀ a, a ≠ 1035 → a ≠ 1036 → J' a = J a) ∧ ∀ d, d ≠ b → J' 1035 d = J 1035 d ∧ J' 1036 d = J 1036 d
theorem Fr.re : Fr b I J I J := ⟨fun _ _ => Eq.refl _, fun _ _ _ => Eq.refl _, fun _ _ _ => Eq.refl _, fun _ _ => ⟨Eq.refl _, Eq.refl _⟩⟩
theorem Fr.tr (h : Fr b I J I2 J2) (g : Fr b I2 J2 I' J') : Fr b I J I' J' := ⟨fun a ha => (g.1 a ha).trans (h.1 a ha), fun d h1 h2 => (g.2.1 d h1 h2).trans (h.2.1 d h1 h2), fun a h1 h2 => (g.2.2.1 a h1 h2).trans (h.2.2.1 a h1 h2), fun d hd => ⟨(g.2.2.2 d hd).1.trans (h.2.2.2 d hd).1, (g.2.2.2 d hd).2.trans (h.2.2.2 d hd).2⟩⟩
/-- a change of ints alone -/
theorem Fr.int (h1 : ∀ a, (a < 1023 ∨ a = 1025 ∨ a = 1026 ∨ a = 1045 ∨ a = 1046 ∨ 1049 ≤ a) → I' a = I a) (h2 : ∀ d, d < 8 → d ≠ b → refD I' J d = refD I J d) : Fr b I J I' J := ⟨h1, h2, fun _ _ _ => Eq.refl _, fun _ _ => ⟨Eq.refl _, Eq.refl _⟩⟩
theorem Fr.kn (f : Nat → Int32) : Fr b I J (va_up I 1023 f) J := Fr.int (fun a ha => va_up_ne _ _ (by omega)) (fun d _ _ => refD_kv)
theorem Fr.pl (f : Nat → Int32) : Fr b I J (va_up I 1024 f) J := Fr.int (fun a ha => va_up_ne _ _ (by omega)) (fun d _ _ => refD_p)
theorem Fr.laws {L : List Law} (h : Fr b I J I' J') (hL : RL_ I L) : RL_ I' L := by
  obtain ⟨x, h1, h2, h3, h4, h5⟩ := hL
  have e := h.1
  refine ⟨x, h1, by rw [e 1000 (by omega)]; exact h2, by rw [e 1013 (by omega)]; exact h3, h4, ?_⟩
  clear h2 h3 h4
  revert h5
  generalize 24 * x = q
  induction L generalizing q with
  | nil => exact fun _ => trivial
  | cons w L ih =>
    intro h5
    obtain ⟨⟨w1, w2, w3, w4, w5, w6, ⟨z, w7, w8⟩, w9⟩, h6⟩ := h5
    refine ⟨⟨by rw [e 1014 (by omega)]; exact w1, w2, by rw [e 1015 (by omega)]; exact w3, by rw [e 1016 (by omega)]; exact w4, by rw [e 1017 (by omega)]; exact w5, w6, ⟨z, by rw [e 1018 (by omega)]; exact w7, mtC_congr (e 1021 (by omega)) (e 1022 (by omega)) _ _ w8⟩, w9⟩, ih _ h6⟩
/-- a write to a row of the disk b that lies at 'row', n a disk -/
theorem rw_at {f : Nat → Int32} {n b k x : Nat} {v : Int32} (hk : k < n) : (if x < n then va_up f (n * b + k) v (n * b + x) else 0) = va_up (fun x => if x < n then f (n * b + x) else 0) k v x := by
  unfold va_up
  by_cases h : x < n
  · rw [if_pos h]
    by_cases e : x = k
    · rw [if_pos e, if_pos (by rw [e])]
    · rw [if_neg e, if_neg (fun q => e (by omega))]
      exact (if_pos h).symm
  · rw [if_neg h, if_neg (fun e => h (by omega))]
    exact (if_neg h).symm
theorem rw_ne {f : Nat → Int32} {n b d k x : Nat} {v : Int32} (hk : k < n) (hd : d ≠ b) : (if x < n then va_up f (n * b + k) v (n * d + x) else 0) = if x < n then f (n * d + x) else 0 := by
  by_cases h : x < n
  · rw [if_pos h, if_pos h]
    refine va_up_ne _ _ (fun e => hd ?_)
    have h1 : n * d + x = n * b + k := e
    have h2 : (n * d + x) / n = (n * b + k) / n := by rw [h1]
    rwa [Nat.mul_add_div (by omega), Nat.mul_add_div (by omega), Nat.div_eq_of_lt h, Nat.div_eq_of_lt hk] at h2
  · rw [if_neg h, if_neg h]
theorem rDust {v : Int32} (hk : k < 60) : refD (up2 I 1031 (60 * b + k) v) J b = up2 (refD I J b) 4 k v := by
  funext c x
  match c with
  | 0 => rfl
  | 1 => rfl
  | 2 => rfl
  | 3 => rfl
  | 4 => exact rw_at (f := I 1031) hk
  | 5 => rfl
  | 6 => rfl
  | 7 => rfl
  | 8 => rfl
  | 9 => rfl
  | 10 => rfl
  | 11 => rfl
  | c + 12 => rfl
theorem rDust_ne {d : Nat} {v : Int32} (hk : k < 60) (hd : d ≠ b) : refD (up2 I 1031 (60 * b + k) v) J d = refD I J d := by
  funext c x
  match c with
  | 0 => rfl
  | 1 => rfl
  | 2 => rfl
  | 3 => rfl
  | 4 => exact rw_ne (f := I 1031) hk hd
  | 5 => rfl
  | 6 => rfl
  | 7 => rfl
  | 8 => rfl
  | 9 => rfl
  | 10 => rfl
  | 11 => rfl
  | c + 12 => rfl
theorem Fr.dust {v : Int32} (hk : k < 60) : Fr b I J (up2 I 1031 (60 * b + k) v) J := Fr.int (fun a ha => up2_ne _ _ _ (by omega)) (fun d _ h => rDust_ne hk h)
theorem rD4 (hk : k < 60) : refD I J b 4 k = I 1031 (60 * b + k) := if_pos hk
theorem rMv {k2 : Nat} {p : Int32} (hk : k < 60) (hk2 : k2 < 60) : refD (up2 (up2 I 1031 (60 * b + k) (I 1031 (60 * b + k) - p)) 1031 (60 * b + k2) (up2 I 1031 (60 * b + k) (I 1031 (60 * b + k) - p) 1031 (60 * b + k2) + p)) J b = mvD (refD I J b) k k2 p := by
  have e2 : up2 I 1031 (60 * b + k) (I 1031 (60 * b + k) - p) 1031 (60 * b + k2) = up2 (refD I J b) 4 k (I 1031 (60 * b + k) - p) 4 k2 := by
    rw [← rDust hk]
    exact (if_pos hk2).symm
  rw [rDust hk2, rDust hk, e2]
  unfold mvD
  rw [rD4 hk]
theorem Fr.mv {k2 : Nat} {v w : Int32} (hk : k < 60) (hk2 : k2 < 60) : Fr b I J (up2 (up2 I 1031 (60 * b + k) v) 1031 (60 * b + k2) w) J := (Fr.dust hk).tr (Fr.dust hk2)
theorem rSeed {v : Int32} : refD (up2 I 1033 b v) J b = up2 (refD I J b) 0 3 v := by
  funext c x
  match c with
  | 0 =>
    match x with
    | 0 => rfl
    | 1 => rfl
    | 2 => rfl
    | 3 => show va_up (I 1033) b v b = _; rw [va_up_self]; rfl
    | 4 => rfl
    | 5 => rfl
    | 6 => rfl
    | x + 7 => rfl
  | 1 => rfl
  | 2 => rfl
  | 3 => rfl
  | 4 => rfl
  | 5 => rfl
  | 6 => rfl
  | 7 => rfl
  | 8 => rfl
  | 9 => rfl
  | 10 => rfl
  | 11 => rfl
  | c + 12 => rfl
theorem rSeed_ne {d : Nat} {v : Int32} (hd : d ≠ b) : refD (up2 I 1033 b v) J d = refD I J d := by
  funext c x
  match c with
  | 0 =>
    match x with
    | 0 => rfl
    | 1 => rfl
    | 2 => rfl
    | 3 => exact va_up_ne _ _ hd
    | 4 => rfl
    | 5 => rfl
    | 6 => rfl
    | x + 7 => rfl
  | 1 => rfl
  | 2 => rfl
  | 3 => rfl
  | 4 => rfl
  | 5 => rfl
  | 6 => rfl
  | 7 => rfl
  | 8 => rfl
  | 9 => rfl
  | 10 => rfl
  | 11 => rfl
  | c + 12 => rfl
theorem Fr.seed {v : Int32} : Fr b I J (up2 I 1033 b v) J := Fr.int (fun a ha => up2_ne _ _ _ (by omega)) (fun d _ h => rSeed_ne h)
/-- a count that goes down to -1 -/
def dn (m : Nat) : Int32 := match m with
  | 0 => -1
  | m + 1 => nI m
theorem dn_dec (s : Nat) : nI s + Int32.ofInt (-1) = dn s := by
  cases s with
  | zero => decide
  | succ s => exact nI_m1 s
end SP1
