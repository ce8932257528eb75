/-! the reference: gathers -/
section M9
variable {l : Launch} {S : HS} {I I' : HI} {J : HJ}
/-- all dust of a size becomes a lump -/
def newL (D : DV) (r s : Nat) : DV := fun c k => match c with
  | 0 => va_up (D 0) 6 (nI (cmD D + 1)) k
  | 4 => va_up (D 4) (5 * r + s) (nI 0) k
  | 5 => va_up (D 5) (cmD D) (nI 0) k
  | 6 => va_up (D 6) (cmD D) (nI r) k
  | 7 => va_up (D 7) (cmD D) (nI 0) k
  | 8 => va_up (D 8) (cmD D) (nI 0) k
  | 9 => va_up (D 9) (cmD D) (D 0 1) k
  | 10 => va_up (D 10) (cmD D) (-1) k
  | 11 => if 12 * cmD D ≤ k ∧ k < 12 * cmD D + 12 then (if nI (k - 12 * cmD D) = nI r then D 4 (5 * r + s) else nI 0) else D 11 k
  | c => D c k
def gathAt (lw : LW) (D : DV) (r s : Nat) : DV := if lw 3 (fDu D r s) < 0 then D else if D 4 (5 * r + s) < lw 3 (fDu D r s) then D else if nI 30 ≤ D 0 6 then D else newL D r s
def gathR (lw : LW) (r : Nat) : Nat → DV → DV
  | 0, D => D
  | m + 1, D => gathR lw r m (gathAt lw D r m)
def gathN (lw : LW) : Nat → Nat → DV → DV
  | 0, _, D => D
  | c + 1, r, D => gathN lw c (r + 1) (gathR lw r 5 D)
theorem newL_ok {D : DV} (hD : rOk D) {r s : Nat} (hr : r < rgD D) (hc : cmD D < 30) : rOk (newL D r s) ∧ newL D r s 0 0 = D 0 0 := by
  obtain ⟨h1, h2, h3, h4, h5, h6⟩ := hD
  have ec : cmD (newL D r s) = cmD D + 1 := nI_clamp (by omega)
  have er : rgD (newL D r s) = rgD D := rfl
  refine ⟨⟨h1, h2, h3, by rw [ec]; rfl, by rw [ec]; omega, fun u hu => ?_⟩, rfl⟩
  rw [ec] at hu
  by_cases e : u = cmD D
  · have e6 : newL D r s 6 u = nI r := by subst e; exact va_up_self _ _ _
    unfold rg
    rw [e6, nI_clamp (by omega), er]
    exact ⟨rfl, hr⟩
  · have e6 : newL D r s 6 u = D 6 u := va_up_ne _ _ e
    unfold rg
    rw [e6, er]
    exact h6 u (by omega)
theorem gathAt_ok {lw : LW} {D : DV} (hD : rOk D) {r s : Nat} (hr : r < rgD D) : rOk (gathAt lw D r s) ∧ gathAt lw D r s 0 0 = D 0 0 := by
  unfold gathAt
  split
  · exact ⟨hD, rfl⟩
  · split
    · exact ⟨hD, rfl⟩
    · split
      · exact ⟨hD, rfl⟩
      · rename_i h
        refine newL_ok hD hr (Nat.lt_of_not_le (fun q => h ?_))
        rw [hD.2.2.2.1]
        exact nI_le q (by have := hD.2.2.2.2.1; omega)
set_option maxRecDepth 100000 in
theorem rNewA {b r s : Nat} (hD : rOk (refD I J b)) (hc : cmD (refD I J b) < 30) (hr : r < 12) (hs : s < 5) (h26 : ∀ a, a = 1027 ∨ a = 1028 ∨ a = 1029 ∨ a = 1030 ∨ a = 1032 ∨ a = 1033 ∨ a = 1034 → I' a = I a) (h31 : I' 1031 = va_up (I 1031) (60 * b + (5 * r + s)) (nI 0)) (h37 : I' 1037 = va_up (I 1037) b (nI (cmD (refD I J b) + 1)))
    (h38 : I' 1038 = va_up (I 1038) (30 * b + cmD (refD I J b)) (nI 0)) (h39 : I' 1039 = va_up (I 1039) (30 * b + cmD (refD I J b)) (nI r)) (h40 : I' 1040 = va_up (I 1040) (30 * b + cmD (refD I J b)) (nI 0)) (h41 : I' 1041 = va_up (I 1041) (30 * b + cmD (refD I J b)) (nI 0)) (h42 : I' 1042 = va_up (I 1042) (30 * b + cmD (refD I J b)) (I 1034 b)) (h43 : I' 1043 = va_up (I 1043) (30 * b + cmD (refD I J b)) (-1))
    (h44 : ∀ k, k < 12 → I' 1044 (360 * b + (12 * cmD (refD I J b) + k)) = if nI k = nI r then refD I J b 4 (5 * r + s) else nI 0) (h45 : ∀ k, k < 360 * b + 12 * cmD (refD I J b) ∨ 360 * b + 12 * cmD (refD I J b) + 12 ≤ k → I' 1044 k = I 1044 k) : refD I' J b = newL (refD I J b) r s := by

  have em : (I' 1037 b).toNatClampNeg = cmD (refD I J b) + 1 := by rw [h37, va_up_self, nI_clamp (by omega)]
  have em0 : (I 1037 b).toNatClampNeg = cmD (refD I J b) := rfl
  have lum : ∀ (f f' : Nat → Int32) (v : Int32), f' = va_up f (30 * b + cmD (refD I J b)) v → ∀ x, (if x < (I' 1037 b).toNatClampNeg then f' (30 * b + x) else 0) = va_up (fun x => if x < (I 1037 b).toNatClampNeg then f (30 * b + x) else 0) (cmD (refD I J b)) v x := by
    intro f f' v e x
    rw [em, e]
    unfold va_up
    rw [em0]
    by_cases e1 : x = cmD (refD I J b)
    · rw [if_pos (by omega), if_pos (by omega), if_pos e1]
    · rw [if_neg e1]
      by_cases e2 : x < cmD (refD I J b)
      · rw [if_pos (by omega), if_neg (by omega)]; exact (if_pos e2).symm
      · rw [if_neg (by omega)]; exact (if_neg e2).symm
  funext c x
  match c with
  | 0 =>
    match x with
    | 0 => exact congrFun (h26 1027 (Or.inl rfl)) b
    | 1 => exact congrFun (h26 1034 (Or.inr (Or.inr (Or.inr (Or.inr (Or.inr (Or.inr rfl))))))) b
    | 2 => exact congrFun (h26 1032 (Or.inr (Or.inr (Or.inr (Or.inr (Or.inl rfl)))))) b
    | 3 => exact congrFun (h26 1033 (Or.inr (Or.inr (Or.inr (Or.inr (Or.inr (Or.inl rfl))))))) b
    | 4 => rfl
    | 5 => rfl
    | 6 => show I' 1037 b = _; rw [h37, va_up_self]; rfl
    | x + 7 => rfl
  | 1 => show (if x < 12 then I' 1028 (12 * b + x) else 0) = _; rw [h26 1028 (Or.inr (Or.inl rfl))]; rfl
  | 2 => show (if x < 12 then I' 1029 (12 * b + x) else 0) = _; rw [h26 1029 (Or.inr (Or.inr (Or.inl rfl)))]; rfl
  | 3 => show (if x < 12 then I' 1030 (12 * b + x) else 0) = _; rw [h26 1030 (Or.inr (Or.inr (Or.inr (Or.inl rfl))))]; rfl
  | 4 => show (if x < 60 then I' 1031 (60 * b + x) else 0) = _; rw [h31]; exact rw_at (f := I 1031) (by omega)
  | 5 => exact lum (I 1038) (I' 1038) _ h38 x
  | 6 => exact lum (I 1039) (I' 1039) _ h39 x
  | 7 => exact lum (I 1040) (I' 1040) _ h40 x
  | 8 => exact lum (I 1041) (I' 1041) _ h41 x
  | 9 => exact lum (I 1042) (I' 1042) _ h42 x
  | 10 => exact lum (I 1043) (I' 1043) _ h43 x
  | 11 =>
    show (if x < 12 * (I' 1037 b).toNatClampNeg then I' 1044 (360 * b + x) else 0) = if 12 * cmD (refD I J b) ≤ x ∧ x < 12 * cmD (refD I J b) + 12 then (if nI (x - 12 * cmD (refD I J b)) = nI r then refD I J b 4 (5 * r + s) else nI 0) else (if x < 12 * cmD (refD I J b) then I 1044 (360 * b + x) else 0)
    rw [em]
    by_cases e1 : 12 * cmD (refD I J b) ≤ x ∧ x < 12 * cmD (refD I J b) + 12
    · rw [if_pos e1, if_pos (by omega), ← h44 (x - 12 * cmD (refD I J b)) (by omega)]
      congr 1; omega
    · rw [if_neg e1]
      by_cases e2 : x < 12 * cmD (refD I J b)
      · rw [if_pos e2, if_pos (by omega)]; exact h45 _ (by omega)
      · rw [if_neg e2, if_neg (by omega)]
  | c + 12 => rfl
theorem far {b d x c e : Nat} (hd : d ≠ b) (hc : c < 30) (he : e ≤ 30) (hx : x < 12 * e) : 360 * d + x < 360 * b + 12 * c ∨ 360 * b + 12 * c + 12 ≤ 360 * d + x := by
  rcases Nat.lt_or_gt_of_ne hd with h | h
  · have h1 : 360 * (d + 1) ≤ 360 * b := Nat.mul_le_mul_left 360 h
    rw [Nat.mul_add] at h1
    generalize 360 * d = p at *
    generalize 360 * b = q at *
    omega
  · have h1 : 360 * (b + 1) ≤ 360 * d := Nat.mul_le_mul_left 360 h
    rw [Nat.mul_add] at h1
    generalize 360 * d = p at *
    generalize 360 * b = q at *
    omega
theorem mask_eq {c : Prop} [Decidable c] {a b : Int32} (h : c → a = b) : (if c then a else 0) = if c then b else 0 := by
  by_cases e : c
  · rw [if_pos e, if_pos e, h e]
  · rw [if_neg e, if_neg e]
theorem refD_ext {d : Nat} (h00 : I' 1027 d = I 1027 d) (h01 : I' 1034 d = I 1034 d) (h02 : I' 1032 d = I 1032 d) (h03 : I' 1033 d = I 1033 d) (h06 : I' 1037 d = I 1037 d) (h1 : ∀ x, x < 12 → I' 1028 (12 * d + x) = I 1028 (12 * d + x)) (h2 : ∀ x, x < 12 → I' 1029 (12 * d + x) = I 1029 (12 * d + x)) (h3 : ∀ x, x < 12 → I' 1030 (12 * d + x) = I 1030 (12 * d + x)) (h4 : ∀ x, x < 60 → I' 1031 (60 * d + x) = I 1031 (60 * d + x))
    (h5 : ∀ x, x < (I 1037 d).toNatClampNeg → I' 1038 (30 * d + x) = I 1038 (30 * d + x)) (h6 : ∀ x, x < (I 1037 d).toNatClampNeg → I' 1039 (30 * d + x) = I 1039 (30 * d + x)) (h7 : ∀ x, x < (I 1037 d).toNatClampNeg → I' 1040 (30 * d + x) = I 1040 (30 * d + x)) (h8 : ∀ x, x < (I 1037 d).toNatClampNeg → I' 1041 (30 * d + x) = I 1041 (30 * d + x)) (h9 : ∀ x, x < (I 1037 d).toNatClampNeg → I' 1042 (30 * d + x) = I 1042 (30 * d + x)) (h10 : ∀ x, x < (I 1037 d).toNatClampNeg → I' 1043 (30 * d + x) = I 1043 (30 * d + x)) (h11 : ∀ x, x < 12 * (I 1037 d).toNatClampNeg → I' 1044 (360 * d + x) = I 1044 (360 * d + x)) : refD I' J d = refD I J d := by
  have a1 : ∀ k : Nat, (if k < 12 then I' 1028 (12 * d + k) else 0) = if k < 12 then I 1028 (12 * d + k) else 0 := fun k => mask_eq (h1 k)
  have a2 : ∀ k : Nat, (if k < 12 then I' 1029 (12 * d + k) else 0) = if k < 12 then I 1029 (12 * d + k) else 0 := fun k => mask_eq (h2 k)
  have a3 : ∀ k : Nat, (if k < 12 then I' 1030 (12 * d + k) else 0) = if k < 12 then I 1030 (12 * d + k) else 0 := fun k => mask_eq (h3 k)
  have a4 : ∀ k : Nat, (if k < 60 then I' 1031 (60 * d + k) else 0) = if k < 60 then I 1031 (60 * d + k) else 0 := fun k => mask_eq (h4 k)
  have a5 : ∀ k : Nat, (if k < (I 1037 d).toNatClampNeg then I' 1038 (30 * d + k) else 0) = if k < (I 1037 d).toNatClampNeg then I 1038 (30 * d + k) else 0 := fun k => mask_eq (h5 k)
  have a6 : ∀ k : Nat, (if k < (I 1037 d).toNatClampNeg then I' 1039 (30 * d + k) else 0) = if k < (I 1037 d).toNatClampNeg then I 1039 (30 * d + k) else 0 := fun k => mask_eq (h6 k)
  have a7 : ∀ k : Nat, (if k < (I 1037 d).toNatClampNeg then I' 1040 (30 * d + k) else 0) = if k < (I 1037 d).toNatClampNeg then I 1040 (30 * d + k) else 0 := fun k => mask_eq (h7 k)
  have a8 : ∀ k : Nat, (if k < (I 1037 d).toNatClampNeg then I' 1041 (30 * d + k) else 0) = if k < (I 1037 d).toNatClampNeg then I 1041 (30 * d + k) else 0 := fun k => mask_eq (h8 k)
  have a9 : ∀ k : Nat, (if k < (I 1037 d).toNatClampNeg then I' 1042 (30 * d + k) else 0) = if k < (I 1037 d).toNatClampNeg then I 1042 (30 * d + k) else 0 := fun k => mask_eq (h9 k)
  have a10 : ∀ k : Nat, (if k < (I 1037 d).toNatClampNeg then I' 1043 (30 * d + k) else 0) = if k < (I 1037 d).toNatClampNeg then I 1043 (30 * d + k) else 0 := fun k => mask_eq (h10 k)
  have a11 : ∀ k : Nat, (if k < 12 * (I 1037 d).toNatClampNeg then I' 1044 (360 * d + k) else 0) = if k < 12 * (I 1037 d).toNatClampNeg then I 1044 (360 * d + k) else 0 := fun k => mask_eq (h11 k)
  funext c k
  simp only [refD, h00, h01, h02, h03, h06, a1, a2, a3, a4, a5, a6, a7, a8, a9, a10, a11]
theorem ne30 {b d x c n : Nat} (hd : d ≠ b) (hc : c < n) (hx : x < n) : n * d + x ≠ n * b + c := by
  intro e
  have h2 : (n * d + x) / n = (n * b + c) / n := by rw [e]
  rw [Nat.mul_add_div (by omega), Nat.mul_add_div (by omega), Nat.div_eq_of_lt hx, Nat.div_eq_of_lt hc] at h2
  exact hd h2
theorem rNewB {b r s : Nat} (hD : rOk (refD I J b)) (hc : cmD (refD I J b) < 30) (hr : r < 12) (hs : s < 5) (h26 : ∀ a, a = 1027 ∨ a = 1028 ∨ a = 1029 ∨ a = 1030 ∨ a = 1032 ∨ a = 1033 ∨ a = 1034 → I' a = I a) (h31 : I' 1031 = va_up (I 1031) (60 * b + (5 * r + s)) (nI 0)) (h37 : I' 1037 = va_up (I 1037) b (nI (cmD (refD I J b) + 1)))
    (h38 : I' 1038 = va_up (I 1038) (30 * b + cmD (refD I J b)) (nI 0)) (h39 : I' 1039 = va_up (I 1039) (30 * b + cmD (refD I J b)) (nI r)) (h40 : I' 1040 = va_up (I 1040) (30 * b + cmD (refD I J b)) (nI 0)) (h41 : I' 1041 = va_up (I 1041) (30 * b + cmD (refD I J b)) (nI 0)) (h42 : I' 1042 = va_up (I 1042) (30 * b + cmD (refD I J b)) (I 1034 b)) (h43 : I' 1043 = va_up (I 1043) (30 * b + cmD (refD I J b)) (-1))
    (h44 : ∀ k, k < 12 → I' 1044 (360 * b + (12 * cmD (refD I J b) + k)) = if nI k = nI r then refD I J b 4 (5 * r + s) else nI 0) (h45 : ∀ k, k < 360 * b + 12 * cmD (refD I J b) ∨ 360 * b + 12 * cmD (refD I J b) + 12 ≤ k → I' 1044 k = I 1044 k) {d : Nat} (hd : d ≠ b) (hcd : cmD (refD I J d) ≤ 30) : refD I' J d = refD I J d := by
  have e30 : ∀ x, x < (I 1037 d).toNatClampNeg → x < 30 := fun x hx => Nat.lt_of_lt_of_le hx hcd
  refine refD_ext (congrFun (h26 1027 (Or.inl rfl)) d) (congrFun (h26 1034 (Or.inr (Or.inr (Or.inr (Or.inr (Or.inr (Or.inr rfl))))))) d) (congrFun (h26 1032 (Or.inr (Or.inr (Or.inr (Or.inr (Or.inl rfl)))))) d) (congrFun (h26 1033 (Or.inr (Or.inr (Or.inr (Or.inr (Or.inr (Or.inl rfl))))))) d) (by rw [h37, va_up_ne _ _ hd]) (fun x _ => congrFun (h26 1028 (Or.inr (Or.inl rfl))) _) (fun x _ => congrFun (h26 1029 (Or.inr (Or.inr (Or.inl rfl)))) _) (fun x _ => congrFun (h26 1030 (Or.inr (Or.inr (Or.inr (Or.inl rfl))))) _) (fun x hx => by rw [h31, va_up_ne _ _ (ne30 hd (by omega) hx)])
    (fun x hx => by rw [h38, va_up_ne _ _ (ne30 hd hc (e30 x hx))]) (fun x hx => by rw [h39, va_up_ne _ _ (ne30 hd hc (e30 x hx))]) (fun x hx => by rw [h40, va_up_ne _ _ (ne30 hd hc (e30 x hx))]) (fun x hx => by rw [h41, va_up_ne _ _ (ne30 hd hc (e30 x hx))]) (fun x hx => by rw [h42, va_up_ne _ _ (ne30 hd hc (e30 x hx))]) (fun x hx => by rw [h43, va_up_ne _ _ (ne30 hd hc (e30 x hx))]) (fun x hx => h45 _ (far hd hc hcd hx))
theorem rNew {b r s : Nat} (hD : rOk (refD I J b)) (hc : cmD (refD I J b) < 30) (hr : r < 12) (hs : s < 5) (h26 : ∀ a, a = 1027 ∨ a = 1028 ∨ a = 1029 ∨ a = 1030 ∨ a = 1032 ∨ a = 1033 ∨ a = 1034 → I' a = I a) (h31 : I' 1031 = va_up (I 1031) (60 * b + (5 * r + s)) (nI 0)) (h37 : I' 1037 = va_up (I 1037) b (nI (cmD (refD I J b) + 1)))
    (h38 : I' 1038 = va_up (I 1038) (30 * b + cmD (refD I J b)) (nI 0)) (h39 : I' 1039 = va_up (I 1039) (30 * b + cmD (refD I J b)) (nI r)) (h40 : I' 1040 = va_up (I 1040) (30 * b + cmD (refD I J b)) (nI 0)) (h41 : I' 1041 = va_up (I 1041) (30 * b + cmD (refD I J b)) (nI 0)) (h42 : I' 1042 = va_up (I 1042) (30 * b + cmD (refD I J b)) (I 1034 b)) (h43 : I' 1043 = va_up (I 1043) (30 * b + cmD (refD I J b)) (-1))
    (h44 : ∀ k, k < 12 → I' 1044 (360 * b + (12 * cmD (refD I J b) + k)) = if nI k = nI r then refD I J b 4 (5 * r + s) else nI 0) (h45 : ∀ k, k < 360 * b + 12 * cmD (refD I J b) ∨ 360 * b + 12 * cmD (refD I J b) + 12 ≤ k → I' 1044 k = I 1044 k) : refD I' J b = newL (refD I J b) r s ∧ ∀ d, d < 8 → d ≠ b → cmD (refD I J d) ≤ 30 → refD I' J d = refD I J d :=
  ⟨rNewA hD hc hr hs h26 h31 h37 h38 h39 h40 h41 h42 h43 h44 h45, fun d _ hd hcd => rNewB hD hc hr hs h26 h31 h37 h38 h39 h40 h41 h42 h43 h44 h45 hd hcd⟩
/-- a lump's rows as they are being written -/
def NwQ (I' In : HI) (b cm r q : Nat) (v : Int32) : Prop := (∀ a, (a < 1038 ∨ 1044 < a) → In a = I' a) ∧ In 1038 = va_up (I' 1038) (30 * b + cm) (nI 0) ∧ In 1039 = va_up (I' 1039) (30 * b + cm) (nI r) ∧ In 1040 = va_up (I' 1040) (30 * b + cm) (nI 0) ∧ In 1041 = va_up (I' 1041) (30 * b + cm) (nI 0) ∧ In 1042 = va_up (I' 1042) (30 * b + cm) (I' 1034 b) ∧ In 1043 = va_up (I' 1043) (30 * b + cm) (-1) ∧ (∀ k, k < q → In 1044 (360 * b + (12 * cm + k)) = if nI k = nI r then v else nI 0) ∧ ∀ k, k < 360 * b + 12 * cm ∨ 360 * b + 12 * cm + 12 ≤ k → In 1044 k = I' 1044 k
theorem NwQ.step {I' In : HI} {b cm r q : Nat} {v : Int32} (h : NwQ I' In b cm r q v) (hq : q < 12) : NwQ I' (up2 In 1044 (360 * b + (12 * cm + q)) (if nI q = nI r then v else nI 0)) b cm r (q + 1) v := by
  obtain ⟨h1, h2, h3, h4, h5, h6, h7, h8, h9⟩ := h
  refine ⟨fun a ha => (up2_ne _ _ _ (by omega)).trans (h1 a ha), h2, h3, h4, h5, h6, h7, fun k hk => ?_, fun k hk => ?_⟩
  · rw [up2_row]
    by_cases e : k = q
    · subst e; rw [va_up_self]
    · rw [va_up_ne _ _ (by omega)]; exact h8 k (by omega)
  · rw [up2_row, va_up_ne _ _ (by omega)]; exact h9 k hk
set_option maxRecDepth 100000 in
set_option maxHeartbeats 8000000 in
theorem m_gathers (hM : Ob S 7 1000) {b : Nat} (hb : b < 8) {L : List Law} {g : Int32} {lk : Nat} (hG : rG I L g lk) (hC : cAll I J) (hD : rOk (refD I J b)) : Mn l yX7_gathers cX7_gathers 7 none 3 [.ref 1000, .int (nI b)] S I J (fun v I' J' => v = none ∧ refD I' J b = gathN (kcl L g) (rgD (refD I J b)) 0 (refD I J b) ∧ Fr b I J I' J ∧ J' = J) := by
  refine Mn.of (by decide) (fun ad => by simp [lg_sl, vv, Value.category]) (fun X P hP hn C => ?_)
  generalize hnn : rgD (refD I J b) = n at hP
  have hn0 : refD I J b 0 0 = nI n := by rw [← hnn]; exact hD.1
  have hn12 : n ≤ 12 := by rw [← hnn]; exact hD.2.2.1
  have hrc : ∀ D : DV, D 0 0 = refD I J b 0 0 → rgD D = n := fun D h => by rw [← hnn]; unfold rgD; rw [h]
  have outer : ∀ (c r : Nat) (Ic : HI) (x3 x4 x5 x6 : Option Value), r + c = n → Fr b I J Ic J → rOk (refD Ic J b) ∧ refD Ic J b 0 0 = refD I J b 0 0 → gathN (kcl L g) c r (refD Ic J b) = gathN (kcl L g) n 0 (refD I J b) → V X P 0 0 2 [some (.ref 1000), some (.int (nI b)), some (.int (nI r)), x3, x4, x5, x6] [] S Ic J := by
    intro c
    induction c with
    | zero =>
      intro r Ic x3 x4 x5 x6 hr hF hk he
      have hr : r = n := hr
      subst hr
      have c9 : Ic 1027 b ≤ nI r := by rw [show Ic 1027 b = nI r from hk.2.trans hn0]; exact Int32.le_refl _
      refine V_iload_n C dX7_gathers_2 rfl ?_
      refine V_aload_n C dX7_gathers_3 rfl ?_
      refine V_getR C fl_X7_116 (ob_K hM) (ob_R hM 26 1027 rfl rfl) rfl dX7_gathers_4 ?_
      refine V_iload_n C dX7_gathers_7 rfl ?_
      refine V_iald C (b) (ob_A hM 26 1027 rfl rfl) (by first | rfl | (simp only [nI_add, pk_mul]; done) | (simp only [nI_add, pk_mul]; congr 1; omega)) (by rw [ob_N hM 26 1027 rfl rfl]; omega) (by rw [ob_N hM 26 1027 rfl rfl]; decide) dX7_gathers_8 ?_
      refine V_icmp_ge C 208 dX7_gathers_9 (by decide) (fun h9 => ?_) (fun h9 => absurd (c9) h9)
      exact V_vret C (Nat.zero_le _) (Nat.zero_le _) dX7_gathers_208 (hP _ _ _ ⟨rfl, he, hF, rfl⟩)
    | succ c ih =>
      intro r Ic x3 x4 x5 x6 hr hF hk he
      have c9 : ¬ Ic 1027 b ≤ nI r := by rw [show Ic 1027 b = nI n from hk.2.trans hn0]; exact nI_ge (by omega) (by omega)
      have inner : ∀ (m : Nat) (Ic : HI) (x4 x5 x6 : Option Value), m ≤ 5 → Fr b I J Ic J → rOk (refD Ic J b) ∧ refD Ic J b 0 0 = refD I J b 0 0 → gathN (kcl L g) c (r + 1) (gathR (kcl L g) r m (refD Ic J b)) = gathN (kcl L g) n 0 (refD I J b) → V X P 0 0 14 [some (.ref 1000), some (.int (nI b)), some (.int (nI r)), some (.int (dn m)), x4, x5, x6] [] S Ic J := by
        intro m
        induction m with
        | zero =>
          intro Ic x4 x5 x6 hm hF hk he
          refine V_iload_n C dX7_gathers_14 rfl ?_
          refine V_if_lt C 202 dX7_gathers_15 (by decide) (fun h15 => ?_) (fun h15 => absurd (by decide) h15)
          refine V_iincU C dX7_gathers_202 rfl (hn _ (by decide)) ?_
          refine V_goto C 2 dX7_gathers_205 (by decide) ?_
          exact ih (r + 1) Ic _ _ _ _ (by omega) hF hk he
        | succ s ih2 =>
          intro Ic x4 x5 x6 hs hF hk he
          have hDc := hk.1
          have hGc := hG.fr hF
          have hCc := hF.cm hC hDc.2.2.2.2.1
          have h60 : 5 * r + s < 60 := by omega
          have hrn : r < rgD (refD Ic J b) := by rw [hrc _ hk.2]; omega
          have fin : ∀ (In : HI) (x4 x5 x6 : Option Value), Fr b I J In J → refD In J b = gathAt (kcl L g) (refD Ic J b) r s → V X P 0 0 14 [some (.ref 1000), some (.int (nI b)), some (.int (nI r)), some (.int (nI s + Int32.ofInt (-1))), x4, x5, x6] [] S In J := by
            intro In x4 x5 x6 hF3 eN
            rw [dn_dec]
            refine ih2 In x4 x5 x6 (by omega) hF3 ?_ ?_
            · rw [eN]
              have h := gathAt_ok (lw := kcl L g) hDc (s := s) hrn
              exact ⟨h.1, h.2.trans hk.2⟩
            · rw [eN]; exact he
          have made : ∀ (I' : HI) (cm : Nat), Sc Ic I' → I' 1023 4 = refD Ic J b 4 (5 * r + s) → cmD (refD Ic J b) = cm → cm < 30 → gathAt (kcl L g) (refD Ic J b) r s = newL (refD Ic J b) r s → ∀ (m q : Nat) (In : HI) (x4 : Option Value), q + m = 12 → NwQ I' In b cm r q (refD Ic J b 4 (5 * r + s)) → V X P 0 0 128 [some (.ref 1000), some (.int (nI b)), some (.int (nI r)), some (.int (nI s)), x4, some (.int (nI 30 * nI b + nI cm)), some (.int (nI q))] [] S In J := by
            intro I' cm hS2 e23 hcm hc30 hgt m
            have hF2 := hF.tr (hS2.fr (J := J) (b := b))
            have eD : refD I' J b = refD Ic J b := hS2.eq b
            have hD' : rOk (refD I' J b) := by rw [eD]; exact hDc
            have hC' := hF2.cm hC hD'.2.2.2.2.1
            have hcm' : cmD (refD I' J b) = cm := by rw [eD]; exact hcm
            induction m with
            | zero =>
              intro q In x4 hq hN
              have hq : q = 12 := hq
              subst hq
              obtain ⟨n1, n2, n3, n4, n5, n6, n7, n8, n9⟩ := hN
              have e37 : In 1037 b = nI cm := by rw [n1 1037 (by omega), ← hcm']; exact r_cm hD'
              have hw := rNew (I' := up2 (up2 In 1031 (60 * b + (5 * r + s)) (nI 0)) 1037 b (nI (cm + 1))) (J := J) (r := r) (s := s) hD' (by omega) (by omega) (by omega) (fun a ha => by rw [up2_ne _ _ _ (by omega), up2_ne _ _ _ (by omega)]; exact n1 a (by omega)) (by rw [up2_ne _ _ _ (by decide), up2_row, n1 1031 (by omega)]) (by rw [up2_row, up2_ne _ _ _ (by decide), n1 1037 (by omega), hcm'])
                (by rw [hcm']; exact n2) (by rw [hcm']; exact n3) (by rw [hcm']; exact n4) (by rw [hcm']; exact n5) (by rw [hcm']; exact n6) (by rw [hcm']; exact n7) (fun k hk => by rw [hcm', eD]; exact n8 k hk) (fun k hk => by rw [hcm'] at hk; exact n9 k hk)
              refine V_iload C dX7_gathers_128 rfl ?_
              refine V_bipush C (v := nI 12) dX7_gathers_130 (by decide +kernel) ?_
              refine V_icmp_ge C 170 dX7_gathers_132 (by decide) (fun h132 => ?_) (fun h132 => absurd (by decide) h132)
              refine V_aload_n C dX7_gathers_170 rfl ?_
              refine V_getR C fl_X7_128 (ob_K hM) (ob_R hM 30 1031 rfl rfl) rfl dX7_gathers_171 ?_
              refine V_bipush C (v := nI 60) dX7_gathers_174 (by decide +kernel) ?_
              refine V_iload_n C dX7_gathers_176 rfl ?_
              refine V_imul C dX7_gathers_177 ?_
              refine V_iconst C (v := nI 5) dX7_gathers_178 (by decide +kernel) ?_
              refine V_iload_n C dX7_gathers_179 rfl ?_
              refine V_imul C dX7_gathers_180 ?_
              refine V_iadd C dX7_gathers_181 ?_
              refine V_iload_n C dX7_gathers_182 rfl ?_
              refine V_iadd C dX7_gathers_183 ?_
              refine V_iconst C (v := nI 0) dX7_gathers_184 (by decide +kernel) ?_
              refine V_iast C (60 * b + (5 * r + s)) (ob_A hM 30 1031 rfl rfl) (by first | rfl | (simp only [nI_add, pk_mul]; done) | (simp only [nI_add, pk_mul]; congr 1; omega)) (by rw [ob_N hM 30 1031 rfl rfl]; omega) (by rw [ob_N hM 30 1031 rfl rfl]; decide) dX7_gathers_185 ?_
              refine V_aload_n C dX7_gathers_186 rfl ?_
              refine V_getR C fl_X7_146 (ob_K hM) (ob_R hM 36 1037 rfl rfl) rfl dX7_gathers_187 ?_
              refine V_iload_n C dX7_gathers_190 rfl ?_
              refine V_dup2 C dX7_gathers_191 rfl rfl ?_
              refine V_iald C (b) (ob_A hM 36 1037 rfl rfl) (by first | rfl | (simp only [nI_add, pk_mul]; done) | (simp only [nI_add, pk_mul]; congr 1; omega)) (by rw [ob_N hM 36 1037 rfl rfl]; omega) (by rw [ob_N hM 36 1037 rfl rfl]; decide) dX7_gathers_192 ?_
              refine V_iconst C (v := nI 1) dX7_gathers_193 (by decide +kernel) ?_
              refine V_iadd C dX7_gathers_194 ?_
              refine V_top (w := .int (nI (cm + 1))) (congrArg Value.int (show In 1037 b + nI 1 = nI (cm + 1) by rw [e37, nI_add])) ?_
              refine V_iast C (b) (ob_A hM 36 1037 rfl rfl) (by first | rfl | (simp only [nI_add, pk_mul]; done) | (simp only [nI_add, pk_mul]; congr 1; omega)) (by rw [ob_N hM 36 1037 rfl rfl]; omega) (by rw [ob_N hM 36 1037 rfl rfl]; decide) dX7_gathers_195 ?_
              refine V_iinc C dX7_gathers_196 rfl (hn _ (by decide)) ?_
              refine V_goto C 14 dX7_gathers_199 (by decide) ?_
              exact fin _ _ _ _ (hF2.tr (Fr.int (fun a ha => by rw [up2_ne _ _ _ (by omega), up2_ne _ _ _ (by omega)]; exact n1 a (by omega)) (fun d h8 hd => hw.2 d h8 hd (hC' d h8)))) (by rw [hw.1, eD, hgt])
            | succ m ih3 =>
              intro q In x4 hq hN
              have e23' : In 1023 4 = refD Ic J b 4 (5 * r + s) := by rw [hN.1 1023 (by omega)]; exact e23
              refine V_iload C dX7_gathers_128 rfl ?_
              refine V_bipush C (v := nI 12) dX7_gathers_130 (by decide +kernel) ?_
              refine V_icmp_ge C 170 dX7_gathers_132 (by decide) (fun h132 => absurd h132 (nI_ge (by omega) (by omega))) (fun h132 => ?_)
              refine V_aload_n C dX7_gathers_135 rfl ?_
              refine V_getR C fl_X7_167 (ob_K hM) (ob_R hM 43 1044 rfl rfl) rfl dX7_gathers_136 ?_
              refine V_bipush C (v := nI 12) dX7_gathers_139 (by decide +kernel) ?_
              refine V_iload C dX7_gathers_141 rfl ?_
              refine V_imul C dX7_gathers_143 ?_
              refine V_iload C dX7_gathers_144 rfl ?_
              refine V_iadd C dX7_gathers_146 ?_
              refine V_iload C dX7_gathers_147 rfl ?_
              refine V_iload_n C dX7_gathers_149 rfl ?_
              refine V_tern_icmp_ne (vt := refD Ic J b 4 (5 * r + s)) (vf := nI 0) (pm := 163) C 162 dX7_gathers_150 (by decide) (fun h150 k => ?_) (fun h150 k => ?_) ?_
              · refine V_aload_n C dX7_gathers_153 rfl ?_
                refine V_getR C fl_X7_110 (ob_K hM) (ob_R hM 22 1023 rfl rfl) rfl dX7_gathers_154 ?_
                refine V_iconst C (v := nI 4) dX7_gathers_157 (by decide +kernel) ?_
                refine V_iald C (4) (ob_A hM 22 1023 rfl rfl) (by first | rfl | (simp only [nI_add, pk_mul]; done) | (simp only [nI_add, pk_mul]; congr 1; omega)) (by rw [ob_N hM 22 1023 rfl rfl]; omega) (by rw [ob_N hM 22 1023 rfl rfl]; decide) dX7_gathers_158 ?_
                rw [e23']
                refine V_goto C 163 dX7_gathers_159 (by decide) ?_
                exact k
              · refine V_iconst C (v := nI 0) dX7_gathers_162 (by decide +kernel) ?_
                exact k
              refine V_iast C (360 * b + (12 * cm + q)) (ob_A hM 43 1044 rfl rfl) (by first | rfl | (simp only [nI_add, pk_mul]; done) | (simp only [nI_add, pk_mul]; congr 1; omega)) (by rw [ob_N hM 43 1044 rfl rfl]; omega) (by rw [ob_N hM 43 1044 rfl rfl]; decide) dX7_gathers_163 ?_
              refine V_iincU C dX7_gathers_164 rfl (hn _ (by decide)) ?_
              refine V_goto C 128 dX7_gathers_167 (by decide) ?_
              exact ih3 (q + 1) _ _ (by omega) (hN.step (by omega))
          show V X P 0 0 14 [some (.ref 1000), some (.int (nI b)), some (.int (nI r)), some (.int (nI s)), x4, x5, x6] [] S Ic J
          refine V_iload_n C dX7_gathers_14 rfl ?_
          refine V_if_lt C 202 dX7_gathers_15 (by decide) (fun h15 => absurd h15 (nI_pos (by omega))) (fun h15 => ?_)
          refine V_aload_n C dX7_gathers_18 rfl ?_
          refine V_iload_n C dX7_gathers_19 rfl ?_
          refine V_iload_n C dX7_gathers_20 rfl ?_
          refine V_iload_n C dX7_gathers_21 rfl ?_
          refine V_callV (F := fun _ => True) C (m_knowsDust hM hb hDc (by omega) (by omega)) mi_X7_knowsDust ml_X7_355 rfl (ob_K hM) (by decide) (by decide) (by decide) (Nat.le_of_ble_eq_true rfl) (fun _ _ => trivial) (fun v _ => clo_T v) rfl dX7_gathers_22 ?_
          rintro v S' I' J' ⟨hS, rfl, hI, hJ⟩
          obtain rfl := hS.symm
          obtain rfl := hI.symm
          obtain rfl := hJ.symm
          refine V_aload_n C dX7_gathers_25 rfl ?_
          refine V_iconst C (v := nI 3) dX7_gathers_26 (by decide +kernel) ?_
          refine V_callV (F := fun _ => True) C (m_lawK hM hGc (by omega)) mi_X7_lawFor ml_X7_359 rfl (ob_K hM) (by decide) (by decide) (by decide) (Nat.le_of_ble_eq_true rfl) (fun _ _ => trivial) (fun v _ => clo_T v) rfl dX7_gathers_27 ?_
          rintro v S' I' J' ⟨hS, rfl, ⟨p2, hI⟩, hJ⟩
          obtain rfl := hS.symm
          obtain rfl := hJ.symm
          have hS2 := (Sc.kn (I := Ic) (kn (Ic 1023) (fDu (refD Ic J b) r s))).tr (Sc.pl p2)
          have e23 : (va_up (va_up Ic 1023 (kn (Ic 1023) (fDu (refD Ic J b) r s))) 1024 p2) 1023 4 = refD Ic J b 4 (5 * r + s) := rfl
          rw [← hI] at hS2 e23
          clear hI
          have hF2 := hF.tr (hS2.fr (J := J) (b := b))
          have eD : refD I' J b = refD Ic J b := hS2.eq b
          have e37 : I' 1037 b = nI (cmD (refD Ic J b)) := by rw [hS2 1037 (by decide) (by decide) (by decide) (by decide)]; exact r_cm hDc
          refine V_istore C dX7_gathers_30 (hn _ (by decide)) ?_
          refine V_iload C dX7_gathers_32 rfl ?_
          refine V_if_lt C 196 dX7_gathers_34 (by decide) (fun h34 => ?_) (fun h34 => ?_)
          · refine V_iinc C dX7_gathers_196 rfl (hn _ (by decide)) ?_
            refine V_goto C 14 dX7_gathers_199 (by decide) ?_
            first
              | exact fin _ _ _ _ hF2 (by rw [eD, gathAt, if_pos (show kcl L g 3 (fDu (refD Ic J b) r s) < 0 from h34)])
              | exact fin _ _ _ _ hF2 (by rw [eD, gathAt, if_neg (show ¬ kcl L g 3 (fDu (refD Ic J b) r s) < 0 from h34), if_pos (show refD Ic J b 4 (5 * r + s) < kcl L g 3 (fDu (refD Ic J b) r s) from h45)])
              | exact fin _ _ _ _ hF2 (by rw [eD, gathAt, if_neg (show ¬ kcl L g 3 (fDu (refD Ic J b) r s) < 0 from h34), if_neg (show ¬ refD Ic J b 4 (5 * r + s) < kcl L g 3 (fDu (refD Ic J b) r s) from h45), if_pos (show nI 30 ≤ refD Ic J b 0 6 by rw [hDc.2.2.2.1]; exact h56)])
          · refine V_aload_n C dX7_gathers_37 rfl ?_
            refine V_getR C fl_X7_110 (ob_K hM) (ob_R hM 22 1023 rfl rfl) rfl dX7_gathers_38 ?_
            refine V_iconst C (v := nI 4) dX7_gathers_41 (by decide +kernel) ?_
            refine V_iald C (4) (ob_A hM 22 1023 rfl rfl) (by first | rfl | (simp only [nI_add, pk_mul]; done) | (simp only [nI_add, pk_mul]; congr 1; omega)) (by rw [ob_N hM 22 1023 rfl rfl]; omega) (by rw [ob_N hM 22 1023 rfl rfl]; decide) dX7_gathers_42 ?_
            rw [e23]
            refine V_iload C dX7_gathers_43 rfl ?_
            refine V_icmp_lt C 196 dX7_gathers_45 (by decide) (fun h45 => ?_) (fun h45 => ?_)
            · refine V_iinc C dX7_gathers_196 rfl (hn _ (by decide)) ?_
              refine V_goto C 14 dX7_gathers_199 (by decide) ?_
              first
                | exact fin _ _ _ _ hF2 (by rw [eD, gathAt, if_pos (show kcl L g 3 (fDu (refD Ic J b) r s) < 0 from h34)])
                | exact fin _ _ _ _ hF2 (by rw [eD, gathAt, if_neg (show ¬ kcl L g 3 (fDu (refD Ic J b) r s) < 0 from h34), if_pos (show refD Ic J b 4 (5 * r + s) < kcl L g 3 (fDu (refD Ic J b) r s) from h45)])
                | exact fin _ _ _ _ hF2 (by rw [eD, gathAt, if_neg (show ¬ kcl L g 3 (fDu (refD Ic J b) r s) < 0 from h34), if_neg (show ¬ refD Ic J b 4 (5 * r + s) < kcl L g 3 (fDu (refD Ic J b) r s) from h45), if_pos (show nI 30 ≤ refD Ic J b 0 6 by rw [hDc.2.2.2.1]; exact h56)])
            · refine V_aload_n C dX7_gathers_48 rfl ?_
              refine V_getR C fl_X7_146 (ob_K hM) (ob_R hM 36 1037 rfl rfl) rfl dX7_gathers_49 ?_
              refine V_iload_n C dX7_gathers_52 rfl ?_
              refine V_iald C (b) (ob_A hM 36 1037 rfl rfl) (by first | rfl | (simp only [nI_add, pk_mul]; done) | (simp only [nI_add, pk_mul]; congr 1; omega)) (by rw [ob_N hM 36 1037 rfl rfl]; omega) (by rw [ob_N hM 36 1037 rfl rfl]; decide) dX7_gathers_53 ?_
              rw [e37]
              refine V_bipush C (v := nI 30) dX7_gathers_54 (by decide +kernel) ?_
              refine V_icmp_ge C 196 dX7_gathers_56 (by decide) (fun h56 => ?_) (fun h56 => ?_)
              · refine V_iinc C dX7_gathers_196 rfl (hn _ (by decide)) ?_
                refine V_goto C 14 dX7_gathers_199 (by decide) ?_
                first
                  | exact fin _ _ _ _ hF2 (by rw [eD, gathAt, if_pos (show kcl L g 3 (fDu (refD Ic J b) r s) < 0 from h34)])
                  | exact fin _ _ _ _ hF2 (by rw [eD, gathAt, if_neg (show ¬ kcl L g 3 (fDu (refD Ic J b) r s) < 0 from h34), if_pos (show refD Ic J b 4 (5 * r + s) < kcl L g 3 (fDu (refD Ic J b) r s) from h45)])
                  | exact fin _ _ _ _ hF2 (by rw [eD, gathAt, if_neg (show ¬ kcl L g 3 (fDu (refD Ic J b) r s) < 0 from h34), if_neg (show ¬ refD Ic J b 4 (5 * r + s) < kcl L g 3 (fDu (refD Ic J b) r s) from h45), if_pos (show nI 30 ≤ refD Ic J b 0 6 by rw [hDc.2.2.2.1]; exact h56)])
              · refine V_bipush C (v := nI 30) dX7_gathers_59 (by decide +kernel) ?_
                refine V_iload_n C dX7_gathers_61 rfl ?_
                refine V_imul C dX7_gathers_62 ?_
                refine V_aload_n C dX7_gathers_63 rfl ?_
                refine V_getR C fl_X7_146 (ob_K hM) (ob_R hM 36 1037 rfl rfl) rfl dX7_gathers_64 ?_
                refine V_iload_n C dX7_gathers_67 rfl ?_
                refine V_iald C (b) (ob_A hM 36 1037 rfl rfl) (by first | rfl | (simp only [nI_add, pk_mul]; done) | (simp only [nI_add, pk_mul]; congr 1; omega)) (by rw [ob_N hM 36 1037 rfl rfl]; omega) (by rw [ob_N hM 36 1037 rfl rfl]; decide) dX7_gathers_68 ?_
                rw [e37]
                refine V_iadd C dX7_gathers_69 ?_
                refine V_istore C dX7_gathers_70 (hn _ (by decide)) ?_
                have hc30 : cmD (refD Ic J b) < 30 := Nat.lt_of_not_le (fun q => h56 (nI_le q (by have := hDc.2.2.2.2.1; omega)))
                have hgt : gathAt (kcl L g) (refD Ic J b) r s = newL (refD Ic J b) r s := by rw [gathAt, if_neg (show ¬ kcl L g 3 (fDu (refD Ic J b) r s) < 0 from h34), if_neg (show ¬ refD Ic J b 4 (5 * r + s) < kcl L g 3 (fDu (refD Ic J b) r s) from h45), if_neg (show ¬ nI 30 ≤ refD Ic J b 0 6 by rw [hDc.2.2.2.1]; exact h56)]
                generalize hcm : cmD (refD Ic J b) = cm at hc30 e37 ⊢
                refine V_aload_n C dX7_gathers_72 rfl ?_
                refine V_getR C fl_X7_149 (ob_K hM) (ob_R hM 37 1038 rfl rfl) rfl dX7_gathers_73 ?_
                refine V_iload C dX7_gathers_76 rfl ?_
                refine V_iconst C (v := nI 0) dX7_gathers_78 (by decide +kernel) ?_
                refine V_iast C (30 * b + cm) (ob_A hM 37 1038 rfl rfl) (by first | rfl | (simp only [nI_add, pk_mul]; done) | (simp only [nI_add, pk_mul]; congr 1; omega)) (by rw [ob_N hM 37 1038 rfl rfl]; omega) (by rw [ob_N hM 37 1038 rfl rfl]; decide) dX7_gathers_79 ?_
                refine V_aload_n C dX7_gathers_80 rfl ?_
                refine V_getR C fl_X7_152 (ob_K hM) (ob_R hM 38 1039 rfl rfl) rfl dX7_gathers_81 ?_
                refine V_iload C dX7_gathers_84 rfl ?_
                refine V_iload_n C dX7_gathers_86 rfl ?_
                refine V_iast C (30 * b + cm) (ob_A hM 38 1039 rfl rfl) (by first | rfl | (simp only [nI_add, pk_mul]; done) | (simp only [nI_add, pk_mul]; congr 1; omega)) (by rw [ob_N hM 38 1039 rfl rfl]; omega) (by rw [ob_N hM 38 1039 rfl rfl]; decide) dX7_gathers_87 ?_
                refine V_aload_n C dX7_gathers_88 rfl ?_
                refine V_getR C fl_X7_155 (ob_K hM) (ob_R hM 39 1040 rfl rfl) rfl dX7_gathers_89 ?_
                refine V_iload C dX7_gathers_92 rfl ?_
                refine V_iconst C (v := nI 0) dX7_gathers_94 (by decide +kernel) ?_
                refine V_iast C (30 * b + cm) (ob_A hM 39 1040 rfl rfl) (by first | rfl | (simp only [nI_add, pk_mul]; done) | (simp only [nI_add, pk_mul]; congr 1; omega)) (by rw [ob_N hM 39 1040 rfl rfl]; omega) (by rw [ob_N hM 39 1040 rfl rfl]; decide) dX7_gathers_95 ?_
                refine V_aload_n C dX7_gathers_96 rfl ?_
                refine V_getR C fl_X7_158 (ob_K hM) (ob_R hM 40 1041 rfl rfl) rfl dX7_gathers_97 ?_
                refine V_iload C dX7_gathers_100 rfl ?_
                refine V_iconst C (v := nI 0) dX7_gathers_102 (by decide +kernel) ?_
                refine V_iast C (30 * b + cm) (ob_A hM 40 1041 rfl rfl) (by first | rfl | (simp only [nI_add, pk_mul]; done) | (simp only [nI_add, pk_mul]; congr 1; omega)) (by rw [ob_N hM 40 1041 rfl rfl]; omega) (by rw [ob_N hM 40 1041 rfl rfl]; decide) dX7_gathers_103 ?_
                refine V_aload_n C dX7_gathers_104 rfl ?_
                refine V_getR C fl_X7_161 (ob_K hM) (ob_R hM 41 1042 rfl rfl) rfl dX7_gathers_105 ?_
                refine V_iload C dX7_gathers_108 rfl ?_
                refine V_aload_n C dX7_gathers_110 rfl ?_
                refine V_getR C fl_X7_137 (ob_K hM) (ob_R hM 33 1034 rfl rfl) rfl dX7_gathers_111 ?_
                refine V_iload_n C dX7_gathers_114 rfl ?_
                refine V_iald C (b) (ob_A hM 33 1034 rfl rfl) (by first | rfl | (simp only [nI_add, pk_mul]; done) | (simp only [nI_add, pk_mul]; congr 1; omega)) (by rw [ob_N hM 33 1034 rfl rfl]; omega) (by rw [ob_N hM 33 1034 rfl rfl]; decide) dX7_gathers_115 ?_
                refine V_iast C (30 * b + cm) (ob_A hM 41 1042 rfl rfl) (by first | rfl | (simp only [nI_add, pk_mul]; done) | (simp only [nI_add, pk_mul]; congr 1; omega)) (by rw [ob_N hM 41 1042 rfl rfl]; omega) (by rw [ob_N hM 41 1042 rfl rfl]; decide) dX7_gathers_116 ?_
                refine V_aload_n C dX7_gathers_117 rfl ?_
                refine V_getR C fl_X7_164 (ob_K hM) (ob_R hM 42 1043 rfl rfl) rfl dX7_gathers_118 ?_
                refine V_iload C dX7_gathers_121 rfl ?_
                refine V_iconst C (v := (-1)) dX7_gathers_123 (by decide +kernel) ?_
                refine V_iast C (30 * b + cm) (ob_A hM 42 1043 rfl rfl) (by first | rfl | (simp only [nI_add, pk_mul]; done) | (simp only [nI_add, pk_mul]; congr 1; omega)) (by rw [ob_N hM 42 1043 rfl rfl]; omega) (by rw [ob_N hM 42 1043 rfl rfl]; decide) dX7_gathers_124 ?_
                refine V_iconst C (v := nI 0) dX7_gathers_125 (by decide +kernel) ?_
                refine V_istore C dX7_gathers_126 (hn _ (by decide)) ?_
                exact made I' cm hS2 e23 hcm hc30 hgt 12 0 _ _ rfl ⟨fun a ha => by rw [up2_ne _ _ _ (by omega), up2_ne _ _ _ (by omega), up2_ne _ _ _ (by omega), up2_ne _ _ _ (by omega), up2_ne _ _ _ (by omega), up2_ne _ _ _ (by omega)], rfl, rfl, rfl, rfl, rfl, rfl, fun k hk => absurd hk (Nat.not_lt_zero _), fun _ _ => rfl⟩
      refine V_iload_n C dX7_gathers_2 rfl ?_
      refine V_aload_n C dX7_gathers_3 rfl ?_
      refine V_getR C fl_X7_116 (ob_K hM) (ob_R hM 26 1027 rfl rfl) rfl dX7_gathers_4 ?_
      refine V_iload_n C dX7_gathers_7 rfl ?_
      refine V_iald C (b) (ob_A hM 26 1027 rfl rfl) (by first | rfl | (simp only [nI_add, pk_mul]; done) | (simp only [nI_add, pk_mul]; congr 1; omega)) (by rw [ob_N hM 26 1027 rfl rfl]; omega) (by rw [ob_N hM 26 1027 rfl rfl]; decide) dX7_gathers_8 ?_
      refine V_icmp_ge C 208 dX7_gathers_9 (by decide) (fun h9 => absurd h9 (c9)) (fun h9 => ?_)
      refine V_iconst C (v := nI 4) dX7_gathers_12 (by decide +kernel) ?_
      refine V_istore_n C dX7_gathers_13 (hn _ (by decide)) ?_
      exact inner 5 Ic _ _ _ (by omega) hF hk he
  refine V_iconst C (v := nI 0) dX7_gathers_0 (by decide +kernel) ?_
  refine V_istore_n C dX7_gathers_1 (hn _ (by decide)) ?_
  exact outer n 0 I _ _ _ _ (by omega) Fr.re ⟨hD, rfl⟩ rfl
end M9
