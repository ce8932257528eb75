/-! the reference's writes to its other rows -/
section SP2
variable {I I' I2 : HI} {J J' J2 : HJ} {b k : Nat}
theorem rwm_at {f : Nat → Int32} {n b k x cm : Nat} {v : Int32} (hk : k < cm) : (if x < cm then va_up f (n * b + k) v (n * b + x) else 0) = va_up (fun x => if x < cm then f (n * b + x) else 0) k v x := by
  unfold va_up
  by_cases h : x < cm
  · rw [if_pos h]
    by_cases e : x = k
    · rw [if_pos e, if_pos (by rw [e])]
    · rw [if_neg e, if_neg (fun q => e (by omega))]
      exact (if_pos h).symm
  · rw [if_neg h, if_neg (fun e => h (by omega))]
    exact (if_neg h).symm
theorem rwm_ne {f : Nat → Int32} {n b d k x cm : Nat} {v : Int32} (hk : k < n) (hcm : cm ≤ n) (hd : d ≠ b) : (if x < cm then va_up f (n * b + k) v (n * d + x) else 0) = if x < cm then f (n * d + x) else 0 := by
  by_cases h : x < cm
  · rw [if_pos h, if_pos h]
    refine va_up_ne _ _ (fun e => hd ?_)
    have h1 : n * d + x = n * b + k := e
    have h2 : (n * d + x) / n = (n * b + k) / n := by rw [h1]
    rwa [Nat.mul_add_div (by omega), Nat.mul_add_div (by omega), Nat.div_eq_of_lt (Nat.lt_of_lt_of_le h hcm), Nat.div_eq_of_lt hk] at h2
  · rw [if_neg h, if_neg h]
/-- of every disk at most thirty lumps came -/
def cAll (I : HI) (J : HJ) : Prop := ∀ d, d < 8 → cmD (refD I J d) ≤ 30
theorem Fr.cm (h : Fr b I J I' J') (hC : cAll I J) (hb : cmD (refD I' J' b) ≤ 30) : cAll I' J' := fun d hd => by
  by_cases e : d = b
  · subst e; exact hb
  · rw [h.2.1 d hd e]; exact hC d hd
theorem rGas {v : Int32} (hk : k < 12) : refD (up2 I 1028 (12 * b + k) v) J b = up2 (refD I J b) 1 k v := by
  funext c x
  match c with
  | 0 => rfl
  | 1 => exact rw_at (f := I 1028) hk
  | 2 => rfl
  | 3 => rfl
  | 4 => rfl
  | 5 => rfl
  | 6 => rfl
  | 7 => rfl
  | 8 => rfl
  | 9 => rfl
  | 10 => rfl
  | 11 => rfl
  | c + 12 => rfl
theorem rGas_ne {d : Nat} {v : Int32} (hk : k < 12) (hd : d ≠ b) : refD (up2 I 1028 (12 * b + k) v) J d = refD I J d := by
  funext c x
  match c with
  | 0 => rfl
  | 1 => exact rw_ne (f := I 1028) hk hd
  | 2 => rfl
  | 3 => rfl
  | 4 => rfl
  | 5 => rfl
  | 6 => rfl
  | 7 => rfl
  | 8 => rfl
  | 9 => rfl
  | 10 => rfl
  | 11 => rfl
  | c + 12 => rfl
theorem Fr.Gas {v : Int32} (hk : k < 12) : Fr b I J (up2 I 1028 (12 * b + k) v) J := Fr.int (fun a ha => up2_ne _ _ _ (by omega)) (fun d _ h => rGas_ne hk h)
theorem rWarm {v : Int32} (hk : k < 12) : refD (up2 I 1029 (12 * b + k) v) J b = up2 (refD I J b) 2 k v := by
  funext c x
  match c with
  | 0 => rfl
  | 1 => rfl
  | 2 => exact rw_at (f := I 1029) hk
  | 3 => rfl
  | 4 => rfl
  | 5 => rfl
  | 6 => rfl
  | 7 => rfl
  | 8 => rfl
  | 9 => rfl
  | 10 => rfl
  | 11 => rfl
  | c + 12 => rfl
theorem rWarm_ne {d : Nat} {v : Int32} (hk : k < 12) (hd : d ≠ b) : refD (up2 I 1029 (12 * b + k) v) J d = refD I J d := by
  funext c x
  match c with
  | 0 => rfl
  | 1 => rfl
  | 2 => exact rw_ne (f := I 1029) hk hd
  | 3 => rfl
  | 4 => rfl
  | 5 => rfl
  | 6 => rfl
  | 7 => rfl
  | 8 => rfl
  | 9 => rfl
  | 10 => rfl
  | 11 => rfl
  | c + 12 => rfl
theorem Fr.Warm {v : Int32} (hk : k < 12) : Fr b I J (up2 I 1029 (12 * b + k) v) J := Fr.int (fun a ha => up2_ne _ _ _ (by omega)) (fun d _ h => rWarm_ne hk h)
theorem rPer {v : Int32} (hk : k < 12) : refD (up2 I 1030 (12 * b + k) v) J b = up2 (refD I J b) 3 k v := by
  funext c x
  match c with
  | 0 => rfl
  | 1 => rfl
  | 2 => rfl
  | 3 => exact rw_at (f := I 1030) hk
  | 4 => rfl
  | 5 => rfl
  | 6 => rfl
  | 7 => rfl
  | 8 => rfl
  | 9 => rfl
  | 10 => rfl
  | 11 => rfl
  | c + 12 => rfl
theorem rPer_ne {d : Nat} {v : Int32} (hk : k < 12) (hd : d ≠ b) : refD (up2 I 1030 (12 * b + k) v) J d = refD I J d := by
  funext c x
  match c with
  | 0 => rfl
  | 1 => rfl
  | 2 => rfl
  | 3 => exact rw_ne (f := I 1030) hk hd
  | 4 => rfl
  | 5 => rfl
  | 6 => rfl
  | 7 => rfl
  | 8 => rfl
  | 9 => rfl
  | 10 => rfl
  | 11 => rfl
  | c + 12 => rfl
theorem Fr.Per {v : Int32} (hk : k < 12) : Fr b I J (up2 I 1030 (12 * b + k) v) J := Fr.int (fun a ha => up2_ne _ _ _ (by omega)) (fun d _ h => rPer_ne hk h)
theorem rSt {v : Int32} (hk : k < cmD (refD I J b)) : refD (up2 I 1038 (30 * b + k) v) J b = up2 (refD I J b) 5 k v := by
  funext c x
  match c with
  | 0 => rfl
  | 1 => rfl
  | 2 => rfl
  | 3 => rfl
  | 4 => rfl
  | 5 => exact rwm_at (f := I 1038) (cm := cmD (refD I J b)) hk
  | 6 => rfl
  | 7 => rfl
  | 8 => rfl
  | 9 => rfl
  | 10 => rfl
  | 11 => rfl
  | c + 12 => rfl
theorem rSt_ne {d : Nat} {v : Int32} (hk : k < 30) (hd : d ≠ b) (hC : cmD (refD I J d) ≤ 30) : refD (up2 I 1038 (30 * b + k) v) J d = refD I J d := by
  funext c x
  match c with
  | 0 => rfl
  | 1 => rfl
  | 2 => rfl
  | 3 => rfl
  | 4 => rfl
  | 5 => exact rwm_ne (f := I 1038) (cm := cmD (refD I J d)) hk hC hd
  | 6 => rfl
  | 7 => rfl
  | 8 => rfl
  | 9 => rfl
  | 10 => rfl
  | 11 => rfl
  | c + 12 => rfl
theorem Fr.St {v : Int32} (hC : cAll I J) (hk : k < 30) : Fr b I J (up2 I 1038 (30 * b + k) v) J := Fr.int (fun a ha => up2_ne _ _ _ (by omega)) (fun d h8 h => rSt_ne hk h (hC d h8))
theorem rRg {v : Int32} (hk : k < cmD (refD I J b)) : refD (up2 I 1039 (30 * b + k) v) J b = up2 (refD I J b) 6 k v := by
  funext c x
  match c with
  | 0 => rfl
  | 1 => rfl
  | 2 => rfl
  | 3 => rfl
  | 4 => rfl
  | 5 => rfl
  | 6 => exact rwm_at (f := I 1039) (cm := cmD (refD I J b)) hk
  | 7 => rfl
  | 8 => rfl
  | 9 => rfl
  | 10 => rfl
  | 11 => rfl
  | c + 12 => rfl
theorem rRg_ne {d : Nat} {v : Int32} (hk : k < 30) (hd : d ≠ b) (hC : cmD (refD I J d) ≤ 30) : refD (up2 I 1039 (30 * b + k) v) J d = refD I J d := by
  funext c x
  match c with
  | 0 => rfl
  | 1 => rfl
  | 2 => rfl
  | 3 => rfl
  | 4 => rfl
  | 5 => rfl
  | 6 => exact rwm_ne (f := I 1039) (cm := cmD (refD I J d)) hk hC hd
  | 7 => rfl
  | 8 => rfl
  | 9 => rfl
  | 10 => rfl
  | 11 => rfl
  | c + 12 => rfl
theorem Fr.Rg {v : Int32} (hC : cAll I J) (hk : k < 30) : Fr b I J (up2 I 1039 (30 * b + k) v) J := Fr.int (fun a ha => up2_ne _ _ _ (by omega)) (fun d h8 h => rRg_ne hk h (hC d h8))
theorem rGa {v : Int32} (hk : k < cmD (refD I J b)) : refD (up2 I 1040 (30 * b + k) v) J b = up2 (refD I J b) 7 k v := by
  funext c x
  match c with
  | 0 => rfl
  | 1 => rfl
  | 2 => rfl
  | 3 => rfl
  | 4 => rfl
  | 5 => rfl
  | 6 => rfl
  | 7 => exact rwm_at (f := I 1040) (cm := cmD (refD I J b)) hk
  | 8 => rfl
  | 9 => rfl
  | 10 => rfl
  | 11 => rfl
  | c + 12 => rfl
theorem rGa_ne {d : Nat} {v : Int32} (hk : k < 30) (hd : d ≠ b) (hC : cmD (refD I J d) ≤ 30) : refD (up2 I 1040 (30 * b + k) v) J d = refD I J d := by
  funext c x
  match c with
  | 0 => rfl
  | 1 => rfl
  | 2 => rfl
  | 3 => rfl
  | 4 => rfl
  | 5 => rfl
  | 6 => rfl
  | 7 => exact rwm_ne (f := I 1040) (cm := cmD (refD I J d)) hk hC hd
  | 8 => rfl
  | 9 => rfl
  | 10 => rfl
  | 11 => rfl
  | c + 12 => rfl
theorem Fr.Ga {v : Int32} (hC : cAll I J) (hk : k < 30) : Fr b I J (up2 I 1040 (30 * b + k) v) J := Fr.int (fun a ha => up2_ne _ _ _ (by omega)) (fun d h8 h => rGa_ne hk h (hC d h8))
theorem rTi {v : Int32} (hk : k < cmD (refD I J b)) : refD (up2 I 1041 (30 * b + k) v) J b = up2 (refD I J b) 8 k v := by
  funext c x
  match c with
  | 0 => rfl
  | 1 => rfl
  | 2 => rfl
  | 3 => rfl
  | 4 => rfl
  | 5 => rfl
  | 6 => rfl
  | 7 => rfl
  | 8 => exact rwm_at (f := I 1041) (cm := cmD (refD I J b)) hk
  | 9 => rfl
  | 10 => rfl
  | 11 => rfl
  | c + 12 => rfl
theorem rTi_ne {d : Nat} {v : Int32} (hk : k < 30) (hd : d ≠ b) (hC : cmD (refD I J d) ≤ 30) : refD (up2 I 1041 (30 * b + k) v) J d = refD I J d := by
  funext c x
  match c with
  | 0 => rfl
  | 1 => rfl
  | 2 => rfl
  | 3 => rfl
  | 4 => rfl
  | 5 => rfl
  | 6 => rfl
  | 7 => rfl
  | 8 => exact rwm_ne (f := I 1041) (cm := cmD (refD I J d)) hk hC hd
  | 9 => rfl
  | 10 => rfl
  | 11 => rfl
  | c + 12 => rfl
theorem Fr.Ti {v : Int32} (hC : cAll I J) (hk : k < 30) : Fr b I J (up2 I 1041 (30 * b + k) v) J := Fr.int (fun a ha => up2_ne _ _ _ (by omega)) (fun d h8 h => rTi_ne hk h (hC d h8))
theorem rBo {v : Int32} (hk : k < cmD (refD I J b)) : refD (up2 I 1042 (30 * b + k) v) J b = up2 (refD I J b) 9 k v := by
  funext c x
  match c with
  | 0 => rfl
  | 1 => rfl
  | 2 => rfl
  | 3 => rfl
  | 4 => rfl
  | 5 => rfl
  | 6 => rfl
  | 7 => rfl
  | 8 => rfl
  | 9 => exact rwm_at (f := I 1042) (cm := cmD (refD I J b)) hk
  | 10 => rfl
  | 11 => rfl
  | c + 12 => rfl
theorem rBo_ne {d : Nat} {v : Int32} (hk : k < 30) (hd : d ≠ b) (hC : cmD (refD I J d) ≤ 30) : refD (up2 I 1042 (30 * b + k) v) J d = refD I J d := by
  funext c x
  match c with
  | 0 => rfl
  | 1 => rfl
  | 2 => rfl
  | 3 => rfl
  | 4 => rfl
  | 5 => rfl
  | 6 => rfl
  | 7 => rfl
  | 8 => rfl
  | 9 => exact rwm_ne (f := I 1042) (cm := cmD (refD I J d)) hk hC hd
  | 10 => rfl
  | 11 => rfl
  | c + 12 => rfl
theorem Fr.Bo {v : Int32} (hC : cAll I J) (hk : k < 30) : Fr b I J (up2 I 1042 (30 * b + k) v) J := Fr.int (fun a ha => up2_ne _ _ _ (by omega)) (fun d h8 h => rBo_ne hk h (hC d h8))
theorem rEa {v : Int32} (hk : k < cmD (refD I J b)) : refD (up2 I 1043 (30 * b + k) v) J b = up2 (refD I J b) 10 k v := by
  funext c x
  match c with
  | 0 => rfl
  | 1 => rfl
  | 2 => rfl
  | 3 => rfl
  | 4 => rfl
  | 5 => rfl
  | 6 => rfl
  | 7 => rfl
  | 8 => rfl
  | 9 => rfl
  | 10 => exact rwm_at (f := I 1043) (cm := cmD (refD I J b)) hk
  | 11 => rfl
  | c + 12 => rfl
theorem rEa_ne {d : Nat} {v : Int32} (hk : k < 30) (hd : d ≠ b) (hC : cmD (refD I J d) ≤ 30) : refD (up2 I 1043 (30 * b + k) v) J d = refD I J d := by
  funext c x
  match c with
  | 0 => rfl
  | 1 => rfl
  | 2 => rfl
  | 3 => rfl
  | 4 => rfl
  | 5 => rfl
  | 6 => rfl
  | 7 => rfl
  | 8 => rfl
  | 9 => rfl
  | 10 => exact rwm_ne (f := I 1043) (cm := cmD (refD I J d)) hk hC hd
  | 11 => rfl
  | c + 12 => rfl
theorem Fr.Ea {v : Int32} (hC : cAll I J) (hk : k < 30) : Fr b I J (up2 I 1043 (30 * b + k) v) J := Fr.int (fun a ha => up2_ne _ _ _ (by omega)) (fun d h8 h => rEa_ne hk h (hC d h8))
theorem rMa {v : Int32} (hk : k < 12 * cmD (refD I J b)) : refD (up2 I 1044 (360 * b + k) v) J b = up2 (refD I J b) 11 k v := by
  funext c x
  match c with
  | 0 => rfl
  | 1 => rfl
  | 2 => rfl
  | 3 => rfl
  | 4 => rfl
  | 5 => rfl
  | 6 => rfl
  | 7 => rfl
  | 8 => rfl
  | 9 => rfl
  | 10 => rfl
  | 11 => exact rwm_at (f := I 1044) (cm := 12 * cmD (refD I J b)) hk
  | c + 12 => rfl
theorem rMa_ne {d : Nat} {v : Int32} (hk : k < 360) (hd : d ≠ b) (hC : cmD (refD I J d) ≤ 30) : refD (up2 I 1044 (360 * b + k) v) J d = refD I J d := by
  funext c x
  match c with
  | 0 => rfl
  | 1 => rfl
  | 2 => rfl
  | 3 => rfl
  | 4 => rfl
  | 5 => rfl
  | 6 => rfl
  | 7 => rfl
  | 8 => rfl
  | 9 => rfl
  | 10 => rfl
  | 11 => exact rwm_ne (f := I 1044) (cm := 12 * cmD (refD I J d)) hk (by omega) hd
  | c + 12 => rfl
theorem Fr.Ma {v : Int32} (hC : cAll I J) (hk : k < 360) : Fr b I J (up2 I 1044 (360 * b + k) v) J := Fr.int (fun a ha => up2_ne _ _ _ (by omega)) (fun d h8 h => rMa_ne hk h (hC d h8))
/-- a change of what is told and tried alone -/
def Sc (I I' : HI) : Prop := ∀ a, a ≠ 1023 → a ≠ 1024 → a ≠ 1047 → a ≠ 1048 → I' a = I a
theorem Sc.re : Sc I I := fun _ _ _ _ _ => rfl
theorem Sc.tr (h : Sc I I2) (g : Sc I2 I') : Sc I I' := fun a h1 h2 h3 h4 => (g a h1 h2 h3 h4).trans (h a h1 h2 h3 h4)
theorem Sc.kn (f : Nat → Int32) : Sc I (va_up I 1023 f) := fun a h1 _ _ _ => va_up_ne _ _ h1
theorem Sc.pl (f : Nat → Int32) : Sc I (va_up I 1024 f) := fun a _ h1 _ _ => va_up_ne _ _ h1
theorem Sc.lv (j : Nat) (v : Int32) : Sc I (up2 I 1047 j v) := fun a _ _ h1 _ => up2_ne _ _ _ h1
theorem Sc.he (j : Nat) (v : Int32) : Sc I (up2 I 1048 j v) := fun a _ _ _ h1 => up2_ne _ _ _ h1
theorem Sc.eq (h : Sc I I') (d : Nat) : refD I' J d = refD I J d := refD_congr (fun a h1 h2 => h a (by omega) (by omega) (by omega) (by omega))
theorem Sc.fr (h : Sc I I') : Fr b I J I' J := Fr.int (fun a ha => h a (by omega) (by omega) (by omega) (by omega)) (fun d _ _ => h.eq d)
end SP2
