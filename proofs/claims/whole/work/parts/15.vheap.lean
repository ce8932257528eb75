/-! rules of V: fields, arrays, returns -/
section VH
/-- the word of a field instruction: class ci's field x under the pool number ix of the class own -/
def FL (own : String) (ix ci x : Nat) : Prop := Cond.fieldLink own ix (Tc ci x).1 (Tc ci x).2.1 (Tc ci x).2.2.1 ∈ gtb ∧ x < nf ci ∧ ci < 8
theorem inX0 : ∀ w ∈ u_ws RX0 TX0 8, w ∈ gtb := by decide +kernel
theorem inX1 : ∀ w ∈ u_ws RX1 TX1 13, w ∈ gtb := by decide +kernel
theorem inX2 : ∀ w ∈ u_ws RX2 TX2 12, w ∈ gtb := by decide +kernel
theorem inX3 : ∀ w ∈ u_ws RX3 TX3 8, w ∈ gtb := by decide +kernel
theorem inX4 : ∀ w ∈ u_ws RX4 TX4 7, w ∈ gtb := by decide +kernel
theorem inX5 : ∀ w ∈ u_ws RX5 TX5 2, w ∈ gtb := by decide +kernel
theorem inX6 : ∀ w ∈ u_ws RX6 TX6 12, w ∈ gtb := by decide +kernel
theorem inX7 : ∀ w ∈ u_ws RX7 TX7 52, w ∈ gtb := by decide +kernel
theorem cl_ok (ci : Nat) (h : ci < 8) : vwCl[ci]? = some (Rc ci, Tc ci, nf ci) ∧ (∀ w ∈ u_ws (Rc ci) (Tc ci) (nf ci), w ∈ gtb) ∧ (∀ k, k < nf ci → parseFieldDescriptor (Tc ci k).2.2.1 = some (tyc ci k)) ∧ (∀ a, a < nf ci → ∀ b, b < nf ci → a ≠ b → (Tc ci a).2.1 ≠ (Tc ci b).2.1) := by
  match ci, h with
  | 0, _ => exact ⟨rfl, inX0, tyX0_ok, nmX0⟩
  | 1, _ => exact ⟨rfl, inX1, tyX1_ok, nmX1⟩
  | 2, _ => exact ⟨rfl, inX2, tyX2_ok, nmX2⟩
  | 3, _ => exact ⟨rfl, inX3, tyX3_ok, nmX3⟩
  | 4, _ => exact ⟨rfl, inX4, tyX4_ok, nmX4⟩
  | 5, _ => exact ⟨rfl, inX5, tyX5_ok, nmX5⟩
  | 6, _ => exact ⟨rfl, inX6, tyX6_ok, nmX6⟩
  | 7, _ => exact ⟨rfl, inX7, tyX7_ok, nmX7⟩
variable {X : VX} {cc : ByteArray} {y : MethodName} {ret : Option FieldType} {rm : Room} {post : Option Value → HS → HI → HJ → Prop} {nc ns pc : Nat} {lv : List (Option Value)} {st : List Value} {S : HS} {I : HI} {J : HJ}
theorem V_get0 (C : Cx X cc y ret rm) {ix ci x a : Nat} {v : Value} (hf : FL y.cls ix ci x) (hK : S.1 a = ci + 1) (hv : ∀ ad, fv ad (S.2.2 a) (I a) (J a) x (tyc ci x) = vv ad v) (hd : decode cc pc = .ok (.getfield ix, 3)) (k : V X post nc ns (pc + 3) lv (v :: st) S I J) : V X post nc ns pc lv (.ref a :: st) S I J := fun ad H locs ls h1 h2 h3 h4 => by
  obtain ⟨L, n1, n2, hP, hD⟩ := id h1
  obtain ⟨q0, -, hq⟩ := wsl_get (cy := xy X) (ad := ad) (S := S) (I := I) (J := J) ((n2 a).mpr (by rw [hK]; omega))
  rw [cel_o hK hf.2.2] at hq
  obtain ⟨c1, c2, -, -⟩ := cl_ok ci hf.2.2
  exact va_get C.1 C.2.1 (D := xD X) (v := vv ad v) C.2.2.2.2.1 c2 C.2.2.2.1 C.2.2.2.2.2.2.2.1 hP q0 hq c1 x hf.2.1 (C.2.2.2.2.1 _ hf.1) (fun _ h9 => h9) (by rw [fls_get hf.2.1, hv ad]) hd (k ad H locs ls h1 h2 h3 h4)
theorem V_getI (C : Cx X cc y ret rm) {ix ci x a : Nat} (hf : FL y.cls ix ci x) (hK : S.1 a = ci + 1) (ht : tyc ci x = .int) (hd : decode cc pc = .ok (.getfield ix, 3)) (k : V X post nc ns (pc + 3) lv (.int (I a x) :: st) S I J) : V X post nc ns pc lv (.ref a :: st) S I J :=
  V_get0 C hf hK (fun ad => by rw [ht]; rfl) hd k
theorem V_getJ (C : Cx X cc y ret rm) {ix ci x a : Nat} (hf : FL y.cls ix ci x) (hK : S.1 a = ci + 1) (ht : tyc ci x = .long) (hd : decode cc pc = .ok (.getfield ix, 3)) (k : V X post nc ns (pc + 3) lv (.long (J a x) :: st) S I J) : V X post nc ns pc lv (.ref a :: st) S I J :=
  V_get0 C hf hK (fun ad => by rw [ht]; rfl) hd k
def isRt (ty : FieldType) : Bool := match ty with
  | .object _ => true
  | .array _ => true
  | _ => false
theorem V_getR (C : Cx X cc y ret rm) {ix ci x a b : Nat} (hf : FL y.cls ix ci x) (hK : S.1 a = ci + 1) (hR : S.2.2 a x = some b) (ht : isRt (tyc ci x) = true) (hd : decode cc pc = .ok (.getfield ix, 3)) (k : V X post nc ns (pc + 3) lv (.ref b :: st) S I J) : V X post nc ns pc lv (.ref a :: st) S I J :=
  V_get0 C hf hK (fun ad => by revert ht; cases tyc ci x <;> simp [isRt, fv, hR, va_rf, vv]) hd k
/-- a new state of the cell a -/
theorem Rl_set {D : va_G} {cy : Nat → ClassId} {B0 : Nat → Prop} {ad : Nat → Nat} {S' : HS} {I' : HI} {J' : HJ} {L : List Nat} {a q0 : Nat} {x : va_E} {H1 : Heap} (n1 : nrep L) (n2 : ∀ k, k ∈ L ↔ S.1 k ≠ 0) (hq : L[q0]? = some a) (hx : cel cy ad S' I' J' a = x) (ho : ∀ b, b ≠ a → cel cy ad S' I' J' b = cel cy ad S I J b) (hS : S'.1 = S.1) (hP : va_P D vwCl ((wsl cy ad S I J L).set q0 (ad a, x)) H1) (hD : va_D B0 ((wsl cy ad S I J L).set q0 (ad a, x))) : Rl D cy B0 ad S' I' J' H1 := by
  rw [wsl_set n1 hq hx ho] at hP hD
  exact ⟨L, n1, fun k => by rw [hS]; exact n2 k, hP, hD⟩
theorem V_putI (C : Cx X cc y ret rm) {ix ci x a : Nat} {v : Int32} (hf : FL y.cls ix ci x) (hK : S.1 a = ci + 1) (ht : tyc ci x = .int) (hfin : (Tc ci x).2.2.2 = false) (hd : decode cc pc = .ok (.putfield ix, 3)) (k : V X post nc ns (pc + 3) lv st S (up2 I a x v) J) : V X post nc ns pc lv (.int v :: .ref a :: st) S I J := fun ad H locs ls h1 h2 h3 h4 => by
  obtain ⟨L, n1, n2, hP, hD⟩ := h1
  obtain ⟨q0, hL, hq⟩ := wsl_get (cy := xy X) (ad := ad) (S := S) (I := I) (J := J) ((n2 a).mpr (by rw [hK]; omega))
  rw [cel_o hK hf.2.2] at hq
  obtain ⟨c1, c2, c3, c4⟩ := cl_ok ci hf.2.2
  refine va_put C.1 C.2.1 (D := xD X) (v := .int v) (ty := .int) C.2.2.2.2.1 c2 (tyc ci) c3 c4 C.2.2.2.1 C.2.2.2.2.2.2.2.1 hP hD h3 q0 hq c1 x hf.2.1 (C.2.2.2.2.1 _ hf.1) (fun _ h9 => h9) hfin (by rw [c3 x hf.2.1, ht]) rfl rfl (by simp [fls, hf.2.1]) hd (fun H1 locs1 hP1 hD1 hS1 => ?_)
  refine k ad H1 locs1 ls (Rl_set n1 n2 hL ?_ cel_I rfl hP1 hD1) h2 hS1 h4
  rw [cel_o hK hf.2.2, up2_row, fls_setI ht]
theorem V_putJ (C : Cx X cc y ret rm) {ix ci x a : Nat} {v : Int64} (hf : FL y.cls ix ci x) (hK : S.1 a = ci + 1) (ht : tyc ci x = .long) (hfin : (Tc ci x).2.2.2 = false) (hd : decode cc pc = .ok (.putfield ix, 3)) (k : V X post nc ns (pc + 3) lv st S I (up2 J a x v)) : V X post nc ns pc lv (.long v :: .ref a :: st) S I J := fun ad H locs ls h1 h2 h3 h4 => by
  obtain ⟨L, n1, n2, hP, hD⟩ := h1
  obtain ⟨q0, hL, hq⟩ := wsl_get (cy := xy X) (ad := ad) (S := S) (I := I) (J := J) ((n2 a).mpr (by rw [hK]; omega))
  rw [cel_o hK hf.2.2] at hq
  obtain ⟨c1, c2, c3, c4⟩ := cl_ok ci hf.2.2
  refine va_put C.1 C.2.1 (D := xD X) (v := .long v) (ty := .long) C.2.2.2.2.1 c2 (tyc ci) c3 c4 C.2.2.2.1 C.2.2.2.2.2.2.2.1 hP hD h3 q0 hq c1 x hf.2.1 (C.2.2.2.2.1 _ hf.1) (fun _ h9 => h9) hfin (by rw [c3 x hf.2.1, ht]) rfl rfl (by simp [fls, hf.2.1]) hd (fun H1 locs1 hP1 hD1 hS1 => ?_)
  refine k ad H1 locs1 ls (Rl_set n1 n2 hL ?_ cel_J rfl hP1 hD1) h2 hS1 h4
  rw [cel_o hK hf.2.2, up2_row, fls_setJ ht]
theorem isRt_or {ty : FieldType} (h : isRt ty = true) : (∃ C, ty = .object C) ∨ ∃ t, ty = .array t := by
  cases ty <;> simp [isRt] at h ⊢
theorem V_putR (C : Cx X cc y ret rm) {ix ci x a b : Nat} (hf : FL y.cls ix ci x) (hK : S.1 a = ci + 1) (ht : isRt (tyc ci x) = true) (hfin : (Tc ci x).2.2.2 = false) (hd : decode cc pc = .ok (.putfield ix, 3)) (k : V X post nc ns (pc + 3) lv st (S.1, S.2.1, up2 S.2.2 a x (some b)) I J) : V X post nc ns pc lv (.ref b :: .ref a :: st) S I J := fun ad H locs ls h1 h2 h3 h4 => by
  obtain ⟨L, n1, n2, hP, hD⟩ := h1
  obtain ⟨q0, hL, hq⟩ := wsl_get (cy := xy X) (ad := ad) (S := S) (I := I) (J := J) ((n2 a).mpr (by rw [hK]; omega))
  rw [cel_o hK hf.2.2] at hq
  obtain ⟨c1, c2, c3, c4⟩ := cl_ok ci hf.2.2
  have ht2 := isRt_or ht
  refine va_put C.1 C.2.1 (D := xD X) (v := .ref (ad b)) (ty := tyc ci x) C.2.2.2.2.1 c2 (tyc ci) c3 c4 C.2.2.2.1 C.2.2.2.2.2.2.2.1 hP hD h3 q0 hq c1 x hf.2.1 (C.2.2.2.2.1 _ hf.1) (fun _ h9 => h9) hfin (c3 x hf.2.1) (by rcases ht2 with ⟨C, e⟩ | ⟨t, e⟩ <;> rw [e] <;> rfl) (by rcases ht2 with ⟨C, e⟩ | ⟨t, e⟩ <;> rw [e] <;> rfl) (by simp [fls, hf.2.1]) hd (fun H1 locs1 hP1 hD1 hS1 => ?_)
  refine k ad H1 locs1 ls (Rl_set (S' := (S.1, S.2.1, up2 S.2.2 a x (some b))) n1 n2 hL ?_ cel_R rfl hP1 hD1) h2 hS1 h4
  rw [cel_o (S := (S.1, S.2.1, up2 S.2.2 a x (some b))) hK hf.2.2]
  dsimp only
  rw [up2_row, ← fls_setR ht2]
  rfl
theorem V_putFR (C : Cx X cc y ret rm) {ix ci x a b : Nat} (hf : FL y.cls ix ci x) (hK : S.1 a = ci + 1) (ht : isRt (tyc ci x) = true) (hfin : (Tc ci x).2.2.2 = true) (hnm : y.name = "<init>") (hdc : (Tc ci x).1 = y.cls) (hd : decode cc pc = .ok (.putfield ix, 3)) (k : V X post nc ns (pc + 3) lv st (S.1, S.2.1, up2 S.2.2 a x (some b)) I J) : V X post nc ns pc lv (.ref b :: .ref a :: st) S I J := fun ad H locs ls h1 h2 h3 h4 => by
  obtain ⟨L, n1, n2, hP, hD⟩ := h1
  obtain ⟨q0, hL, hq⟩ := wsl_get (cy := xy X) (ad := ad) (S := S) (I := I) (J := J) ((n2 a).mpr (by rw [hK]; omega))
  rw [cel_o hK hf.2.2] at hq
  obtain ⟨c1, c2, c3, c4⟩ := cl_ok ci hf.2.2
  have ht2 := isRt_or ht
  refine va_putF C.1 C.2.1 (D := xD X) (v := .ref (ad b)) (ty := tyc ci x) C.2.2.2.2.1 c2 (tyc ci) c3 c4 C.2.2.2.1 C.2.2.2.2.2.2.2.1 hP hD h3 q0 hq c1 x hf.2.1 (C.2.2.2.2.1 _ hf.1) (fun _ h9 => h9) hfin (by rw [C.2.2.2.2.2.2.2.2.2.2.2.1, hnm]) hdc (c3 x hf.2.1) (by rcases ht2 with ⟨C, e⟩ | ⟨t, e⟩ <;> rw [e] <;> rfl) (by rcases ht2 with ⟨C, e⟩ | ⟨t, e⟩ <;> rw [e] <;> rfl) (by simp [fls, hf.2.1]) hd (fun H1 locs1 hP1 hD1 hS1 => ?_)
  refine k ad H1 locs1 ls (Rl_set (S' := (S.1, S.2.1, up2 S.2.2 a x (some b))) n1 n2 hL ?_ cel_R rfl hP1 hD1) h2 hS1 h4
  rw [cel_o (S := (S.1, S.2.1, up2 S.2.2 a x (some b))) hK hf.2.2]
  dsimp only
  rw [up2_row, ← fls_setR ht2]
  rfl
theorem V_iald (C : Cx X cc y ret rm) {a : Nat} {i : Int32} (j : Nat) (hK : S.1 a = 10) (hi : i = nI j) (hj : j < S.2.1 a) (hN : S.2.1 a < 2 ^ 31) (hd : decode cc pc = .ok (.iaload, 1)) (k : V X post nc ns (pc + 1) lv (.int (I a j) :: st) S I J) : V X post nc ns pc lv (.int i :: .ref a :: st) S I J := fun ad H locs ls h1 h2 h3 h4 => by
  obtain ⟨L, n1, n2, hP, hD⟩ := id h1
  obtain ⟨q0, -, hq⟩ := wsl_get (cy := xy X) (ad := ad) (S := S) (I := I) (J := J) ((n2 a).mpr (by rw [hK]; omega))
  rw [cel_i hK] at hq
  subst hi
  have hk := k ad H locs ls h1 h2 h3 h4
  rw [← nI_clamp (n := j) (by omega)] at hk
  exact va_iald C.1 C.2.1 C.2.2.2.2.2.2.2.1 hP q0 1 hq rfl (vp_in_nI hj hN) hd hk
theorem V_cald (C : Cx X cc y ret rm) {a : Nat} {i : Int32} (j : Nat) (hK : S.1 a = 9) (hi : i = nI j) (hj : j < S.2.1 a) (hN : S.2.1 a < 2 ^ 31) (hd : decode cc pc = .ok (.caload, 1)) (k : V X post nc ns (pc + 1) lv (.int (I a j) :: st) S I J) : V X post nc ns pc lv (.int i :: .ref a :: st) S I J := fun ad H locs ls h1 h2 h3 h4 => by
  obtain ⟨L, n1, n2, hP, hD⟩ := id h1
  obtain ⟨q0, -, hq⟩ := wsl_get (cy := xy X) (ad := ad) (S := S) (I := I) (J := J) ((n2 a).mpr (by rw [hK]; omega))
  rw [cel_c hK] at hq
  subst hi
  have hk := k ad H locs ls h1 h2 h3 h4
  rw [← nI_clamp (n := j) (by omega)] at hk
  exact va_cald C.1 C.2.1 C.2.2.2.2.2.2.2.1 hP q0 0 hq rfl (vp_in_nI hj hN) hd hk
theorem V_zald (C : Cx X cc y ret rm) {a : Nat} {i : Int32} (j : Nat) (hK : S.1 a = 12) (hi : i = nI j) (hj : j < S.2.1 a) (hN : S.2.1 a < 2 ^ 31) (hd : decode cc pc = .ok (.baload, 1)) (k : V X post nc ns (pc + 1) lv (.int (I a j) :: st) S I J) : V X post nc ns pc lv (.int i :: .ref a :: st) S I J := fun ad H locs ls h1 h2 h3 h4 => by
  obtain ⟨L, n1, n2, hP, hD⟩ := id h1
  obtain ⟨q0, -, hq⟩ := wsl_get (cy := xy X) (ad := ad) (S := S) (I := I) (J := J) ((n2 a).mpr (by rw [hK]; omega))
  rw [cel_z hK] at hq
  subst hi
  have hk := k ad H locs ls h1 h2 h3 h4
  rw [← nI_clamp (n := j) (by omega)] at hk
  exact va_zald C.1 C.2.1 C.2.2.2.2.2.2.2.1 hP q0 3 hq rfl (vp_in_nI hj hN) hd hk
theorem V_lald (C : Cx X cc y ret rm) {a : Nat} {i : Int32} (j : Nat) (hK : S.1 a = 11) (hi : i = nI j) (hj : j < S.2.1 a) (hN : S.2.1 a < 2 ^ 31) (hd : decode cc pc = .ok (.laload, 1)) (k : V X post nc ns (pc + 1) lv (.long (J a j) :: st) S I J) : V X post nc ns pc lv (.int i :: .ref a :: st) S I J := fun ad H locs ls h1 h2 h3 h4 => by
  obtain ⟨L, n1, n2, hP, hD⟩ := id h1
  obtain ⟨q0, -, hq⟩ := wsl_get (cy := xy X) (ad := ad) (S := S) (I := I) (J := J) ((n2 a).mpr (by rw [hK]; omega))
  rw [cel_l hK] at hq
  subst hi
  have hk := k ad H locs ls h1 h2 h3 h4
  rw [← nI_clamp (n := j) (by omega)] at hk
  exact va_lald C.1 C.2.1 C.2.2.2.2.2.2.2.1 hP q0 2 hq rfl (vp_in_nI hj hN) hd hk
theorem V_aald (C : Cx X cc y ret rm) {a : Nat} {i : Int32} {b : Option Nat} (j : Nat) (hK : S.1 a = 13 ∨ S.1 a = 14) (hi : i = nI j) (hj : j < S.2.1 a) (hN : S.2.1 a < 2 ^ 31) (hR : S.2.2 a j = b) (hd : decode cc pc = .ok (.aaload, 1)) (k : V X post nc ns (pc + 1) lv (va_rf b :: st) S I J) : V X post nc ns pc lv (.int i :: .ref a :: st) S I J := fun ad H locs ls h1 h2 h3 h4 => by
  obtain ⟨L, n1, n2, hP, hD⟩ := id h1
  obtain ⟨q0, -, hq⟩ := wsl_get (cy := xy X) (ad := ad) (S := S) (I := I) (J := J) ((n2 a).mpr (by rcases hK with h | h <;> rw [h] <;> omega))
  subst hi
  have hk := k ad H locs ls h1 h2 h3 h4
  have e : (va_rf b :: st).map (vv ad) = va_rf ((S.2.2 a (nI j).toNatClampNeg).map ad) :: st.map (vv ad) := by
    rw [nI_clamp (n := j) (by omega), hR]
    cases b <;> rfl
  rw [e] at hk
  rcases hK with hK | hK
  · rw [cel_d hK] at hq
    exact va_aldq C.1 C.2.1 C.2.2.2.2.2.2.2.1 hP q0 4 hq rfl (vp_in_nI hj hN) hd hk
  · rw [cel_u hK] at hq
    exact va_aldq C.1 C.2.1 C.2.2.2.2.2.2.2.1 hP q0 5 hq rfl (vp_in_nI hj hN) hd hk
theorem V_iast (C : Cx X cc y ret rm) {a : Nat} {i v : Int32} (j : Nat) (hK : S.1 a = 10) (hi : i = nI j) (hj : j < S.2.1 a) (hN : S.2.1 a < 2 ^ 31) (hd : decode cc pc = .ok (.iastore, 1)) (k : V X post nc ns (pc + 1) lv st S (up2 I a j v) J) : V X post nc ns pc lv (.int v :: .int i :: .ref a :: st) S I J := fun ad H locs ls h1 h2 h3 h4 => by
  obtain ⟨L, n1, n2, hP, hD⟩ := h1
  obtain ⟨q0, hL, hq⟩ := wsl_get (cy := xy X) (ad := ad) (S := S) (I := I) (J := J) ((n2 a).mpr (by rw [hK]; omega))
  rw [cel_i hK] at hq
  subst hi
  refine va_iast C.1 C.2.1 C.2.2.2.2.2.2.2.1 hP hD h3 q0 1 hq rfl (vp_in_nI hj hN) hd (fun H1 locs1 hP1 hD1 hS1 => ?_)
  refine k ad H1 locs1 ls (Rl_set n1 n2 hL ?_ cel_I rfl hP1 hD1) h2 hS1 h4
  rw [cel_i hK, up2_row, nI_clamp (n := j) (by omega)]
  rfl
theorem V_cast (C : Cx X cc y ret rm) {a : Nat} {i v : Int32} (j : Nat) (hK : S.1 a = 9) (hi : i = nI j) (hj : j < S.2.1 a) (hN : S.2.1 a < 2 ^ 31) (hd : decode cc pc = .ok (.castore, 1)) (k : V X post nc ns (pc + 1) lv st S (up2 I a j (vp_nar .char v)) J) : V X post nc ns pc lv (.int v :: .int i :: .ref a :: st) S I J := fun ad H locs ls h1 h2 h3 h4 => by
  obtain ⟨L, n1, n2, hP, hD⟩ := h1
  obtain ⟨q0, hL, hq⟩ := wsl_get (cy := xy X) (ad := ad) (S := S) (I := I) (J := J) ((n2 a).mpr (by rw [hK]; omega))
  rw [cel_c hK] at hq
  subst hi
  refine va_cast C.1 C.2.1 C.2.2.2.2.2.2.2.1 hP hD h3 q0 0 hq rfl (vp_in_nI hj hN) hd (fun H1 locs1 hP1 hD1 hS1 => ?_)
  refine k ad H1 locs1 ls (Rl_set n1 n2 hL ?_ cel_I rfl hP1 hD1) h2 hS1 h4
  rw [cel_c hK, up2_row, nI_clamp (n := j) (by omega)]
  rfl
theorem V_zast (C : Cx X cc y ret rm) {a : Nat} {i v : Int32} (j : Nat) (hK : S.1 a = 12) (hi : i = nI j) (hj : j < S.2.1 a) (hN : S.2.1 a < 2 ^ 31) (hd : decode cc pc = .ok (.bastore, 1)) (k : V X post nc ns (pc + 1) lv st S (up2 I a j (vp_nar .boolean v)) J) : V X post nc ns pc lv (.int v :: .int i :: .ref a :: st) S I J := fun ad H locs ls h1 h2 h3 h4 => by
  obtain ⟨L, n1, n2, hP, hD⟩ := h1
  obtain ⟨q0, hL, hq⟩ := wsl_get (cy := xy X) (ad := ad) (S := S) (I := I) (J := J) ((n2 a).mpr (by rw [hK]; omega))
  rw [cel_z hK] at hq
  subst hi
  refine va_zast C.1 C.2.1 C.2.2.2.2.2.2.2.1 hP hD h3 q0 3 hq rfl (vp_in_nI hj hN) hd (fun H1 locs1 hP1 hD1 hS1 => ?_)
  refine k ad H1 locs1 ls (Rl_set n1 n2 hL ?_ cel_I rfl hP1 hD1) h2 hS1 h4
  rw [cel_z hK, up2_row, nI_clamp (n := j) (by omega)]
  rfl
theorem V_last (C : Cx X cc y ret rm) {a : Nat} {i : Int32} {v : Int64} (j : Nat) (hK : S.1 a = 11) (hi : i = nI j) (hj : j < S.2.1 a) (hN : S.2.1 a < 2 ^ 31) (hd : decode cc pc = .ok (.lastore, 1)) (k : V X post nc ns (pc + 1) lv st S I (up2 J a j v)) : V X post nc ns pc lv (.long v :: .int i :: .ref a :: st) S I J := fun ad H locs ls h1 h2 h3 h4 => by
  obtain ⟨L, n1, n2, hP, hD⟩ := h1
  obtain ⟨q0, hL, hq⟩ := wsl_get (cy := xy X) (ad := ad) (S := S) (I := I) (J := J) ((n2 a).mpr (by rw [hK]; omega))
  rw [cel_l hK] at hq
  subst hi
  refine va_last C.1 C.2.1 C.2.2.2.2.2.2.2.1 hP hD h3 q0 2 hq rfl (vp_in_nI hj hN) hd (fun H1 locs1 hP1 hD1 hS1 => ?_)
  refine k ad H1 locs1 ls (Rl_set n1 n2 hL ?_ cel_J rfl hP1 hD1) h2 hS1 h4
  rw [cel_l hK, up2_row, nI_clamp (n := j) (by omega)]
  rfl
/-! returns -/
theorem V_iret (C : Cx X cc y (some .int) rm) {v : Int32} (h1 : nc ≤ rm.cells) (h2 : ns ≤ rm.slots) (hd : decode cc pc = .ok (.ireturn, 1)) (hp : post (some (.int v)) S I J) : V X post nc ns pc lv [.int v] S I J := fun ad H locs ls g1 g2 g3 g4 => by
  obtain ⟨hq, hr⟩ := C.2.2.2.2.2.1.resolve_right (by decide)
  rw [xQ_n hq, C.2.2.2.2.2.2.2.2.2.2.2.2.1, C.2.2.2.2.2.2.2.2.2.2.2.2.2.1]
  refine W.widen h1 h2 ?_
  exact W.iret C.1 C.2.1 hr (fun t ht hW => ⟨⟨some (.int v), S, I, J, ad, rfl, hp, g2, by rw [ht]; exact g1⟩, g3.F ht⟩) g3.2.2 hd (hlocks := C.2.2.2.2.2.2.1)
theorem V_lret (C : Cx X cc y (some .long) rm) {v : Int64} (h1 : nc ≤ rm.cells) (h2 : ns ≤ rm.slots) (hd : decode cc pc = .ok (.lreturn, 1)) (hp : post (some (.long v)) S I J) : V X post nc ns pc lv [.long v] S I J := fun ad H locs ls g1 g2 g3 g4 => by
  obtain ⟨hq, hr⟩ := C.2.2.2.2.2.1.resolve_right (by decide)
  rw [xQ_n hq, C.2.2.2.2.2.2.2.2.2.2.2.2.1, C.2.2.2.2.2.2.2.2.2.2.2.2.2.1]
  refine W.widen h1 h2 ?_
  exact W.lret C.1 C.2.1 hr (fun t ht hW => ⟨⟨some (.long v), S, I, J, ad, rfl, hp, g2, by rw [ht]; exact g1⟩, g3.F ht⟩) g3.2.2 hd (hlocks := C.2.2.2.2.2.2.1)
theorem V_zret (C : Cx X cc y (some .boolean) rm) {v : Int32} (hv : v = 0 ∨ v = 1) (h1 : nc ≤ rm.cells) (h2 : ns ≤ rm.slots) (hd : decode cc pc = .ok (.ireturn, 1)) (hp : post (some (.int v)) S I J) : V X post nc ns pc lv [.int v] S I J := fun ad H locs ls g1 g2 g3 g4 => by
  obtain ⟨hq, hr⟩ := C.2.2.2.2.2.1.resolve_right (by decide)
  rw [xQ_n hq, C.2.2.2.2.2.2.2.2.2.2.2.2.1, C.2.2.2.2.2.2.2.2.2.2.2.2.2.1]
  refine W.widen h1 h2 ?_
  exact W.zret C.1 C.2.1 hr (by rcases hv with rfl | rfl <;> rfl) (fun t ht hW => ⟨⟨some (.int v), S, I, J, ad, rfl, hp, g2, by rw [ht]; exact g1⟩, g3.F ht⟩) g3.2.2 hd (hlocks := C.2.2.2.2.2.2.1)
theorem V_vret (C : Cx X cc y none rm) (h1 : nc ≤ rm.cells) (h2 : ns ≤ rm.slots) (hd : decode cc pc = .ok (.return_, 1)) (hp : post none S I J) : V X post nc ns pc lv [] S I J := fun ad H locs ls g1 g2 g3 g4 => by
  obtain ⟨hq, hr⟩ := C.2.2.2.2.2.1.resolve_right (by decide)
  rw [xQ_n hq, C.2.2.2.2.2.2.2.2.2.2.2.2.1, C.2.2.2.2.2.2.2.2.2.2.2.2.2.1]
  refine W.widen h1 h2 ?_
  exact W.vret C.1 C.2.1 hr (fun t ht hW => ⟨⟨none, S, I, J, ad, rfl, hp, g2, by rw [ht]; exact g1⟩, g3.F ht⟩) g3.2.2 hd (hlocks := C.2.2.2.2.2.2.1)
theorem V_nret {ty : FieldType} (hty : ¬ some ty = some FieldType.short) (C : Cx X cc y (some ty) rm) {v : Int32} (hv : narrow ty (.int v) = .int v) (h1 : nc ≤ rm.cells) (h2 : ns ≤ rm.slots) (hd : decode cc pc = .ok (.ireturn, 1)) (hp : post (some (.int v)) S I J) : V X post nc ns pc lv [.int v] S I J := fun ad H locs ls g1 g2 g3 g4 => by
  obtain ⟨hq, hr⟩ := C.2.2.2.2.2.1.resolve_right hty
  rw [xQ_n hq, C.2.2.2.2.2.2.2.2.2.2.2.2.1, C.2.2.2.2.2.2.2.2.2.2.2.2.2.1]
  refine W.widen h1 h2 ?_
  exact W.zret C.1 C.2.1 hr hv (fun t ht hW => ⟨⟨some (.int v), S, I, J, ad, rfl, hp, g2, by rw [ht]; exact g1⟩, g3.F ht⟩) g3.2.2 hd (hlocks := C.2.2.2.2.2.2.1)
end VH
