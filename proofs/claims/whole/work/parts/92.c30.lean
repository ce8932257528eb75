/-! the class's reader: signs, words, numbers, tokens -/
section C30
variable {l : Launch} {S : HS} {I : HI} {J : HJ} {la : Nat} {T : List Int32}
theorem r_ne {I : HI} {c x : Nat} {v : Int32} (h : x ≠ c) : up2 I 1130 c v 1130 x = I 1130 x := by rw [up2_row, va_up_ne _ _ h]
theorem r_at {I : HI} {c : Nat} {v : Int32} : up2 I 1130 c v 1130 c = v := by rw [up2_row, va_up_self]
/-- the reader reads the tape into the laws at la -/
def RdS (S : HS) (la : Nat) : Prop := Ob S 4 1130 ∧ S.2.2 1130 0 = some 1120 ∧ S.2.2 1130 1 = some la ∧ Ob S 5 1120 ∧ Ob S 2 la
abbrev tpT (T : List Int32) : Nat → Int32 := fun i => T.getD i 0
theorem tpK_cg {I I' : HI} (h : tpK I T) (f : ∀ a, a ≠ 1130 → I' a = I a) : tpK I' T := ⟨by rw [f 1120 (by decide)]; exact h.1, fun i hi => by rw [f 1122 (by decide)]; exact h.2 i hi⟩
set_option maxRecDepth 100000 in
theorem c_isLetter (c : Int32) : Mn l yX4_isLetter cX4_isLetter 1 (some .boolean) 1 [.int c] S I J (fun v I' J' => v = some (.int (bI (isLt c))) ∧ I' = I ∧ J' = J) := by
  refine Mn.of (by decide) (fun ad => by simp [lg_sl, vv, Value.category]) (fun X P hP hn C => ?_)
  refine V_bipush C (v := nI 97) dX4_isLetter_0 (by decide +kernel) ?_
  refine V_iload_n C dX4_isLetter_2 rfl ?_
  refine V_icmp_gt C 16 dX4_isLetter_3 (by decide) (fun h3 => ?_) (fun h3 => ?_)
  · refine V_iconst C (v := nI 0) dX4_isLetter_16 (by decide +kernel) ?_
    exact V_zret C (by first | exact Or.inl rfl | exact Or.inr rfl | (simp only [bI]; split <;> first | exact Or.inl rfl | exact Or.inr rfl) | assumption) (Nat.zero_le _) (Nat.zero_le _) dX4_isLetter_17 (hP _ _ _ ⟨by first | (rw [bI_t (show isLt c from ⟨Int32.not_lt.mp h3, Int32.not_lt.mp h9⟩)]; rfl) | (rw [bI_f (show ¬ isLt c from fun q => absurd h9 (Int32.not_lt.mpr q.2))]; rfl) | (rw [bI_f (show ¬ isLt c from fun q => absurd h3 (Int32.not_lt.mpr q.1))]; rfl), rfl, rfl⟩)
  · refine V_iload_n C dX4_isLetter_6 rfl ?_
    refine V_bipush C (v := nI 122) dX4_isLetter_7 (by decide +kernel) ?_
    refine V_icmp_gt C 16 dX4_isLetter_9 (by decide) (fun h9 => ?_) (fun h9 => ?_)
    · refine V_iconst C (v := nI 0) dX4_isLetter_16 (by decide +kernel) ?_
      exact V_zret C (by first | exact Or.inl rfl | exact Or.inr rfl | (simp only [bI]; split <;> first | exact Or.inl rfl | exact Or.inr rfl) | assumption) (Nat.zero_le _) (Nat.zero_le _) dX4_isLetter_17 (hP _ _ _ ⟨by first | (rw [bI_t (show isLt c from ⟨Int32.not_lt.mp h3, Int32.not_lt.mp h9⟩)]; rfl) | (rw [bI_f (show ¬ isLt c from fun q => absurd h9 (Int32.not_lt.mpr q.2))]; rfl) | (rw [bI_f (show ¬ isLt c from fun q => absurd h3 (Int32.not_lt.mpr q.1))]; rfl), rfl, rfl⟩)
    · refine V_iconst C (v := nI 1) dX4_isLetter_12 (by decide +kernel) ?_
      refine V_goto C 17 dX4_isLetter_13 (by decide) ?_
      exact V_zret C (by first | exact Or.inl rfl | exact Or.inr rfl | (simp only [bI]; split <;> first | exact Or.inl rfl | exact Or.inr rfl) | assumption) (Nat.zero_le _) (Nat.zero_le _) dX4_isLetter_17 (hP _ _ _ ⟨by first | (rw [bI_t (show isLt c from ⟨Int32.not_lt.mp h3, Int32.not_lt.mp h9⟩)]; rfl) | (rw [bI_f (show ¬ isLt c from fun q => absurd h9 (Int32.not_lt.mpr q.2))]; rfl) | (rw [bI_f (show ¬ isLt c from fun q => absurd h3 (Int32.not_lt.mpr q.1))]; rfl), rfl, rfl⟩)
set_option maxRecDepth 100000 in
theorem c_isDigit (c : Int32) : Mn l yX4_isDigit cX4_isDigit 1 (some .boolean) 1 [.int c] S I J (fun v I' J' => v = some (.int (bI (isDg c))) ∧ I' = I ∧ J' = J) := by
  refine Mn.of (by decide) (fun ad => by simp [lg_sl, vv, Value.category]) (fun X P hP hn C => ?_)
  refine V_bipush C (v := nI 48) dX4_isDigit_0 (by decide +kernel) ?_
  refine V_iload_n C dX4_isDigit_2 rfl ?_
  refine V_icmp_gt C 16 dX4_isDigit_3 (by decide) (fun h3 => ?_) (fun h3 => ?_)
  · refine V_iconst C (v := nI 0) dX4_isDigit_16 (by decide +kernel) ?_
    exact V_zret C (by first | exact Or.inl rfl | exact Or.inr rfl | (simp only [bI]; split <;> first | exact Or.inl rfl | exact Or.inr rfl) | assumption) (Nat.zero_le _) (Nat.zero_le _) dX4_isDigit_17 (hP _ _ _ ⟨by first | (rw [bI_t (show isDg c from ⟨Int32.not_lt.mp h3, Int32.not_lt.mp h9⟩)]; rfl) | (rw [bI_f (show ¬ isDg c from fun q => absurd h9 (Int32.not_lt.mpr q.2))]; rfl) | (rw [bI_f (show ¬ isDg c from fun q => absurd h3 (Int32.not_lt.mpr q.1))]; rfl), rfl, rfl⟩)
  · refine V_iload_n C dX4_isDigit_6 rfl ?_
    refine V_bipush C (v := nI 57) dX4_isDigit_7 (by decide +kernel) ?_
    refine V_icmp_gt C 16 dX4_isDigit_9 (by decide) (fun h9 => ?_) (fun h9 => ?_)
    · refine V_iconst C (v := nI 0) dX4_isDigit_16 (by decide +kernel) ?_
      exact V_zret C (by first | exact Or.inl rfl | exact Or.inr rfl | (simp only [bI]; split <;> first | exact Or.inl rfl | exact Or.inr rfl) | assumption) (Nat.zero_le _) (Nat.zero_le _) dX4_isDigit_17 (hP _ _ _ ⟨by first | (rw [bI_t (show isDg c from ⟨Int32.not_lt.mp h3, Int32.not_lt.mp h9⟩)]; rfl) | (rw [bI_f (show ¬ isDg c from fun q => absurd h9 (Int32.not_lt.mpr q.2))]; rfl) | (rw [bI_f (show ¬ isDg c from fun q => absurd h3 (Int32.not_lt.mpr q.1))]; rfl), rfl, rfl⟩)
    · refine V_iconst C (v := nI 1) dX4_isDigit_12 (by decide +kernel) ?_
      refine V_goto C 17 dX4_isDigit_13 (by decide) ?_
      exact V_zret C (by first | exact Or.inl rfl | exact Or.inr rfl | (simp only [bI]; split <;> first | exact Or.inl rfl | exact Or.inr rfl) | assumption) (Nat.zero_le _) (Nat.zero_le _) dX4_isDigit_17 (hP _ _ _ ⟨by first | (rw [bI_t (show isDg c from ⟨Int32.not_lt.mp h3, Int32.not_lt.mp h9⟩)]; rfl) | (rw [bI_f (show ¬ isDg c from fun q => absurd h9 (Int32.not_lt.mpr q.2))]; rfl) | (rw [bI_f (show ¬ isDg c from fun q => absurd h3 (Int32.not_lt.mpr q.1))]; rfl), rfl, rfl⟩)
set_option maxRecDepth 100000 in
theorem c_takeWord (hR : RdS S la) (hT : tpK I T) (hl : T.length ≤ 1000) {k : Nat} (h4 : I 1130 4 = nI k) (h5 : I 1130 5 = nI k) (hk : k ≤ T.length) : Mn l yX4_takeWord cX4_takeWord 1 none 2 [.ref 1130] S I J (fun v I' J' => v = none ∧ (∀ a, a ≠ 1130 → I' a = I a) ∧ (∀ x, x ≠ 3 → x ≠ 5 → I' 1130 x = I 1130 x) ∧ I' 1130 5 = nI (lR (tpT T) (T.length - k) k) ∧ I' 1130 3 = nI (if lR (tpT T) (T.length - k) k - k ≤ 8 then 1 else 4) ∧ J' = J) := by
  refine Mn.of (by decide) (fun ad => by simp [lg_sl, vv, Value.category]) (fun X P hP hn C => ?_)
  obtain ⟨hM, hT0, hT1, hTp, hLa⟩ := hR
  obtain ⟨q, hq⟩ : ∃ q, q = lR (tpT T) (T.length - k) k := ⟨_, rfl⟩
  rw [← hq] at hP
  have end44 : ∀ (In : HI), k ≤ q → q ≤ 1000 → (∀ a, a ≠ 1130 → In a = I a) → (∀ x, x ≠ 3 → x ≠ 5 → In 1130 x = I 1130 x) → In 1130 5 = nI q → V X P 0 0 44 [some (.ref 1130)] [] S In J := by
    intro In hkq hq2 f1 f2 e5
    have e4 : In 1130 4 = nI k := (f2 4 (by decide) (by decide)).trans h4
    have ev : In 1130 5 - In 1130 4 = nI (q - k) := by rw [e5, e4, pk_sub hkq]
    have g : ∀ v, v = nI (if q - k ≤ 8 then 1 else 4) → P none S (up2 In 1130 3 v) J := fun v hv => hP _ _ _ ⟨rfl, fun a ha => by rw [up2_ne _ _ _ ha]; exact f1 a ha, fun x h1 h2 => by rw [r_ne h1]; exact f2 x h1 h2, by rw [r_ne (by decide)]; exact e5, by rw [r_at]; exact hv, rfl⟩
    by_cases h8 : q - k ≤ 8
    · rw [if_pos h8] at g
      refine V_aload_n C dX4_takeWord_44 rfl ?_
      refine V_aload_n C dX4_takeWord_45 rfl ?_
      refine V_getI C fl_X4_28 (ob_K hM) rfl dX4_takeWord_46 ?_
      refine V_aload_n C dX4_takeWord_49 rfl ?_
      refine V_getI C fl_X4_40 (ob_K hM) rfl dX4_takeWord_50 ?_
      refine V_isub C dX4_takeWord_53 ?_
      rw [ev]
      refine V_bipush C (v := nI 8) dX4_takeWord_54 (by decide +kernel) ?_
      refine V_icmp_gt C 63 dX4_takeWord_56 (by decide) (fun h56 => absurd h56 (fun h => absurd h (Int32.not_lt.mpr (nI_le (by omega) (by omega))))) (fun h56 => ?_)
      refine V_iconst C (v := nI 1) dX4_takeWord_59 (by decide +kernel) ?_
      refine V_goto C 64 dX4_takeWord_60 (by decide) ?_
      refine V_putI C fl_X4_34 (ob_K hM) rfl rfl dX4_takeWord_64 ?_
      exact V_vret C (Nat.zero_le _) (Nat.zero_le _) dX4_takeWord_67 (g _ rfl)
    · rw [if_neg h8] at g
      refine V_aload_n C dX4_takeWord_44 rfl ?_
      refine V_aload_n C dX4_takeWord_45 rfl ?_
      refine V_getI C fl_X4_28 (ob_K hM) rfl dX4_takeWord_46 ?_
      refine V_aload_n C dX4_takeWord_49 rfl ?_
      refine V_getI C fl_X4_40 (ob_K hM) rfl dX4_takeWord_50 ?_
      refine V_isub C dX4_takeWord_53 ?_
      rw [ev]
      refine V_bipush C (v := nI 8) dX4_takeWord_54 (by decide +kernel) ?_
      refine V_icmp_gt C 63 dX4_takeWord_56 (by decide) (fun h56 => ?_) (fun h56 => absurd (nI_lt (by omega) (by omega)) h56)
      refine V_iconst C (v := nI 4) dX4_takeWord_63 (by decide +kernel) ?_
      refine V_putI C fl_X4_34 (ob_K hM) rfl rfl dX4_takeWord_64 ?_
      exact V_vret C (Nat.zero_le _) (Nat.zero_le _) dX4_takeWord_67 (g _ rfl)
  have loop : ∀ (c k2 : Nat) (In : HI), k2 + c = T.length → k ≤ k2 → (∀ a, a ≠ 1130 → In a = I a) → (∀ x, x ≠ 3 → x ≠ 5 → In 1130 x = I 1130 x) → In 1130 5 = nI k2 → q = lR (tpT T) c k2 → V X P 0 0 0 [some (.ref 1130)] [] S In J := by
    intro c
    induction c with
    | zero =>
      intro k2 In hc hk2 f1 f2 e5 eq
      have t1 := (tpK_cg hT f1).1
      have eq : q = k2 := eq
      subst eq
      have fin := end44 In hk2 (by omega) f1 f2 e5
      refine V_aload_n C dX4_takeWord_0 rfl ?_
      refine V_getI C fl_X4_28 (ob_K hM) rfl dX4_takeWord_1 ?_
      refine V_aload_n C dX4_takeWord_4 rfl ?_
      refine V_getR C fl_X4_9 (ob_K hM) hT0 rfl dX4_takeWord_5 ?_
      refine V_getI C fl_X4_43 (ob_K hTp) rfl dX4_takeWord_8 ?_
      refine V_icmp_ge C 44 dX4_takeWord_11 (by decide) (fun h11 => ?_) (fun h11 => absurd (by rw [t1, e5]; exact nI_le (by omega) (by omega)) h11)
      exact fin
    | succ c ih =>
      intro k2 In hc hk2 f1 f2 e5 eq
      have hTn := tpK_cg hT f1
      have t1 := hTn.1
      unfold lR at eq
      by_cases hL : isLt (tpT T k2)
      · rw [if_pos hL] at eq
        have nx := ih (k2 + 1) (up2 In 1130 5 (nI (k2 + 1))) (by omega) (by omega) (fun a ha => by rw [up2_ne _ _ _ ha]; exact f1 a ha) (fun x h1 h2 => by rw [r_ne h2]; exact f2 x h1 h2) r_at eq
        have e6 : In 1130 5 + nI 1 = nI (k2 + 1) := by rw [e5, nI_add]
        refine V_aload_n C dX4_takeWord_0 rfl ?_
        refine V_getI C fl_X4_28 (ob_K hM) rfl dX4_takeWord_1 ?_
        refine V_aload_n C dX4_takeWord_4 rfl ?_
        refine V_getR C fl_X4_9 (ob_K hM) hT0 rfl dX4_takeWord_5 ?_
        refine V_getI C fl_X4_43 (ob_K hTp) rfl dX4_takeWord_8 ?_
        refine V_icmp_ge C 44 dX4_takeWord_11 (by decide) (fun h11 => absurd h11 (by rw [t1, e5]; exact nI_ge (by omega) (by omega))) (fun h11 => ?_)
        refine V_aload_n C dX4_takeWord_14 rfl ?_
        refine V_getR C fl_X4_9 (ob_K hM) hT0 rfl dX4_takeWord_15 ?_
        refine V_aload_n C dX4_takeWord_18 rfl ?_
        refine V_getI C fl_X4_28 (ob_K hM) rfl dX4_takeWord_19 ?_
        rw [e5]
        refine V_callV (F := fun _ => True) C (c_signAt hTp hTn hl (n := k2) (by omega)) mi_X5_signAt ml_X4_48 rfl (ob_K hTp) (by decide) (by decide) (by decide) (Nat.le_of_ble_eq_true rfl) (fun _ _ => trivial) (fun v _ => clo_T v) rfl dX4_takeWord_22 ?_
        rintro v S' I' J' ⟨hS9, rfl, hI9, hJ9⟩
        obtain rfl := hS9.symm
        obtain rfl := hI9.symm
        obtain rfl := hJ9.symm
        refine V_callS (F := fun _ => True) C (c_isLetter _) ms_X4_isLetter ml_X4_52 rfl (by decide) (by decide) (Nat.le_of_ble_eq_true rfl) (fun _ _ => trivial) (fun v _ => clo_T v) rfl dX4_takeWord_25 ?_
        rintro v S' I' J' ⟨hS9, rfl, hI9, hJ9⟩
        obtain rfl := hS9.symm
        obtain rfl := hI9.symm
        obtain rfl := hJ9.symm
        refine V_if_eq C 44 dX4_takeWord_28 (by decide) (fun h28 => absurd h28 (by rw [bI_0]; exact fun r => r hL)) (fun h28 => ?_)
        refine V_aload_n C dX4_takeWord_31 rfl ?_
        refine V_dup C dX4_takeWord_32 rfl ?_
        refine V_getI C fl_X4_28 (ob_K hM) rfl dX4_takeWord_33 ?_
        refine V_iconst C (v := nI 1) dX4_takeWord_36 (by decide +kernel) ?_
        refine V_iadd C dX4_takeWord_37 ?_
        rw [e6]
        refine V_putI C fl_X4_28 (ob_K hM) rfl rfl dX4_takeWord_38 ?_
        refine V_goto C 0 dX4_takeWord_41 (by decide) ?_
        exact nx
      · rw [if_neg hL] at eq
        subst eq
        have fin := end44 In hk2 (by omega) f1 f2 e5
        refine V_aload_n C dX4_takeWord_0 rfl ?_
        refine V_getI C fl_X4_28 (ob_K hM) rfl dX4_takeWord_1 ?_
        refine V_aload_n C dX4_takeWord_4 rfl ?_
        refine V_getR C fl_X4_9 (ob_K hM) hT0 rfl dX4_takeWord_5 ?_
        refine V_getI C fl_X4_43 (ob_K hTp) rfl dX4_takeWord_8 ?_
        refine V_icmp_ge C 44 dX4_takeWord_11 (by decide) (fun h11 => absurd h11 (by rw [t1, e5]; exact nI_ge (by omega) (by omega))) (fun h11 => ?_)
        refine V_aload_n C dX4_takeWord_14 rfl ?_
        refine V_getR C fl_X4_9 (ob_K hM) hT0 rfl dX4_takeWord_15 ?_
        refine V_aload_n C dX4_takeWord_18 rfl ?_
        refine V_getI C fl_X4_28 (ob_K hM) rfl dX4_takeWord_19 ?_
        rw [e5]
        refine V_callV (F := fun _ => True) C (c_signAt hTp hTn hl (n := q) (by omega)) mi_X5_signAt ml_X4_48 rfl (ob_K hTp) (by decide) (by decide) (by decide) (Nat.le_of_ble_eq_true rfl) (fun _ _ => trivial) (fun v _ => clo_T v) rfl dX4_takeWord_22 ?_
        rintro v S' I' J' ⟨hS9, rfl, hI9, hJ9⟩
        obtain rfl := hS9.symm
        obtain rfl := hI9.symm
        obtain rfl := hJ9.symm
        refine V_callS (F := fun _ => True) C (c_isLetter _) ms_X4_isLetter ml_X4_52 rfl (by decide) (by decide) (Nat.le_of_ble_eq_true rfl) (fun _ _ => trivial) (fun v _ => clo_T v) rfl dX4_takeWord_25 ?_
        rintro v S' I' J' ⟨hS9, rfl, hI9, hJ9⟩
        obtain rfl := hS9.symm
        obtain rfl := hI9.symm
        obtain rfl := hJ9.symm
        refine V_if_eq C 44 dX4_takeWord_28 (by decide) (fun h28 => ?_) (fun h28 => absurd (bI_f hL) h28)
        exact fin
  exact loop (T.length - k) k I (by omega) (Nat.le_refl _) (fun _ _ => rfl) (fun _ _ _ => rfl) h5 hq
set_option maxRecDepth 100000 in
theorem c_takeNumber (hR : RdS S la) (hT : tpK I T) (hl : T.length ≤ 1000) {k : Nat} (h4 : I 1130 4 = nI k) (h5 : I 1130 5 = nI k) (hk : k ≤ T.length) : Mn l yX4_takeNumber cX4_takeNumber 1 none 2 [.ref 1130] S I J (fun v I' J' => v = none ∧ (∀ a, a ≠ 1130 → I' a = I a) ∧ (∀ x, x ≠ 3 → x ≠ 5 → x ≠ 6 → I' 1130 x = I 1130 x) ∧ I' 1130 5 = nI (dR (tpT T) (T.length - k) k) ∧ I' 1130 3 = nI (if dR (tpT T) (T.length - k) k - k ≤ 5 then 2 else 4) ∧ I' 1130 6 = fI (tpT T) (T.length - k) k (nI 0) ∧ J' = J) := by
  refine Mn.of (by decide) (fun ad => by simp [lg_sl, vv, Value.category]) (fun X P hP hn C => ?_)
  obtain ⟨hM, hT0, hT1, hTp, hLa⟩ := hR
  obtain ⟨q, hq⟩ : ∃ q, q = dR (tpT T) (T.length - k) k := ⟨_, rfl⟩
  obtain ⟨w, hw⟩ : ∃ w, w = fI (tpT T) (T.length - k) k (nI 0) := ⟨_, rfl⟩
  rw [← hq, ← hw] at hP
  have end75 : ∀ (In : HI), k ≤ q → q ≤ 1000 → (∀ a, a ≠ 1130 → In a = I a) → (∀ x, x ≠ 3 → x ≠ 5 → x ≠ 6 → In 1130 x = I 1130 x) → In 1130 5 = nI q → In 1130 6 = w → V X P 0 0 75 [some (.ref 1130)] [] S In J := by
    intro In hkq hq2 f1 f2 e5 e6
    have e4 : In 1130 4 = nI k := (f2 4 (by decide) (by decide) (by decide)).trans h4
    have ev : In 1130 5 - In 1130 4 = nI (q - k) := by rw [e5, e4, pk_sub hkq]
    have g : ∀ v, v = nI (if q - k ≤ 5 then 2 else 4) → P none S (up2 In 1130 3 v) J := fun v hv => hP _ _ _ ⟨rfl, fun a ha => by rw [up2_ne _ _ _ ha]; exact f1 a ha, fun x h1 h2 h3 => by rw [r_ne h1]; exact f2 x h1 h2 h3, by rw [r_ne (by decide)]; exact e5, by rw [r_at]; exact hv, by rw [r_ne (by decide)]; exact e6, rfl⟩
    by_cases h8 : q - k ≤ 5
    · rw [if_pos h8] at g
      refine V_aload_n C dX4_takeNumber_75 rfl ?_
      refine V_aload_n C dX4_takeNumber_76 rfl ?_
      refine V_getI C fl_X4_28 (ob_K hM) rfl dX4_takeNumber_77 ?_
      refine V_aload_n C dX4_takeNumber_80 rfl ?_
      refine V_getI C fl_X4_40 (ob_K hM) rfl dX4_takeNumber_81 ?_
      refine V_isub C dX4_takeNumber_84 ?_
      rw [ev]
      refine V_iconst C (v := nI 5) dX4_takeNumber_85 (by decide +kernel) ?_
      refine V_icmp_gt C 93 dX4_takeNumber_86 (by decide) (fun h86 => absurd h86 (fun h => absurd h (Int32.not_lt.mpr (nI_le (by omega) (by omega))))) (fun h86 => ?_)
      refine V_iconst C (v := nI 2) dX4_takeNumber_89 (by decide +kernel) ?_
      refine V_goto C 94 dX4_takeNumber_90 (by decide) ?_
      refine V_putI C fl_X4_34 (ob_K hM) rfl rfl dX4_takeNumber_94 ?_
      exact V_vret C (Nat.zero_le _) (Nat.zero_le _) dX4_takeNumber_97 (g _ rfl)
    · rw [if_neg h8] at g
      refine V_aload_n C dX4_takeNumber_75 rfl ?_
      refine V_aload_n C dX4_takeNumber_76 rfl ?_
      refine V_getI C fl_X4_28 (ob_K hM) rfl dX4_takeNumber_77 ?_
      refine V_aload_n C dX4_takeNumber_80 rfl ?_
      refine V_getI C fl_X4_40 (ob_K hM) rfl dX4_takeNumber_81 ?_
      refine V_isub C dX4_takeNumber_84 ?_
      rw [ev]
      refine V_iconst C (v := nI 5) dX4_takeNumber_85 (by decide +kernel) ?_
      refine V_icmp_gt C 93 dX4_takeNumber_86 (by decide) (fun h86 => ?_) (fun h86 => absurd (nI_lt (by omega) (by omega)) h86)
      refine V_iconst C (v := nI 4) dX4_takeNumber_93 (by decide +kernel) ?_
      refine V_putI C fl_X4_34 (ob_K hM) rfl rfl dX4_takeNumber_94 ?_
      exact V_vret C (Nat.zero_le _) (Nat.zero_le _) dX4_takeNumber_97 (g _ rfl)
  have loop : ∀ (c k2 : Nat) (v : Int32) (In : HI), k2 + c = T.length → k ≤ k2 → (∀ a, a ≠ 1130 → In a = I a) → (∀ x, x ≠ 3 → x ≠ 5 → x ≠ 6 → In 1130 x = I 1130 x) → In 1130 5 = nI k2 → In 1130 6 = v → q = dR (tpT T) c k2 → w = fI (tpT T) c k2 v → V X P 0 0 5 [some (.ref 1130)] [] S In J := by
    intro c
    induction c with
    | zero =>
      intro k2 v In hc hk2 f1 f2 e5 e6 eq ew
      have t1 := (tpK_cg hT f1).1
      have eq : q = k2 := eq
      have ew : w = v := ew
      subst eq
      have fin := end75 In hk2 (by omega) f1 f2 e5 (e6.trans ew.symm)
      refine V_aload_n C dX4_takeNumber_5 rfl ?_
      refine V_getI C fl_X4_28 (ob_K hM) rfl dX4_takeNumber_6 ?_
      refine V_aload_n C dX4_takeNumber_9 rfl ?_
      refine V_getR C fl_X4_9 (ob_K hM) hT0 rfl dX4_takeNumber_10 ?_
      refine V_getI C fl_X4_43 (ob_K hTp) rfl dX4_takeNumber_13 ?_
      refine V_icmp_ge C 75 dX4_takeNumber_16 (by decide) (fun h16 => ?_) (fun h16 => absurd (by rw [t1, e5]; exact nI_le (by omega) (by omega)) h16)
      exact fin
    | succ c ih =>
      intro k2 v In hc hk2 f1 f2 e5 e6 eq ew
      have hTn := tpK_cg hT f1
      have t1 := hTn.1
      unfold dR at eq
      unfold fI at ew
      by_cases hL : isDg (tpT T k2)
      · rw [if_pos hL] at eq ew
        have nx := ih (k2 + 1) _ (up2 (up2 In 1130 6 (v * nI 10 + tpT T k2 - nI 48)) 1130 5 (nI (k2 + 1))) (by omega) (by omega) (fun a ha => by rw [up2_ne _ _ _ ha, up2_ne _ _ _ ha]; exact f1 a ha) (fun x h1 h2 h3 => by rw [r_ne h2, r_ne h3]; exact f2 x h1 h2 h3) r_at ((r_ne (by decide)).trans r_at) eq ew
        have e7 : In 1130 5 + nI 1 = nI (k2 + 1) := by rw [e5, nI_add]
        have e8 : In 1130 6 * nI 10 + tpT T k2 - nI 48 = v * nI 10 + tpT T k2 - nI 48 := by rw [e6]
        have e9 : up2 In 1130 6 (v * nI 10 + tpT T k2 - nI 48) 1130 5 + nI 1 = nI (k2 + 1) := by rw [r_ne (by decide)]; exact e7
        refine V_aload_n C dX4_takeNumber_5 rfl ?_
        refine V_getI C fl_X4_28 (ob_K hM) rfl dX4_takeNumber_6 ?_
        refine V_aload_n C dX4_takeNumber_9 rfl ?_
        refine V_getR C fl_X4_9 (ob_K hM) hT0 rfl dX4_takeNumber_10 ?_
        refine V_getI C fl_X4_43 (ob_K hTp) rfl dX4_takeNumber_13 ?_
        refine V_icmp_ge C 75 dX4_takeNumber_16 (by decide) (fun h16 => absurd h16 (by rw [t1, e5]; exact nI_ge (by omega) (by omega))) (fun h16 => ?_)
        refine V_aload_n C dX4_takeNumber_19 rfl ?_
        refine V_getR C fl_X4_9 (ob_K hM) hT0 rfl dX4_takeNumber_20 ?_
        refine V_aload_n C dX4_takeNumber_23 rfl ?_
        refine V_getI C fl_X4_28 (ob_K hM) rfl dX4_takeNumber_24 ?_
        rw [e5]
        refine V_callV (F := fun _ => True) C (c_signAt hTp hTn hl (n := k2) (by omega)) mi_X5_signAt ml_X4_48 rfl (ob_K hTp) (by decide) (by decide) (by decide) (Nat.le_of_ble_eq_true rfl) (fun _ _ => trivial) (fun v _ => clo_T v) rfl dX4_takeNumber_27 ?_
        rintro v S' I' J' ⟨hS9, rfl, hI9, hJ9⟩
        obtain rfl := hS9.symm
        obtain rfl := hI9.symm
        obtain rfl := hJ9.symm
        refine V_callS (F := fun _ => True) C (c_isDigit _) ms_X4_isDigit ml_X4_59 rfl (by decide) (by decide) (Nat.le_of_ble_eq_true rfl) (fun _ _ => trivial) (fun v _ => clo_T v) rfl dX4_takeNumber_30 ?_
        rintro v S' I' J' ⟨hS9, rfl, hI9, hJ9⟩
        obtain rfl := hS9.symm
        obtain rfl := hI9.symm
        obtain rfl := hJ9.symm
        refine V_if_eq C 75 dX4_takeNumber_33 (by decide) (fun h33 => absurd h33 (by rw [bI_0]; exact fun r => r hL)) (fun h33 => ?_)
        refine V_aload_n C dX4_takeNumber_36 rfl ?_
        refine V_aload_n C dX4_takeNumber_37 rfl ?_
        refine V_getI C fl_X4_72 (ob_K hM) rfl dX4_takeNumber_38 ?_
        refine V_bipush C (v := nI 10) dX4_takeNumber_41 (by decide +kernel) ?_
        refine V_imul C dX4_takeNumber_43 ?_
        refine V_aload_n C dX4_takeNumber_44 rfl ?_
        refine V_getR C fl_X4_9 (ob_K hM) hT0 rfl dX4_takeNumber_45 ?_
        refine V_aload_n C dX4_takeNumber_48 rfl ?_
        refine V_getI C fl_X4_28 (ob_K hM) rfl dX4_takeNumber_49 ?_
        rw [e5]
        refine V_callV (F := fun _ => True) C (c_signAt hTp hTn hl (n := k2) (by omega)) mi_X5_signAt ml_X4_48 rfl (ob_K hTp) (by decide) (by decide) (by decide) (Nat.le_of_ble_eq_true rfl) (fun _ _ => trivial) (fun v _ => clo_T v) rfl dX4_takeNumber_52 ?_
        rintro v S' I' J' ⟨hS9, rfl, hI9, hJ9⟩
        obtain rfl := hS9.symm
        obtain rfl := hI9.symm
        obtain rfl := hJ9.symm
        refine V_iadd C dX4_takeNumber_55 ?_
        refine V_bipush C (v := nI 48) dX4_takeNumber_56 (by decide +kernel) ?_
        refine V_isub C dX4_takeNumber_58 ?_
        rw [e8]
        refine V_putI C fl_X4_72 (ob_K hM) rfl rfl dX4_takeNumber_59 ?_
        refine V_aload_n C dX4_takeNumber_62 rfl ?_
        refine V_dup C dX4_takeNumber_63 rfl ?_
        refine V_getI C fl_X4_28 (ob_K hM) rfl dX4_takeNumber_64 ?_
        refine V_iconst C (v := nI 1) dX4_takeNumber_67 (by decide +kernel) ?_
        refine V_iadd C dX4_takeNumber_68 ?_
        rw [e9]
        refine V_putI C fl_X4_28 (ob_K hM) rfl rfl dX4_takeNumber_69 ?_
        refine V_goto C 5 dX4_takeNumber_72 (by decide) ?_
        exact nx
      · rw [if_neg hL] at eq ew
        subst eq
        have fin := end75 In hk2 (by omega) f1 f2 e5 (e6.trans ew.symm)
        refine V_aload_n C dX4_takeNumber_5 rfl ?_
        refine V_getI C fl_X4_28 (ob_K hM) rfl dX4_takeNumber_6 ?_
        refine V_aload_n C dX4_takeNumber_9 rfl ?_
        refine V_getR C fl_X4_9 (ob_K hM) hT0 rfl dX4_takeNumber_10 ?_
        refine V_getI C fl_X4_43 (ob_K hTp) rfl dX4_takeNumber_13 ?_
        refine V_icmp_ge C 75 dX4_takeNumber_16 (by decide) (fun h16 => absurd h16 (by rw [t1, e5]; exact nI_ge (by omega) (by omega))) (fun h16 => ?_)
        refine V_aload_n C dX4_takeNumber_19 rfl ?_
        refine V_getR C fl_X4_9 (ob_K hM) hT0 rfl dX4_takeNumber_20 ?_
        refine V_aload_n C dX4_takeNumber_23 rfl ?_
        refine V_getI C fl_X4_28 (ob_K hM) rfl dX4_takeNumber_24 ?_
        rw [e5]
        refine V_callV (F := fun _ => True) C (c_signAt hTp hTn hl (n := q) (by omega)) mi_X5_signAt ml_X4_48 rfl (ob_K hTp) (by decide) (by decide) (by decide) (Nat.le_of_ble_eq_true rfl) (fun _ _ => trivial) (fun v _ => clo_T v) rfl dX4_takeNumber_27 ?_
        rintro v S' I' J' ⟨hS9, rfl, hI9, hJ9⟩
        obtain rfl := hS9.symm
        obtain rfl := hI9.symm
        obtain rfl := hJ9.symm
        refine V_callS (F := fun _ => True) C (c_isDigit _) ms_X4_isDigit ml_X4_59 rfl (by decide) (by decide) (Nat.le_of_ble_eq_true rfl) (fun _ _ => trivial) (fun v _ => clo_T v) rfl dX4_takeNumber_30 ?_
        rintro v S' I' J' ⟨hS9, rfl, hI9, hJ9⟩
        obtain rfl := hS9.symm
        obtain rfl := hI9.symm
        obtain rfl := hJ9.symm
        refine V_if_eq C 75 dX4_takeNumber_33 (by decide) (fun h33 => ?_) (fun h33 => absurd (bI_f hL) h33)
        exact fin
  have st := loop (T.length - k) k (nI 0) (up2 I 1130 6 (nI 0)) (by omega) (Nat.le_refl _) (fun a ha => up2_ne _ _ _ ha) (fun x _ _ h3 => r_ne h3) ((r_ne (by decide)).trans h5) r_at hq hw
  refine V_aload_n C dX4_takeNumber_0 rfl ?_
  refine V_iconst C (v := nI 0) dX4_takeNumber_1 (by decide +kernel) ?_
  refine V_putI C fl_X4_72 (ob_K hM) rfl rfl dX4_takeNumber_2 ?_
  exact st
theorem ch_t : ∀ n, n < 128 → ((nI n).toUInt32 % 65536).toInt32 = nI n := by decide +kernel
theorem ch_c {c : Int32} (h : okB c) : (c.toUInt32 % 65536).toInt32 = c := by
  rcases h with rfl | h
  · exact ch_t 10 (by decide)
  · have h0 : ¬ c < 0 := fun q => absurd (Int32.le_trans h.1 (Int32.le_of_lt q)) (by decide)
    obtain ⟨k, hk, rfl⟩ := nI_of h0
    refine ch_t k ?_
    rcases Nat.lt_or_ge k 128 with q | q
    · exact q
    · exact absurd h.2 (Int32.not_le.mpr (nI_lt (by omega) hk))
/-- the reader stands at the token x -/
def rdT (I : HI) (x : Tok) : Prop := I 1130 3 = nI x.1 ∧ I 1130 4 = nI x.2.1 ∧ I 1130 5 = nI x.2.2.2 ∧ (x.1 = 2 → I 1130 6 = x.2.2.1.toInt32)
theorem ix0 {c : Int32} : ixF c (sBy.getD 0 []) 0 < 0 ↔ ¬ isSg c := by
  by_cases h : isSg c
  · have : ¬ ixF c (sBy.getD 0 []) 0 < 0 := by
      rcases h with rfl | rfl | rfl | rfl | rfl | rfl | rfl | rfl | rfl <;> decide +kernel
    exact ⟨fun q => absurd q this, fun q => absurd h q⟩
  · refine ⟨fun _ => h, fun _ => ?_⟩
    rw [ixF_out]
    · decide
    · intro b hb e
      subst e
      have hb2 : b ∈ ([nI 40, nI 41, nI 60, nI 61, nI 43, nI 45, nI 42, nI 47, nI 59] : List Int32) := hb
      simp only [List.mem_cons, List.not_mem_nil, or_false] at hb2
      rcases hb2 with h2 | h2 | h2 | h2 | h2 | h2 | h2 | h2 | h2 <;> exact h (by rw [h2]; decide)
set_option maxRecDepth 100000 in
set_option maxHeartbeats 1000000 in
theorem c_advance (hR : RdS S la) (hT : tpK I T) (hl : T.length ≤ 1000) (hB : ∀ c ∈ T, okB c) {b : Nat} (h5 : I 1130 5 = nI b) (hb : b ≤ T.length) {q : Option Value → HI → HJ → Prop} (hq : ∀ I', (∀ a, a ≠ 1130 → I' a = I a) → I' 1130 2 = I 1130 2 → rdT I' (nxT (tpT T) T.length b) → q none I' J) : Mn l yX4_advance cX4_advance 2 none 4 [.ref 1130] S I J q := by
  refine Mn.of (by decide) (fun ad => by simp [lg_sl, vv, Value.category]) (fun X P hP hn C => ?_)
  have hR0 := hR
  obtain ⟨hM, hT0, hT1, hTp, hLa⟩ := hR
  obtain ⟨x, hx⟩ : ∃ x, x = nxT (tpT T) T.length b := ⟨_, rfl⟩
  rw [← hx] at hq
  have hP2 : ∀ I', (∀ a, a ≠ 1130 → I' a = I a) → I' 1130 2 = I 1130 2 → rdT I' x → P none S I' J := fun I' h1 h2 h3 => hP _ _ _ (hq I' h1 h2 h3)
  have at67 : ∀ (p : Nat) (In : HI) (x1 : Option Value), p ≤ T.length → (∀ a, a ≠ 1130 → In a = I a) → In 1130 2 = I 1130 2 → In 1130 4 = nI p → x = nxT (tpT T) T.length p → (p < T.length → ¬ isBl (tpT T p)) → V X P 0 0 67 [some (.ref 1130), x1] [] S In J := by
    intro p In x1 hp f1 f2 e4 ex hnb
    obtain ⟨I2, hI2⟩ : ∃ I2, I2 = up2 In 1130 5 (nI p) := ⟨_, rfl⟩
    have g1 : ∀ a, a ≠ 1130 → I2 a = I a := fun a ha => by rw [hI2, up2_ne _ _ _ ha]; exact f1 a ha
    have g2 : I2 1130 2 = I 1130 2 := by rw [hI2, r_ne (by decide)]; exact f2
    have g4 : I2 1130 4 = nI p := by rw [hI2, r_ne (by decide)]; exact e4
    have g5 : I2 1130 5 = nI p := by rw [hI2, r_at]
    have hTn := tpK_cg hT g1
    have t1 := hTn.1
    by_cases hlt : p < T.length
    · have hnb := hnb hlt
      rw [nxT_tok hlt hnb, tok1] at ex
      have ob : okB (T.getD p 0) := hB _ (gd_mem hlt)
      by_cases hL : isLt (tpT T p)
      · rw [if_pos hL] at ex
        refine V_aload_n C dX4_advance_67 rfl ?_
        refine V_aload_n C dX4_advance_68 rfl ?_
        refine V_getI C fl_X4_40 (ob_K hM) rfl dX4_advance_69 ?_
        rw [e4]
        refine V_putI C fl_X4_28 (ob_K hM) rfl rfl dX4_advance_72 ?_
        rw [← hI2]
        refine V_aload_n C dX4_advance_75 rfl ?_
        refine V_getR C fl_X4_9 (ob_K hM) hT0 rfl dX4_advance_76 ?_
        refine V_aload_n C dX4_advance_79 rfl ?_
        refine V_getI C fl_X4_40 (ob_K hM) rfl dX4_advance_80 ?_
        rw [g4]
        refine V_callV (F := fun _ => True) C (c_signAt hTp hTn hl (n := p) (by omega)) mi_X5_signAt ml_X4_48 rfl (ob_K hTp) (by decide) (by decide) (by decide) (Nat.le_of_ble_eq_true rfl) (fun _ _ => trivial) (fun v _ => clo_T v) rfl dX4_advance_83 ?_
        rintro v S' I' J' ⟨hS9, rfl, hI9, hJ9⟩
        obtain rfl := hS9.symm
        obtain rfl := hI9.symm
        obtain rfl := hJ9.symm
        refine V_istore_n C dX4_advance_86 (hn _ (by decide)) ?_
        refine V_aload_n C dX4_advance_87 rfl ?_
        refine V_getI C fl_X4_40 (ob_K hM) rfl dX4_advance_88 ?_
        refine V_aload_n C dX4_advance_91 rfl ?_
        refine V_getR C fl_X4_9 (ob_K hM) hT0 rfl dX4_advance_92 ?_
        refine V_getI C fl_X4_43 (ob_K hTp) rfl dX4_advance_95 ?_
        refine V_icmp_lt C 109 dX4_advance_98 (by decide) (fun h98 => ?_) (fun h98 => absurd (by rw [t1, g4]; exact nI_lt hlt (by omega)) h98)
        refine V_iload_n C dX4_advance_109 rfl ?_
        refine V_callS (F := fun _ => True) C (c_isLetter _) ms_X4_isLetter ml_X4_52 rfl (by decide) (by decide) (Nat.le_of_ble_eq_true rfl) (fun _ _ => trivial) (fun v _ => clo_T v) rfl dX4_advance_110 ?_
        rintro v S' I' J' ⟨hS9, rfl, hI9, hJ9⟩
        obtain rfl := hS9.symm
        obtain rfl := hI9.symm
        obtain rfl := hJ9.symm
        refine V_if_eq C 123 dX4_advance_113 (by decide) (fun h113 => absurd h113 (by rw [bI_0]; exact fun r => r hL)) (fun h113 => ?_)
        refine V_aload_n C dX4_advance_116 rfl ?_
        refine V_callV (F := fun _ => True) C (c_takeWord hR0 hTn hl g4 g5 hp) mi_X4_takeWord ml_X4_56 rfl (ob_K hM) (by decide) (by decide) (by decide) (Nat.le_of_ble_eq_true rfl) (fun _ _ => trivial) (fun v _ => clo_T v) rfl dX4_advance_117 ?_
        rintro v S' I3 J3 ⟨hS9, rfl, k1, k2, k3, k4, hJ9⟩
        obtain rfl := hS9.symm
        obtain rfl := hJ9.symm
        refine V_goto C 166 dX4_advance_120 (by decide) ?_
        exact V_vret C (Nat.zero_le _) (Nat.zero_le _) dX4_advance_166 (hP2 _ (fun a ha => (k1 a ha).trans (g1 a ha)) ((k2 2 (by decide) (by decide)).trans g2) (by rw [ex]; exact ⟨k4, (k2 4 (by decide) (by decide)).trans g4, k3, fun q => absurd q (by dsimp only; split <;> decide)⟩))
      · rw [if_neg hL] at ex
        by_cases hD : isDg (tpT T p)
        · rw [if_pos hD] at ex
          refine V_aload_n C dX4_advance_67 rfl ?_
          refine V_aload_n C dX4_advance_68 rfl ?_
          refine V_getI C fl_X4_40 (ob_K hM) rfl dX4_advance_69 ?_
          rw [e4]
          refine V_putI C fl_X4_28 (ob_K hM) rfl rfl dX4_advance_72 ?_
          rw [← hI2]
          refine V_aload_n C dX4_advance_75 rfl ?_
          refine V_getR C fl_X4_9 (ob_K hM) hT0 rfl dX4_advance_76 ?_
          refine V_aload_n C dX4_advance_79 rfl ?_
          refine V_getI C fl_X4_40 (ob_K hM) rfl dX4_advance_80 ?_
          rw [g4]
          refine V_callV (F := fun _ => True) C (c_signAt hTp hTn hl (n := p) (by omega)) mi_X5_signAt ml_X4_48 rfl (ob_K hTp) (by decide) (by decide) (by decide) (Nat.le_of_ble_eq_true rfl) (fun _ _ => trivial) (fun v _ => clo_T v) rfl dX4_advance_83 ?_
          rintro v S' I' J' ⟨hS9, rfl, hI9, hJ9⟩
          obtain rfl := hS9.symm
          obtain rfl := hI9.symm
          obtain rfl := hJ9.symm
          refine V_istore_n C dX4_advance_86 (hn _ (by decide)) ?_
          refine V_aload_n C dX4_advance_87 rfl ?_
          refine V_getI C fl_X4_40 (ob_K hM) rfl dX4_advance_88 ?_
          refine V_aload_n C dX4_advance_91 rfl ?_
          refine V_getR C fl_X4_9 (ob_K hM) hT0 rfl dX4_advance_92 ?_
          refine V_getI C fl_X4_43 (ob_K hTp) rfl dX4_advance_95 ?_
          refine V_icmp_lt C 109 dX4_advance_98 (by decide) (fun h98 => ?_) (fun h98 => absurd (by rw [t1, g4]; exact nI_lt hlt (by omega)) h98)
          refine V_iload_n C dX4_advance_109 rfl ?_
          refine V_callS (F := fun _ => True) C (c_isLetter _) ms_X4_isLetter ml_X4_52 rfl (by decide) (by decide) (Nat.le_of_ble_eq_true rfl) (fun _ _ => trivial) (fun v _ => clo_T v) rfl dX4_advance_110 ?_
          rintro v S' I' J' ⟨hS9, rfl, hI9, hJ9⟩
          obtain rfl := hS9.symm
          obtain rfl := hI9.symm
          obtain rfl := hJ9.symm
          refine V_if_eq C 123 dX4_advance_113 (by decide) (fun h113 => ?_) (fun h113 => absurd (bI_f hL) h113)
          refine V_iload_n C dX4_advance_123 rfl ?_
          refine V_callS (F := fun _ => True) C (c_isDigit _) ms_X4_isDigit ml_X4_59 rfl (by decide) (by decide) (Nat.le_of_ble_eq_true rfl) (fun _ _ => trivial) (fun v _ => clo_T v) rfl dX4_advance_124 ?_
          rintro v S' I' J' ⟨hS9, rfl, hI9, hJ9⟩
          obtain rfl := hS9.symm
          obtain rfl := hI9.symm
          obtain rfl := hJ9.symm
          refine V_if_eq C 137 dX4_advance_127 (by decide) (fun h127 => absurd h127 (by rw [bI_0]; exact fun r => r hD)) (fun h127 => ?_)
          refine V_aload_n C dX4_advance_130 rfl ?_
          refine V_callV (F := fun _ => True) C (c_takeNumber hR0 hTn hl g4 g5 hp) mi_X4_takeNumber ml_X4_62 rfl (ob_K hM) (by decide) (by decide) (by decide) (Nat.le_of_ble_eq_true rfl) (fun _ _ => trivial) (fun v _ => clo_T v) rfl dX4_advance_131 ?_
          rintro v S' I3 J3 ⟨hS9, rfl, k1, k2, k3, k4, k5, hJ9⟩
          obtain rfl := hS9.symm
          obtain rfl := hJ9.symm
          refine V_goto C 166 dX4_advance_134 (by decide) ?_
          exact V_vret C (Nat.zero_le _) (Nat.zero_le _) dX4_advance_166 (hP2 _ (fun a ha => (k1 a ha).trans (g1 a ha)) ((k2 2 (by decide) (by decide) (by decide)).trans g2) (by rw [ex]; exact ⟨k4, (k2 4 (by decide) (by decide) (by decide)).trans g4, k3, fun q => k5.trans (num_e q)⟩))
        · rw [if_neg hD] at ex
          have ec := ch_c ob
          have e6 : I2 1130 4 + nI 1 = nI (p + 1) := by rw [g4, nI_add]
          obtain ⟨I3, hI3⟩ : ∃ I3, I3 = up2 I2 1130 5 (nI (p + 1)) := ⟨_, rfl⟩
          have k1 : ∀ a, a ≠ 1130 → I3 a = I a := fun a ha => by rw [hI3, up2_ne _ _ _ ha]; exact g1 a ha
          have k2 : I3 1130 2 = I 1130 2 := by rw [hI3, r_ne (by decide)]; exact g2
          have k4 : I3 1130 4 = nI p := by rw [hI3, r_ne (by decide)]; exact g4
          have k5 : I3 1130 5 = nI (p + 1) := by rw [hI3, r_at]
          have g : ∀ v, v = nI (if isSg (tpT T p) then 3 else 4) → P none S (up2 I3 1130 3 v) J := fun v hv => hP2 _ (fun a ha => by rw [up2_ne _ _ _ ha]; exact k1 a ha) ((r_ne (by decide)).trans k2) (by rw [ex]; exact ⟨r_at.trans hv, (r_ne (by decide)).trans k4, (r_ne (by decide)).trans k5, fun q => absurd q (by dsimp only; split <;> decide)⟩)
          by_cases hG : isSg (tpT T p)
          · rw [if_pos hG] at g
            refine V_aload_n C dX4_advance_67 rfl ?_
            refine V_aload_n C dX4_advance_68 rfl ?_
            refine V_getI C fl_X4_40 (ob_K hM) rfl dX4_advance_69 ?_
            rw [e4]
            refine V_putI C fl_X4_28 (ob_K hM) rfl rfl dX4_advance_72 ?_
            rw [← hI2]
            refine V_aload_n C dX4_advance_75 rfl ?_
            refine V_getR C fl_X4_9 (ob_K hM) hT0 rfl dX4_advance_76 ?_
            refine V_aload_n C dX4_advance_79 rfl ?_
            refine V_getI C fl_X4_40 (ob_K hM) rfl dX4_advance_80 ?_
            rw [g4]
            refine V_callV (F := fun _ => True) C (c_signAt hTp hTn hl (n := p) (by omega)) mi_X5_signAt ml_X4_48 rfl (ob_K hTp) (by decide) (by decide) (by decide) (Nat.le_of_ble_eq_true rfl) (fun _ _ => trivial) (fun v _ => clo_T v) rfl dX4_advance_83 ?_
            rintro v S' I' J' ⟨hS9, rfl, hI9, hJ9⟩
            obtain rfl := hS9.symm
            obtain rfl := hI9.symm
            obtain rfl := hJ9.symm
            refine V_istore_n C dX4_advance_86 (hn _ (by decide)) ?_
            refine V_aload_n C dX4_advance_87 rfl ?_
            refine V_getI C fl_X4_40 (ob_K hM) rfl dX4_advance_88 ?_
            refine V_aload_n C dX4_advance_91 rfl ?_
            refine V_getR C fl_X4_9 (ob_K hM) hT0 rfl dX4_advance_92 ?_
            refine V_getI C fl_X4_43 (ob_K hTp) rfl dX4_advance_95 ?_
            refine V_icmp_lt C 109 dX4_advance_98 (by decide) (fun h98 => ?_) (fun h98 => absurd (by rw [t1, g4]; exact nI_lt hlt (by omega)) h98)
            refine V_iload_n C dX4_advance_109 rfl ?_
            refine V_callS (F := fun _ => True) C (c_isLetter _) ms_X4_isLetter ml_X4_52 rfl (by decide) (by decide) (Nat.le_of_ble_eq_true rfl) (fun _ _ => trivial) (fun v _ => clo_T v) rfl dX4_advance_110 ?_
            rintro v S' I' J' ⟨hS9, rfl, hI9, hJ9⟩
            obtain rfl := hS9.symm
            obtain rfl := hI9.symm
            obtain rfl := hJ9.symm
            refine V_if_eq C 123 dX4_advance_113 (by decide) (fun h113 => ?_) (fun h113 => absurd (bI_f hL) h113)
            refine V_iload_n C dX4_advance_123 rfl ?_
            refine V_callS (F := fun _ => True) C (c_isDigit _) ms_X4_isDigit ml_X4_59 rfl (by decide) (by decide) (Nat.le_of_ble_eq_true rfl) (fun _ _ => trivial) (fun v _ => clo_T v) rfl dX4_advance_124 ?_
            rintro v S' I' J' ⟨hS9, rfl, hI9, hJ9⟩
            obtain rfl := hS9.symm
            obtain rfl := hI9.symm
            obtain rfl := hJ9.symm
            refine V_if_eq C 137 dX4_advance_127 (by decide) (fun h127 => ?_) (fun h127 => absurd (bI_f hD) h127)
            refine V_aload_n C dX4_advance_137 rfl ?_
            refine V_aload_n C dX4_advance_138 rfl ?_
            refine V_getI C fl_X4_40 (ob_K hM) rfl dX4_advance_139 ?_
            refine V_iconst C (v := nI 1) dX4_advance_142 (by decide +kernel) ?_
            refine V_iadd C dX4_advance_143 ?_
            rw [e6]
            refine V_putI C fl_X4_28 (ob_K hM) rfl rfl dX4_advance_144 ?_
            rw [← hI3]
            refine V_aload_n C dX4_advance_147 rfl ?_
            refine V_ldcS C rfl 0 (by decide) rfl dX4_advance_148 ?_
            refine V_iload_n C dX4_advance_150 rfl ?_
            refine V_i2c C dX4_advance_151 ?_
            rw [ec]
            refine V_callT (F := fun _ => True) C (by decide) (c_indexOf (i := 0) (by decide) _) mi_J0_indexOf_0f7a4 ml_X4_67 rfl rfl (by decide) (by decide) (Nat.le_of_ble_eq_true rfl) (fun _ _ => trivial) (fun v _ => clo_T v) rfl dX4_advance_152 ?_
            rintro v S' I' J' ⟨hS9, rfl, hI9, hJ9⟩
            obtain rfl := hS9.symm
            obtain rfl := hI9.symm
            obtain rfl := hJ9.symm
            refine V_if_lt C 162 dX4_advance_155 (by decide) (fun h155 => absurd h155 (fun q => ix0.mp q hG)) (fun h155 => ?_)
            refine V_iconst C (v := nI 3) dX4_advance_158 (by decide +kernel) ?_
            refine V_goto C 163 dX4_advance_159 (by decide) ?_
            refine V_putI C fl_X4_34 (ob_K hM) rfl rfl dX4_advance_163 ?_
            exact V_vret C (Nat.zero_le _) (Nat.zero_le _) dX4_advance_166 (g _ rfl)
          · rw [if_neg hG] at g
            refine V_aload_n C dX4_advance_67 rfl ?_
            refine V_aload_n C dX4_advance_68 rfl ?_
            refine V_getI C fl_X4_40 (ob_K hM) rfl dX4_advance_69 ?_
            rw [e4]
            refine V_putI C fl_X4_28 (ob_K hM) rfl rfl dX4_advance_72 ?_
            rw [← hI2]
            refine V_aload_n C dX4_advance_75 rfl ?_
            refine V_getR C fl_X4_9 (ob_K hM) hT0 rfl dX4_advance_76 ?_
            refine V_aload_n C dX4_advance_79 rfl ?_
            refine V_getI C fl_X4_40 (ob_K hM) rfl dX4_advance_80 ?_
            rw [g4]
            refine V_callV (F := fun _ => True) C (c_signAt hTp hTn hl (n := p) (by omega)) mi_X5_signAt ml_X4_48 rfl (ob_K hTp) (by decide) (by decide) (by decide) (Nat.le_of_ble_eq_true rfl) (fun _ _ => trivial) (fun v _ => clo_T v) rfl dX4_advance_83 ?_
            rintro v S' I' J' ⟨hS9, rfl, hI9, hJ9⟩
            obtain rfl := hS9.symm
            obtain rfl := hI9.symm
            obtain rfl := hJ9.symm
            refine V_istore_n C dX4_advance_86 (hn _ (by decide)) ?_
            refine V_aload_n C dX4_advance_87 rfl ?_
            refine V_getI C fl_X4_40 (ob_K hM) rfl dX4_advance_88 ?_
            refine V_aload_n C dX4_advance_91 rfl ?_
            refine V_getR C fl_X4_9 (ob_K hM) hT0 rfl dX4_advance_92 ?_
            refine V_getI C fl_X4_43 (ob_K hTp) rfl dX4_advance_95 ?_
            refine V_icmp_lt C 109 dX4_advance_98 (by decide) (fun h98 => ?_) (fun h98 => absurd (by rw [t1, g4]; exact nI_lt hlt (by omega)) h98)
            refine V_iload_n C dX4_advance_109 rfl ?_
            refine V_callS (F := fun _ => True) C (c_isLetter _) ms_X4_isLetter ml_X4_52 rfl (by decide) (by decide) (Nat.le_of_ble_eq_true rfl) (fun _ _ => trivial) (fun v _ => clo_T v) rfl dX4_advance_110 ?_
            rintro v S' I' J' ⟨hS9, rfl, hI9, hJ9⟩
            obtain rfl := hS9.symm
            obtain rfl := hI9.symm
            obtain rfl := hJ9.symm
            refine V_if_eq C 123 dX4_advance_113 (by decide) (fun h113 => ?_) (fun h113 => absurd (bI_f hL) h113)
            refine V_iload_n C dX4_advance_123 rfl ?_
            refine V_callS (F := fun _ => True) C (c_isDigit _) ms_X4_isDigit ml_X4_59 rfl (by decide) (by decide) (Nat.le_of_ble_eq_true rfl) (fun _ _ => trivial) (fun v _ => clo_T v) rfl dX4_advance_124 ?_
            rintro v S' I' J' ⟨hS9, rfl, hI9, hJ9⟩
            obtain rfl := hS9.symm
            obtain rfl := hI9.symm
            obtain rfl := hJ9.symm
            refine V_if_eq C 137 dX4_advance_127 (by decide) (fun h127 => ?_) (fun h127 => absurd (bI_f hD) h127)
            refine V_aload_n C dX4_advance_137 rfl ?_
            refine V_aload_n C dX4_advance_138 rfl ?_
            refine V_getI C fl_X4_40 (ob_K hM) rfl dX4_advance_139 ?_
            refine V_iconst C (v := nI 1) dX4_advance_142 (by decide +kernel) ?_
            refine V_iadd C dX4_advance_143 ?_
            rw [e6]
            refine V_putI C fl_X4_28 (ob_K hM) rfl rfl dX4_advance_144 ?_
            rw [← hI3]
            refine V_aload_n C dX4_advance_147 rfl ?_
            refine V_ldcS C rfl 0 (by decide) rfl dX4_advance_148 ?_
            refine V_iload_n C dX4_advance_150 rfl ?_
            refine V_i2c C dX4_advance_151 ?_
            rw [ec]
            refine V_callT (F := fun _ => True) C (by decide) (c_indexOf (i := 0) (by decide) _) mi_J0_indexOf_0f7a4 ml_X4_67 rfl rfl (by decide) (by decide) (Nat.le_of_ble_eq_true rfl) (fun _ _ => trivial) (fun v _ => clo_T v) rfl dX4_advance_152 ?_
            rintro v S' I' J' ⟨hS9, rfl, hI9, hJ9⟩
            obtain rfl := hS9.symm
            obtain rfl := hI9.symm
            obtain rfl := hJ9.symm
            refine V_if_lt C 162 dX4_advance_155 (by decide) (fun h155 => ?_) (fun h155 => absurd (ix0.mpr hG) h155)
            refine V_iconst C (v := nI 4) dX4_advance_162 (by decide +kernel) ?_
            refine V_putI C fl_X4_34 (ob_K hM) rfl rfl dX4_advance_163 ?_
            exact V_vret C (Nat.zero_le _) (Nat.zero_le _) dX4_advance_166 (g _ rfl)
    · have hpn : p = T.length := by omega
      rw [nxT_end (by omega)] at ex
      refine V_aload_n C dX4_advance_67 rfl ?_
      refine V_aload_n C dX4_advance_68 rfl ?_
      refine V_getI C fl_X4_40 (ob_K hM) rfl dX4_advance_69 ?_
      rw [e4]
      refine V_putI C fl_X4_28 (ob_K hM) rfl rfl dX4_advance_72 ?_
      rw [← hI2]
      refine V_aload_n C dX4_advance_75 rfl ?_
      refine V_getR C fl_X4_9 (ob_K hM) hT0 rfl dX4_advance_76 ?_
      refine V_aload_n C dX4_advance_79 rfl ?_
      refine V_getI C fl_X4_40 (ob_K hM) rfl dX4_advance_80 ?_
      rw [g4]
      refine V_callV (F := fun _ => True) C (c_signAt hTp hTn hl (n := p) (by omega)) mi_X5_signAt ml_X4_48 rfl (ob_K hTp) (by decide) (by decide) (by decide) (Nat.le_of_ble_eq_true rfl) (fun _ _ => trivial) (fun v _ => clo_T v) rfl dX4_advance_83 ?_
      rintro v S' I' J' ⟨hS9, rfl, hI9, hJ9⟩
      obtain rfl := hS9.symm
      obtain rfl := hI9.symm
      obtain rfl := hJ9.symm
      refine V_istore_n C dX4_advance_86 (hn _ (by decide)) ?_
      refine V_aload_n C dX4_advance_87 rfl ?_
      refine V_getI C fl_X4_40 (ob_K hM) rfl dX4_advance_88 ?_
      refine V_aload_n C dX4_advance_91 rfl ?_
      refine V_getR C fl_X4_9 (ob_K hM) hT0 rfl dX4_advance_92 ?_
      refine V_getI C fl_X4_43 (ob_K hTp) rfl dX4_advance_95 ?_
      refine V_icmp_lt C 109 dX4_advance_98 (by decide) (fun h98 => absurd h98 (by rw [t1, g4]; exact nI_nlt (by omega) (by omega))) (fun h98 => ?_)
      refine V_aload_n C dX4_advance_101 rfl ?_
      refine V_iconst C (v := nI 0) dX4_advance_102 (by decide +kernel) ?_
      refine V_putI C fl_X4_34 (ob_K hM) rfl rfl dX4_advance_103 ?_
      refine V_goto C 166 dX4_advance_106 (by decide) ?_
      exact V_vret C (Nat.zero_le _) (Nat.zero_le _) dX4_advance_166 (hP2 _ (fun a ha => by rw [up2_ne _ _ _ ha]; exact g1 a ha) ((r_ne (by decide)).trans g2) (by rw [ex]; exact ⟨r_at, by rw [r_ne (by decide), g4, hpn], by rw [r_ne (by decide), g5, hpn], fun q => by cases q⟩))
  have loop : ∀ (c p : Nat) (In : HI), p + c = T.length → (∀ a, a ≠ 1130 → In a = I a) → In 1130 2 = I 1130 2 → In 1130 4 = nI p → x = nxT (tpT T) T.length p → V X P 0 0 8 [some (.ref 1130), none] [] S In J := by
    intro c
    induction c with
    | zero =>
      intro p In hc f1 f2 e4 ex
      have t1 := (tpK_cg hT f1).1
      have fin := at67 p In none (by omega) f1 f2 e4 ex (fun q => by omega)
      refine V_aload_n C dX4_advance_8 rfl ?_
      refine V_getI C fl_X4_40 (ob_K hM) rfl dX4_advance_9 ?_
      refine V_aload_n C dX4_advance_12 rfl ?_
      refine V_getR C fl_X4_9 (ob_K hM) hT0 rfl dX4_advance_13 ?_
      refine V_getI C fl_X4_43 (ob_K hTp) rfl dX4_advance_16 ?_
      refine V_icmp_ge C 67 dX4_advance_19 (by decide) (fun h19 => ?_) (fun h19 => absurd (by rw [t1, e4]; exact nI_le (by omega) (by omega)) h19)
      exact fin
    | succ c ih =>
      intro p In hc f1 f2 e4 ex
      have hTn := tpK_cg hT f1
      have t1 := hTn.1
      have go : isBl (tpT T p) → V X P 0 0 54 [some (.ref 1130), none] [] S In J := by
        intro hb
        rw [nxT_bl (by omega) hb] at ex
        have e6 : In 1130 4 + nI 1 = nI (p + 1) := by rw [e4, nI_add]
        have nx := ih (p + 1) (up2 In 1130 4 (nI (p + 1))) (by omega) (fun a ha => by rw [up2_ne _ _ _ ha]; exact f1 a ha) ((r_ne (by decide)).trans f2) r_at ex
        refine V_aload_n C dX4_advance_54 rfl ?_
        refine V_dup C dX4_advance_55 rfl ?_
        refine V_getI C fl_X4_40 (ob_K hM) rfl dX4_advance_56 ?_
        refine V_iconst C (v := nI 1) dX4_advance_59 (by decide +kernel) ?_
        refine V_iadd C dX4_advance_60 ?_
        rw [e6]
        refine V_putI C fl_X4_40 (ob_K hM) rfl rfl dX4_advance_61 ?_
        refine V_goto C 8 dX4_advance_64 (by decide) ?_
        exact nx
      refine V_aload_n C dX4_advance_8 rfl ?_
      refine V_getI C fl_X4_40 (ob_K hM) rfl dX4_advance_9 ?_
      refine V_aload_n C dX4_advance_12 rfl ?_
      refine V_getR C fl_X4_9 (ob_K hM) hT0 rfl dX4_advance_13 ?_
      refine V_getI C fl_X4_43 (ob_K hTp) rfl dX4_advance_16 ?_
      refine V_icmp_ge C 67 dX4_advance_19 (by decide) (fun h19 => absurd h19 (by rw [t1, e4]; exact nI_ge (by omega) (by omega))) (fun h19 => ?_)
      refine V_aload_n C dX4_advance_22 rfl ?_
      refine V_getR C fl_X4_9 (ob_K hM) hT0 rfl dX4_advance_23 ?_
      refine V_aload_n C dX4_advance_26 rfl ?_
      refine V_getI C fl_X4_40 (ob_K hM) rfl dX4_advance_27 ?_
      rw [e4]
      refine V_callV (F := fun _ => True) C (c_signAt hTp hTn hl (n := p) (by omega)) mi_X5_signAt ml_X4_48 rfl (ob_K hTp) (by decide) (by decide) (by decide) (Nat.le_of_ble_eq_true rfl) (fun _ _ => trivial) (fun v _ => clo_T v) rfl dX4_advance_30 ?_
      rintro v S' I' J' ⟨hS9, rfl, hI9, hJ9⟩
      obtain rfl := hS9.symm
      obtain rfl := hI9.symm
      obtain rfl := hJ9.symm
      refine V_bipush C (v := nI 10) dX4_advance_33 (by decide +kernel) ?_
      refine V_icmp_eq C 54 dX4_advance_35 (by decide) (fun h35 => ?_) (fun h35 => ?_)
      · first | exact go (Or.inl h35) | exact go (Or.inr h51)
      · refine V_aload_n C dX4_advance_38 rfl ?_
        refine V_getR C fl_X4_9 (ob_K hM) hT0 rfl dX4_advance_39 ?_
        refine V_aload_n C dX4_advance_42 rfl ?_
        refine V_getI C fl_X4_40 (ob_K hM) rfl dX4_advance_43 ?_
        rw [e4]
        refine V_callV (F := fun _ => True) C (c_signAt hTp hTn hl (n := p) (by omega)) mi_X5_signAt ml_X4_48 rfl (ob_K hTp) (by decide) (by decide) (by decide) (Nat.le_of_ble_eq_true rfl) (fun _ _ => trivial) (fun v _ => clo_T v) rfl dX4_advance_46 ?_
        rintro v S' I' J' ⟨hS9, rfl, hI9, hJ9⟩
        obtain rfl := hS9.symm
        obtain rfl := hI9.symm
        obtain rfl := hJ9.symm
        refine V_bipush C (v := nI 32) dX4_advance_49 (by decide +kernel) ?_
        refine V_icmp_ne C 67 dX4_advance_51 (by decide) (fun h51 => ?_) (fun h51 => ?_)
        · exact at67 p In none (by omega) f1 f2 e4 ex (fun _ q => q.elim h35 h51)
        · first | exact go (Or.inl h35) | exact go (Or.inr h51)
  have st := loop (T.length - b) b (up2 I 1130 4 (nI b)) (by omega) (fun a ha => up2_ne _ _ _ ha) (r_ne (by decide)) r_at hx
  refine V_aload_n C dX4_advance_0 rfl ?_
  refine V_aload_n C dX4_advance_1 rfl ?_
  refine V_getI C fl_X4_28 (ob_K hM) rfl dX4_advance_2 ?_
  rw [h5]
  refine V_putI C fl_X4_40 (ob_K hM) rfl rfl dX4_advance_5 ?_
  exact st
end C30
