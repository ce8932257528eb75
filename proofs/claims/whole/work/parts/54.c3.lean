/-! the class's disk: questions over lumps and rings; what changes it -/
section C3
variable {l : Launch} {S : HS} {I I' : HI} {J J' : HJ} {b : Nat} {D D' : DV}
/-- what lumps are made of is of rings that there are -/
def zL (D : DV) : Prop := ∀ u, u < cmD D → ∀ k, rgD D ≤ k → k < 12 → D 11 (12 * u + k) = 0
theorem CD.cm (h : CD I J b D) (hD : rOk D) : I b 6 = nI (cmD D) := h.1.2.2.2.2.1.trans hD.2.2.2.1
theorem CD.rg (h : CD I J b D) (hD : rOk D) : I b 0 = nI (rgD D) := h.1.1.trans hD.1
theorem fam_c (h : CD I J b D) (hD : rOk D) (hz : zL D) {u : Nat} (hu : u < cmD D) : fm (I (b + 20 + 10 * u + 8)) (rgD D) = famD D u := by
  have h12 := hD.2.2.1
  have e1 : fm (I (b + 20 + 10 * u + 8)) (rgD D) = fm (fun k => D 11 (12 * u + k)) (rgD D) := fm_cg _ (by omega) (fun k hk => (h.2.2.2 u hu).2 k (by omega))
  have e2 := fm_z (f := fun k => D 11 (12 * u + k)) (n := rgD D) (12 - rgD D) (fun k h1 h2 => hz u hu k h1 (by omega))
  rw [show rgD D + (12 - rgD D) = 12 by omega] at e2
  rw [e1, ← e2]
  rfl
theorem anN_up {w : Nat} {v : Int32} {n : Nat} (h : anN D w v n = 1) : ∀ m, anN D w v (n + m) = 1
  | 0 => h
  | m + 1 => by
    show anN D w v (n + m + 1) = 1
    rw [anN, anN_up h m, if_neg (by decide)]
theorem lkN'_up {u n : Nat} (h : lkN' D u n = nI 1) : ∀ m, lkN' D u (n + m) = nI 1
  | 0 => h
  | m + 1 => by
    show lkN' D u (n + m + 1) = nI 1
    rw [lkN', lkN'_up h m, lkAt]
    split
    · split
      · rfl
      · rw [if_neg (by decide)]
    · rfl
set_option maxRecDepth 100000 in
theorem c_hasLumpIn (hK : Dk S b) (hC : CD I J b D) (hD : rOk D) (v : Int32) : Mn l yX1_hasLumpIn cX1_hasLumpIn 3 (some .boolean) 1 [.ref b, .int v] S I J (fun r I' J' => r = some (.int (anN D 1 v (cmD D))) ∧ I' = I ∧ J' = J) := by
  refine Mn.of (by decide) (fun ad => by simp [lg_sl, vv, Value.category]) (fun X P hP hn C => ?_)
  have hK1 := hK.1
  have h30 := hD.2.2.2.2.1
  have ec := hC.cm hD
  have loop : ∀ (c x : Nat), x + c = cmD D → anN D 1 v x = 0 → V X P 0 0 2 [some (.ref b), some (.int v), some (.int (nI x))] [] S I J := by
    intro c
    induction c with
    | zero =>
      intro x hx h0
      have hx : x = cmD D := hx
      refine V_iload_n C dX1_hasLumpIn_2 rfl ?_
      refine V_aload_n C dX1_hasLumpIn_3 rfl ?_
      refine V_getI C fl_X1_45 (ob_K hK1) rfl dX1_hasLumpIn_4 ?_
      refine V_icmp_ge C 31 dX1_hasLumpIn_7 (by decide) (fun h7 => ?_) (fun h7 => absurd (by rw [ec, hx]; exact Int32.le_refl _) h7)
      refine V_iconst C (v := nI 0) dX1_hasLumpIn_31 (by decide +kernel) ?_
      exact V_zret C (by first | exact Or.inl rfl | exact Or.inr rfl | (simp only [bI]; split <;> first | exact Or.inl rfl | exact Or.inr rfl) | assumption) (Nat.zero_le _) (Nat.zero_le _) dX1_hasLumpIn_32 (hP _ _ _ ⟨by rw [← hx, h0]; rfl, rfl, rfl⟩)
    | succ c ih =>
      intro x hx h0
      obtain ⟨hLx, hRx⟩ := hK.2 x (by omega)
      obtain ⟨⟨w0, w1, -⟩, -⟩ := hC.2.2.2 x (by omega)
      have e : (I (b + 20 + 10 * x) 0 = 0 ∧ I (b + 20 + 10 * x) 1 = v) ↔ (D 5 x = 0 ∧ D 6 x = v) := by rw [w0, w1]
      by_cases h : D 5 x = 0 ∧ D 6 x = v
      · have h1 : anN D 1 v (x + 1) = 1 := by rw [anN, h0, if_pos rfl, if_pos h.1, if_pos rfl, if_pos h.2]
        have h2 := anN_up h1 c
        rw [show x + 1 + c = cmD D by omega] at h2
        refine V_iload_n C dX1_hasLumpIn_2 rfl ?_
        refine V_aload_n C dX1_hasLumpIn_3 rfl ?_
        refine V_getI C fl_X1_45 (ob_K hK1) rfl dX1_hasLumpIn_4 ?_
        refine V_icmp_ge C 31 dX1_hasLumpIn_7 (by decide) (fun h7 => absurd h7 (by rw [ec]; exact nI_ge (by omega) (by omega))) (fun h7 => ?_)
        refine V_aload_n C dX1_hasLumpIn_10 rfl ?_
        refine V_getR C fl_X1_26 (ob_K hK1) (ob_R hK1 12 (b + 13) rfl rfl) rfl dX1_hasLumpIn_11 ?_
        refine V_iload_n C dX1_hasLumpIn_14 rfl ?_
        refine V_aald C (x) (ob_A2 hK1 12 (b + 13) rfl rfl) (by first | rfl | (simp only [nI_add, pk_mul]; done) | (simp only [nI_add, pk_mul]; congr 1; omega)) (by rw [ob_N hK1 12 (b + 13) rfl rfl]; omega) (by rw [ob_N hK1 12 (b + 13) rfl rfl]; decide) hRx dX1_hasLumpIn_15 ?_
        refine V_iload_n C dX1_hasLumpIn_16 rfl ?_
        refine V_callV (F := fun _ => True) C (c_isThereIn hLx v) mi_X3_isThereIn ml_X1_92 rfl (ob_K hLx) (by decide) (by decide) (by decide) (Nat.le_of_ble_eq_true rfl) (fun _ _ => trivial) (fun v _ => clo_T v) rfl dX1_hasLumpIn_17 ?_
        rintro v S' I' J' ⟨hS9, rfl, hI9, hJ9⟩
        obtain rfl := hS9.symm
        obtain rfl := hI9.symm
        obtain rfl := hJ9.symm
        refine V_if_eq C 25 dX1_hasLumpIn_20 (by decide) (fun h20 => absurd h20 (by rw [bI_0]; exact fun q => q (e.mpr h))) (fun h20 => ?_)
        refine V_iconst C (v := nI 1) dX1_hasLumpIn_23 (by decide +kernel) ?_
        exact V_zret C (by first | exact Or.inl rfl | exact Or.inr rfl | (simp only [bI]; split <;> first | exact Or.inl rfl | exact Or.inr rfl) | assumption) (Nat.zero_le _) (Nat.zero_le _) dX1_hasLumpIn_24 (hP _ _ _ ⟨by rw [h2]; rfl, rfl, rfl⟩)
      · have h1 : anN D 1 v (x + 1) = 0 := by
          rw [anN, h0, if_pos rfl]
          by_cases q : D 5 x = 0
          · rw [if_pos q, if_pos rfl, if_neg (fun p => h ⟨q, p⟩)]
          · rw [if_neg q]
        refine V_iload_n C dX1_hasLumpIn_2 rfl ?_
        refine V_aload_n C dX1_hasLumpIn_3 rfl ?_
        refine V_getI C fl_X1_45 (ob_K hK1) rfl dX1_hasLumpIn_4 ?_
        refine V_icmp_ge C 31 dX1_hasLumpIn_7 (by decide) (fun h7 => absurd h7 (by rw [ec]; exact nI_ge (by omega) (by omega))) (fun h7 => ?_)
        refine V_aload_n C dX1_hasLumpIn_10 rfl ?_
        refine V_getR C fl_X1_26 (ob_K hK1) (ob_R hK1 12 (b + 13) rfl rfl) rfl dX1_hasLumpIn_11 ?_
        refine V_iload_n C dX1_hasLumpIn_14 rfl ?_
        refine V_aald C (x) (ob_A2 hK1 12 (b + 13) rfl rfl) (by first | rfl | (simp only [nI_add, pk_mul]; done) | (simp only [nI_add, pk_mul]; congr 1; omega)) (by rw [ob_N hK1 12 (b + 13) rfl rfl]; omega) (by rw [ob_N hK1 12 (b + 13) rfl rfl]; decide) hRx dX1_hasLumpIn_15 ?_
        refine V_iload_n C dX1_hasLumpIn_16 rfl ?_
        refine V_callV (F := fun _ => True) C (c_isThereIn hLx v) mi_X3_isThereIn ml_X1_92 rfl (ob_K hLx) (by decide) (by decide) (by decide) (Nat.le_of_ble_eq_true rfl) (fun _ _ => trivial) (fun v _ => clo_T v) rfl dX1_hasLumpIn_17 ?_
        rintro v S' I' J' ⟨hS9, rfl, hI9, hJ9⟩
        obtain rfl := hS9.symm
        obtain rfl := hI9.symm
        obtain rfl := hJ9.symm
        refine V_if_eq C 25 dX1_hasLumpIn_20 (by decide) (fun h20 => ?_) (fun h20 => absurd (bI_f (fun q => h (e.mp q))) h20)
        refine V_iincU C dX1_hasLumpIn_25 rfl (hn _ (by decide)) ?_
        refine V_goto C 2 dX1_hasLumpIn_28 (by decide) ?_
        exact ih (x + 1) (by omega) h1
  refine V_iconst C (v := nI 0) dX1_hasLumpIn_0 (by decide +kernel) ?_
  refine V_istore_n C dX1_hasLumpIn_1 (hn _ (by decide)) ?_
  exact loop (cmD D) 0 (by omega) rfl
set_option maxRecDepth 100000 in
theorem c_hasLumpOfFamily (hK : Dk S b) (hC : CD I J b D) (hD : rOk D) (hz : zL D) (v : Int32) : Mn l yX1_hasLumpOfFamily cX1_hasLumpOfFamily 3 (some .boolean) 1 [.ref b, .int v] S I J (fun r I' J' => r = some (.int (anN D 3 v (cmD D))) ∧ I' = I ∧ J' = J) := by
  refine Mn.of (by decide) (fun ad => by simp [lg_sl, vv, Value.category]) (fun X P hP hn C => ?_)
  have hK1 := hK.1
  have h30 := hD.2.2.2.2.1
  have h12 := hD.2.2.1
  have ec := hC.cm hD
  have er := hC.rg hD
  have loop : ∀ (c x : Nat), x + c = cmD D → anN D 3 v x = 0 → V X P 0 0 2 [some (.ref b), some (.int v), some (.int (nI x))] [] S I J := by
    intro c
    induction c with
    | zero =>
      intro x hx h0
      have hx : x = cmD D := hx
      refine V_iload_n C dX1_hasLumpOfFamily_2 rfl ?_
      refine V_aload_n C dX1_hasLumpOfFamily_3 rfl ?_
      refine V_getI C fl_X1_45 (ob_K hK1) rfl dX1_hasLumpOfFamily_4 ?_
      refine V_icmp_ge C 47 dX1_hasLumpOfFamily_7 (by decide) (fun h7 => ?_) (fun h7 => absurd (by rw [ec, hx]; exact Int32.le_refl _) h7)
      refine V_iconst C (v := nI 0) dX1_hasLumpOfFamily_47 (by decide +kernel) ?_
      exact V_zret C (by first | exact Or.inl rfl | exact Or.inr rfl | (simp only [bI]; split <;> first | exact Or.inl rfl | exact Or.inr rfl) | assumption) (Nat.zero_le _) (Nat.zero_le _) dX1_hasLumpOfFamily_48 (hP _ _ _ ⟨by rw [← hx, h0]; rfl, rfl, rfl⟩)
    | succ c ih =>
      intro x hx h0
      obtain ⟨hLx, hRx⟩ := hK.2 x (by omega)
      obtain ⟨⟨w0, w1, -⟩, -⟩ := hC.2.2.2 x (by omega)
      have ef := fam_c hC hD hz (u := x) (by omega)
      by_cases q : D 5 x = 0
      · by_cases h : famD D x = v
        · have h1 : anN D 3 v (x + 1) = 1 := by rw [anN, h0, if_pos rfl, if_pos q, if_neg (show ¬ 3 = 1 by decide), if_pos h]
          have h2 := anN_up h1 c
          rw [show x + 1 + c = cmD D by omega] at h2
          refine V_iload_n C dX1_hasLumpOfFamily_2 rfl ?_
          refine V_aload_n C dX1_hasLumpOfFamily_3 rfl ?_
          refine V_getI C fl_X1_45 (ob_K hK1) rfl dX1_hasLumpOfFamily_4 ?_
          refine V_icmp_ge C 47 dX1_hasLumpOfFamily_7 (by decide) (fun h7 => absurd h7 (by rw [ec]; exact nI_ge (by omega) (by omega))) (fun h7 => ?_)
          refine V_aload_n C dX1_hasLumpOfFamily_10 rfl ?_
          refine V_getR C fl_X1_26 (ob_K hK1) (ob_R hK1 12 (b + 13) rfl rfl) rfl dX1_hasLumpOfFamily_11 ?_
          refine V_iload_n C dX1_hasLumpOfFamily_14 rfl ?_
          refine V_aald C (x) (ob_A2 hK1 12 (b + 13) rfl rfl) (by first | rfl | (simp only [nI_add, pk_mul]; done) | (simp only [nI_add, pk_mul]; congr 1; omega)) (by rw [ob_N hK1 12 (b + 13) rfl rfl]; omega) (by rw [ob_N hK1 12 (b + 13) rfl rfl]; decide) hRx dX1_hasLumpOfFamily_15 ?_
          refine V_getI C fl_X1_86 (ob_K hLx) rfl dX1_hasLumpOfFamily_16 ?_
          refine V_if_ne C 41 dX1_hasLumpOfFamily_19 (by decide) (fun h19 => absurd (w0.trans q) h19) (fun h19 => ?_)
          refine V_aload_n C dX1_hasLumpOfFamily_22 rfl ?_
          refine V_getR C fl_X1_26 (ob_K hK1) (ob_R hK1 12 (b + 13) rfl rfl) rfl dX1_hasLumpOfFamily_23 ?_
          refine V_iload_n C dX1_hasLumpOfFamily_26 rfl ?_
          refine V_aald C (x) (ob_A2 hK1 12 (b + 13) rfl rfl) (by first | rfl | (simp only [nI_add, pk_mul]; done) | (simp only [nI_add, pk_mul]; congr 1; omega)) (by rw [ob_N hK1 12 (b + 13) rfl rfl]; omega) (by rw [ob_N hK1 12 (b + 13) rfl rfl]; decide) hRx dX1_hasLumpOfFamily_27 ?_
          refine V_aload_n C dX1_hasLumpOfFamily_28 rfl ?_
          refine V_getI C fl_X1_35 (ob_K hK1) rfl dX1_hasLumpOfFamily_29 ?_
          rw [er]
          refine V_callV (F := fun _ => True) C (c_familyOf hLx h12) mi_X3_familyOf ml_X1_89 rfl (ob_K hLx) (by decide) (by decide) (by decide) (Nat.le_of_ble_eq_true rfl) (fun _ _ => trivial) (fun v _ => clo_T v) rfl dX1_hasLumpOfFamily_32 ?_
          rintro v S' I' J' ⟨hS9, rfl, hI9, hJ9⟩
          obtain rfl := hS9.symm
          obtain rfl := hI9.symm
          obtain rfl := hJ9.symm
          rw [ef]
          refine V_iload_n C dX1_hasLumpOfFamily_35 rfl ?_
          refine V_icmp_ne C 41 dX1_hasLumpOfFamily_36 (by decide) (fun h36 => absurd (h) h36) (fun h36 => ?_)
          refine V_iconst C (v := nI 1) dX1_hasLumpOfFamily_39 (by decide +kernel) ?_
          exact V_zret C (by first | exact Or.inl rfl | exact Or.inr rfl | (simp only [bI]; split <;> first | exact Or.inl rfl | exact Or.inr rfl) | assumption) (Nat.zero_le _) (Nat.zero_le _) dX1_hasLumpOfFamily_40 (hP _ _ _ ⟨by rw [h2]; rfl, rfl, rfl⟩)
        · have h1 : anN D 3 v (x + 1) = 0 := by rw [anN, h0, if_pos rfl, if_pos q, if_neg (show ¬ 3 = 1 by decide), if_neg h]
          refine V_iload_n C dX1_hasLumpOfFamily_2 rfl ?_
          refine V_aload_n C dX1_hasLumpOfFamily_3 rfl ?_
          refine V_getI C fl_X1_45 (ob_K hK1) rfl dX1_hasLumpOfFamily_4 ?_
          refine V_icmp_ge C 47 dX1_hasLumpOfFamily_7 (by decide) (fun h7 => absurd h7 (by rw [ec]; exact nI_ge (by omega) (by omega))) (fun h7 => ?_)
          refine V_aload_n C dX1_hasLumpOfFamily_10 rfl ?_
          refine V_getR C fl_X1_26 (ob_K hK1) (ob_R hK1 12 (b + 13) rfl rfl) rfl dX1_hasLumpOfFamily_11 ?_
          refine V_iload_n C dX1_hasLumpOfFamily_14 rfl ?_
          refine V_aald C (x) (ob_A2 hK1 12 (b + 13) rfl rfl) (by first | rfl | (simp only [nI_add, pk_mul]; done) | (simp only [nI_add, pk_mul]; congr 1; omega)) (by rw [ob_N hK1 12 (b + 13) rfl rfl]; omega) (by rw [ob_N hK1 12 (b + 13) rfl rfl]; decide) hRx dX1_hasLumpOfFamily_15 ?_
          refine V_getI C fl_X1_86 (ob_K hLx) rfl dX1_hasLumpOfFamily_16 ?_
          refine V_if_ne C 41 dX1_hasLumpOfFamily_19 (by decide) (fun h19 => absurd (w0.trans q) h19) (fun h19 => ?_)
          refine V_aload_n C dX1_hasLumpOfFamily_22 rfl ?_
          refine V_getR C fl_X1_26 (ob_K hK1) (ob_R hK1 12 (b + 13) rfl rfl) rfl dX1_hasLumpOfFamily_23 ?_
          refine V_iload_n C dX1_hasLumpOfFamily_26 rfl ?_
          refine V_aald C (x) (ob_A2 hK1 12 (b + 13) rfl rfl) (by first | rfl | (simp only [nI_add, pk_mul]; done) | (simp only [nI_add, pk_mul]; congr 1; omega)) (by rw [ob_N hK1 12 (b + 13) rfl rfl]; omega) (by rw [ob_N hK1 12 (b + 13) rfl rfl]; decide) hRx dX1_hasLumpOfFamily_27 ?_
          refine V_aload_n C dX1_hasLumpOfFamily_28 rfl ?_
          refine V_getI C fl_X1_35 (ob_K hK1) rfl dX1_hasLumpOfFamily_29 ?_
          rw [er]
          refine V_callV (F := fun _ => True) C (c_familyOf hLx h12) mi_X3_familyOf ml_X1_89 rfl (ob_K hLx) (by decide) (by decide) (by decide) (Nat.le_of_ble_eq_true rfl) (fun _ _ => trivial) (fun v _ => clo_T v) rfl dX1_hasLumpOfFamily_32 ?_
          rintro v S' I' J' ⟨hS9, rfl, hI9, hJ9⟩
          obtain rfl := hS9.symm
          obtain rfl := hI9.symm
          obtain rfl := hJ9.symm
          rw [ef]
          refine V_iload_n C dX1_hasLumpOfFamily_35 rfl ?_
          refine V_icmp_ne C 41 dX1_hasLumpOfFamily_36 (by decide) (fun h36 => ?_) (fun h36 => absurd h36 (h))
          refine V_iincU C dX1_hasLumpOfFamily_41 rfl (hn _ (by decide)) ?_
          refine V_goto C 2 dX1_hasLumpOfFamily_44 (by decide) ?_
          exact ih (x + 1) (by omega) h1
      · have h1 : anN D 3 v (x + 1) = 0 := by rw [anN, h0, if_pos rfl, if_neg q]
        refine V_iload_n C dX1_hasLumpOfFamily_2 rfl ?_
        refine V_aload_n C dX1_hasLumpOfFamily_3 rfl ?_
        refine V_getI C fl_X1_45 (ob_K hK1) rfl dX1_hasLumpOfFamily_4 ?_
        refine V_icmp_ge C 47 dX1_hasLumpOfFamily_7 (by decide) (fun h7 => absurd h7 (by rw [ec]; exact nI_ge (by omega) (by omega))) (fun h7 => ?_)
        refine V_aload_n C dX1_hasLumpOfFamily_10 rfl ?_
        refine V_getR C fl_X1_26 (ob_K hK1) (ob_R hK1 12 (b + 13) rfl rfl) rfl dX1_hasLumpOfFamily_11 ?_
        refine V_iload_n C dX1_hasLumpOfFamily_14 rfl ?_
        refine V_aald C (x) (ob_A2 hK1 12 (b + 13) rfl rfl) (by first | rfl | (simp only [nI_add, pk_mul]; done) | (simp only [nI_add, pk_mul]; congr 1; omega)) (by rw [ob_N hK1 12 (b + 13) rfl rfl]; omega) (by rw [ob_N hK1 12 (b + 13) rfl rfl]; decide) hRx dX1_hasLumpOfFamily_15 ?_
        refine V_getI C fl_X1_86 (ob_K hLx) rfl dX1_hasLumpOfFamily_16 ?_
        refine V_if_ne C 41 dX1_hasLumpOfFamily_19 (by decide) (fun h19 => ?_) (fun h19 => absurd h19 (by rw [w0]; exact q))
        refine V_iincU C dX1_hasLumpOfFamily_41 rfl (hn _ (by decide)) ?_
        refine V_goto C 2 dX1_hasLumpOfFamily_44 (by decide) ?_
        exact ih (x + 1) (by omega) h1
  refine V_iconst C (v := nI 0) dX1_hasLumpOfFamily_0 (by decide +kernel) ?_
  refine V_istore_n C dX1_hasLumpOfFamily_1 (hn _ (by decide)) ?_
  exact loop (cmD D) 0 (by omega) rfl
/-- of how many rings below n a lump that is there has the family -/
def cfN (D : DV) : Nat → Int32
  | 0 => 0
  | n + 1 => cfN D n + (if anN D 3 (nI n) (cmD D) = 0 then 0 else 1)
set_option maxRecDepth 100000 in
theorem c_howManyFamilies (hK : Dk S b) (hC : CD I J b D) (hD : rOk D) (hz : zL D) : Mn l yX1_howManyFamilies cX1_howManyFamilies 3 (some .int) 2 [.ref b] S I J (fun r I' J' => r = some (.int (cfN D (rgD D))) ∧ I' = I ∧ J' = J) := by
  refine Mn.of (by decide) (fun ad => by simp [lg_sl, vv, Value.category]) (fun X P hP hn C => ?_)
  have hK1 := hK.1
  have h12 := hD.2.2.1
  have er := hC.rg hD
  have loop : ∀ (c x : Nat), x + c = rgD D → V X P 0 0 4 [some (.ref b), some (.int (cfN D x)), some (.int (nI x))] [] S I J := by
    intro c
    induction c with
    | zero =>
      intro x hx
      have hx : x = rgD D := hx
      refine V_iload_n C dX1_howManyFamilies_4 rfl ?_
      refine V_aload_n C dX1_howManyFamilies_5 rfl ?_
      refine V_getI C fl_X1_35 (ob_K hK1) rfl dX1_howManyFamilies_6 ?_
      refine V_icmp_ge C 29 dX1_howManyFamilies_9 (by decide) (fun h9 => ?_) (fun h9 => absurd (by rw [er, hx]; exact Int32.le_refl _) h9)
      refine V_iload_n C dX1_howManyFamilies_29 rfl ?_
      exact V_iret C (Nat.zero_le _) (Nat.zero_le _) dX1_howManyFamilies_30 (hP _ _ _ ⟨by rw [← hx], rfl, rfl⟩)
    | succ c ih =>
      intro x hx
      have nx := ih (x + 1) (by omega)
      rw [cfN] at nx
      by_cases h : anN D 3 (nI x) (cmD D) = 0
      · rw [if_pos h, Int32.add_zero] at nx
        refine V_iload_n C dX1_howManyFamilies_4 rfl ?_
        refine V_aload_n C dX1_howManyFamilies_5 rfl ?_
        refine V_getI C fl_X1_35 (ob_K hK1) rfl dX1_howManyFamilies_6 ?_
        refine V_icmp_ge C 29 dX1_howManyFamilies_9 (by decide) (fun h9 => absurd h9 (by rw [er]; exact nI_ge (by omega) (by omega))) (fun h9 => ?_)
        refine V_aload_n C dX1_howManyFamilies_12 rfl ?_
        refine V_iload_n C dX1_howManyFamilies_13 rfl ?_
        refine V_callV (F := fun _ => True) C (c_hasLumpOfFamily hK hC hD hz _) mi_X1_hasLumpOfFamily ml_X1_83 rfl (ob_K hK1) (by decide) (by decide) (by decide) (Nat.le_of_ble_eq_true rfl) (fun _ _ => trivial) (fun v _ => clo_T v) rfl dX1_howManyFamilies_14 ?_
        rintro v S' I' J' ⟨hS9, rfl, hI9, hJ9⟩
        obtain rfl := hS9.symm
        obtain rfl := hI9.symm
        obtain rfl := hJ9.symm
        refine V_if_eq C 23 dX1_howManyFamilies_17 (by decide) (fun h17 => ?_) (fun h17 => absurd (h) h17)
        refine V_iincU C dX1_howManyFamilies_23 rfl (hn _ (by decide)) ?_
        refine V_goto C 4 dX1_howManyFamilies_26 (by decide) ?_
        exact nx
      · rw [if_neg h] at nx
        refine V_iload_n C dX1_howManyFamilies_4 rfl ?_
        refine V_aload_n C dX1_howManyFamilies_5 rfl ?_
        refine V_getI C fl_X1_35 (ob_K hK1) rfl dX1_howManyFamilies_6 ?_
        refine V_icmp_ge C 29 dX1_howManyFamilies_9 (by decide) (fun h9 => absurd h9 (by rw [er]; exact nI_ge (by omega) (by omega))) (fun h9 => ?_)
        refine V_aload_n C dX1_howManyFamilies_12 rfl ?_
        refine V_iload_n C dX1_howManyFamilies_13 rfl ?_
        refine V_callV (F := fun _ => True) C (c_hasLumpOfFamily hK hC hD hz _) mi_X1_hasLumpOfFamily ml_X1_83 rfl (ob_K hK1) (by decide) (by decide) (by decide) (Nat.le_of_ble_eq_true rfl) (fun _ _ => trivial) (fun v _ => clo_T v) rfl dX1_howManyFamilies_14 ?_
        rintro v S' I' J' ⟨hS9, rfl, hI9, hJ9⟩
        obtain rfl := hS9.symm
        obtain rfl := hI9.symm
        obtain rfl := hJ9.symm
        refine V_if_eq C 23 dX1_howManyFamilies_17 (by decide) (fun h17 => absurd h17 (h)) (fun h17 => ?_)
        refine V_iinc C dX1_howManyFamilies_20 rfl (hn _ (by decide)) ?_
        refine V_iincU C dX1_howManyFamilies_23 rfl (hn _ (by decide)) ?_
        refine V_goto C 4 dX1_howManyFamilies_26 (by decide) ?_
        exact nx
  refine V_iconst C (v := nI 0) dX1_howManyFamilies_0 (by decide +kernel) ?_
  refine V_istore_n C dX1_howManyFamilies_1 (hn _ (by decide)) ?_
  refine V_iconst C (v := nI 0) dX1_howManyFamilies_2 (by decide +kernel) ?_
  refine V_istore_n C dX1_howManyFamilies_3 (hn _ (by decide)) ?_
  exact loop _ 0 (Nat.zero_add _)
set_option maxRecDepth 100000 in
theorem c_howManyTraps (hK : Dk S b) (hC : CD I J b D) (hD : rOk D) : Mn l yX1_howManyTraps cX1_howManyTraps 3 (some .int) 2 [.ref b] S I J (fun r I' J' => r = some (.int (trN D (rgD D))) ∧ I' = I ∧ J' = J) := by
  refine Mn.of (by decide) (fun ad => by simp [lg_sl, vv, Value.category]) (fun X P hP hn C => ?_)
  have hK1 := hK.1
  have h12 := hD.2.2.1
  have er := hC.rg hD
  have loop : ∀ (c x : Nat), x + c = rgD D → V X P 0 0 4 [some (.ref b), some (.int (trN D x)), some (.int (nI x))] [] S I J := by
    intro c
    induction c with
    | zero =>
      intro x hx
      have hx : x = rgD D := hx
      refine V_iload_n C dX1_howManyTraps_4 rfl ?_
      refine V_aload_n C dX1_howManyTraps_5 rfl ?_
      refine V_getI C fl_X1_35 (ob_K hK1) rfl dX1_howManyTraps_6 ?_
      refine V_icmp_ge C 29 dX1_howManyTraps_9 (by decide) (fun h9 => ?_) (fun h9 => absurd (by rw [er, hx]; exact Int32.le_refl _) h9)
      refine V_iload_n C dX1_howManyTraps_29 rfl ?_
      exact V_iret C (Nat.zero_le _) (Nat.zero_le _) dX1_howManyTraps_30 (hP _ _ _ ⟨by rw [← hx], rfl, rfl⟩)
    | succ c ih =>
      intro x hx
      have nx := ih (x + 1) (by omega)
      rw [trN] at nx
      by_cases h : wayD D x = 0
      · rw [if_pos h] at nx
        refine V_iload_n C dX1_howManyTraps_4 rfl ?_
        refine V_aload_n C dX1_howManyTraps_5 rfl ?_
        refine V_getI C fl_X1_35 (ob_K hK1) rfl dX1_howManyTraps_6 ?_
        refine V_icmp_ge C 29 dX1_howManyTraps_9 (by decide) (fun h9 => absurd h9 (by rw [er]; exact nI_ge (by omega) (by omega))) (fun h9 => ?_)
        refine V_aload_n C dX1_howManyTraps_12 rfl ?_
        refine V_iload_n C dX1_howManyTraps_13 rfl ?_
        refine V_callV (F := fun _ => True) C (c_isTrap hK hC hD (r := x) (by omega)) mi_X1_isTrap ml_X1_79 rfl (ob_K hK1) (by decide) (by decide) (by decide) (Nat.le_of_ble_eq_true rfl) (fun _ _ => trivial) (fun v _ => clo_T v) rfl dX1_howManyTraps_14 ?_
        rintro v S' I' J' ⟨hS9, rfl, hI9, hJ9⟩
        obtain rfl := hS9.symm
        obtain rfl := hI9.symm
        obtain rfl := hJ9.symm
        refine V_if_eq C 23 dX1_howManyTraps_17 (by decide) (fun h17 => absurd h17 (by rw [bI_0]; exact fun q => q h)) (fun h17 => ?_)
        refine V_iinc C dX1_howManyTraps_20 rfl (hn _ (by decide)) ?_
        refine V_iincU C dX1_howManyTraps_23 rfl (hn _ (by decide)) ?_
        refine V_goto C 4 dX1_howManyTraps_26 (by decide) ?_
        exact nx
      · rw [if_neg h, show trN D x + nI 0 = trN D x from Int32.add_zero _] at nx
        refine V_iload_n C dX1_howManyTraps_4 rfl ?_
        refine V_aload_n C dX1_howManyTraps_5 rfl ?_
        refine V_getI C fl_X1_35 (ob_K hK1) rfl dX1_howManyTraps_6 ?_
        refine V_icmp_ge C 29 dX1_howManyTraps_9 (by decide) (fun h9 => absurd h9 (by rw [er]; exact nI_ge (by omega) (by omega))) (fun h9 => ?_)
        refine V_aload_n C dX1_howManyTraps_12 rfl ?_
        refine V_iload_n C dX1_howManyTraps_13 rfl ?_
        refine V_callV (F := fun _ => True) C (c_isTrap hK hC hD (r := x) (by omega)) mi_X1_isTrap ml_X1_79 rfl (ob_K hK1) (by decide) (by decide) (by decide) (Nat.le_of_ble_eq_true rfl) (fun _ _ => trivial) (fun v _ => clo_T v) rfl dX1_howManyTraps_14 ?_
        rintro v S' I' J' ⟨hS9, rfl, hI9, hJ9⟩
        obtain rfl := hS9.symm
        obtain rfl := hI9.symm
        obtain rfl := hJ9.symm
        refine V_if_eq C 23 dX1_howManyTraps_17 (by decide) (fun h17 => ?_) (fun h17 => absurd (bI_f h) h17)
        refine V_iincU C dX1_howManyTraps_23 rfl (hn _ (by decide)) ?_
        refine V_goto C 4 dX1_howManyTraps_26 (by decide) ?_
        exact nx
  refine V_iconst C (v := nI 0) dX1_howManyTraps_0 (by decide +kernel) ?_
  refine V_istore_n C dX1_howManyTraps_1 (hn _ (by decide)) ?_
  refine V_iconst C (v := nI 0) dX1_howManyTraps_2 (by decide +kernel) ?_
  refine V_istore_n C dX1_howManyTraps_3 (hn _ (by decide)) ?_
  exact loop _ 0 (Nat.zero_add _)
set_option maxRecDepth 100000 in
theorem c_inRings (hK : Dk S b) (hC : CD I J b D) (hD : rOk D) : Mn l yX1_inRings cX1_inRings 4 (some .long) 1 [.ref b] S I J (fun r I' J' => r = some (.long (lrS D (rgD D))) ∧ I' = I ∧ J' = J) := by
  refine Mn.of (by decide) (fun ad => by simp [lg_sl, vv, Value.category]) (fun X P hP hn C => ?_)
  have hK1 := hK.1
  have h12 := hD.2.2.1
  have er := hC.rg hD
  have loop : ∀ (c x : Nat), x + c = rgD D → V X P 0 0 4 [some (.ref b), some (.long (lrS D x)), none, some (.int (nI x))] [] S I J := by
    intro c
    induction c with
    | zero =>
      intro x hx
      have hx : x = rgD D := hx
      refine V_iload_n C dX1_inRings_4 rfl ?_
      refine V_aload_n C dX1_inRings_5 rfl ?_
      refine V_getI C fl_X1_35 (ob_K hK1) rfl dX1_inRings_6 ?_
      refine V_icmp_ge C 34 dX1_inRings_9 (by decide) (fun h9 => ?_) (fun h9 => absurd (by rw [er, hx]; exact Int32.le_refl _) h9)
      refine V_lload_n C dX1_inRings_34 rfl ?_
      exact V_lret C (Nat.zero_le _) (Nat.zero_le _) dX1_inRings_35 (hP _ _ _ ⟨by rw [← hx], rfl, rfl⟩)
    | succ c ih =>
      intro x hx
      have nx := ih (x + 1) (by omega)
      rw [lrS, ← (hC.2.1 x (by omega)).1, ← hC.aD (r := x) (by omega)] at nx
      refine V_iload_n C dX1_inRings_4 rfl ?_
      refine V_aload_n C dX1_inRings_5 rfl ?_
      refine V_getI C fl_X1_35 (ob_K hK1) rfl dX1_inRings_6 ?_
      refine V_icmp_ge C 34 dX1_inRings_9 (by decide) (fun h9 => absurd h9 (by rw [er]; exact nI_ge (by omega) (by omega))) (fun h9 => ?_)
      refine V_lload_n C dX1_inRings_12 rfl ?_
      refine V_aload_n C dX1_inRings_13 rfl ?_
      refine V_getR C fl_X1_9 (ob_K hK1) (ob_R hK1 8 (b + 9) rfl rfl) rfl dX1_inRings_14 ?_
      refine V_iload_n C dX1_inRings_17 rfl ?_
      refine V_iald C (x) (ob_A hK1 8 (b + 9) rfl rfl) (by first | rfl | (simp only [nI_add, pk_mul]; done) | (simp only [nI_add, pk_mul]; congr 1; omega)) (by rw [ob_N hK1 8 (b + 9) rfl rfl]; omega) (by rw [ob_N hK1 8 (b + 9) rfl rfl]; decide) dX1_inRings_18 ?_
      refine V_aload_n C dX1_inRings_19 rfl ?_
      refine V_iload_n C dX1_inRings_20 rfl ?_
      refine V_callV (F := fun _ => True) C (c_allDustIn hK (r := x) (by omega)) mi_X1_allDustIn ml_X1_98 rfl (ob_K hK1) (by decide) (by decide) (by decide) (Nat.le_of_ble_eq_true rfl) (fun _ _ => trivial) (fun v _ => clo_T v) rfl dX1_inRings_21 ?_
      rintro v S' I' J' ⟨hS9, rfl, hI9, hJ9⟩
      obtain rfl := hS9.symm
      obtain rfl := hI9.symm
      obtain rfl := hJ9.symm
      refine V_iadd C dX1_inRings_24 ?_
      refine V_i2l C dX1_inRings_25 ?_
      refine V_ladd C dX1_inRings_26 ?_
      refine V_lstore_n C dX1_inRings_27 (hn _ (by decide)) ?_
      refine V_iincU C dX1_inRings_28 rfl (hn _ (by decide)) ?_
      refine V_goto C 4 dX1_inRings_31 (by decide) ?_
      exact nx
  refine V_lconst C (v := 0) dX1_inRings_0 (by decide +kernel) ?_
  refine V_lstore_n C dX1_inRings_1 (hn _ (by decide)) ?_
  refine V_iconst C (v := nI 0) dX1_inRings_2 (by decide +kernel) ?_
  refine V_istore_n C dX1_inRings_3 (hn _ (by decide)) ?_
  exact loop _ 0 (Nat.zero_add _)
set_option maxRecDepth 100000 in
theorem c_inLumps (hK : Dk S b) (hC : CD I J b D) (hD : rOk D) : Mn l yX1_inLumps cX1_inLumps 4 (some .long) 0 [.ref b] S I J (fun r I' J' => r = some (.long (llS D (cmD D))) ∧ I' = I ∧ J' = J) := by
  refine Mn.of (by decide) (fun ad => by simp [lg_sl, vv, Value.category]) (fun X P hP hn C => ?_)
  have hK1 := hK.1
  have h30 := hD.2.2.2.2.1
  have ec := hC.cm hD
  have loop : ∀ (c x : Nat), x + c = cmD D → V X P 0 0 4 [some (.ref b), some (.long (llS D x)), none, some (.int (nI x))] [] S I J := by
    intro c
    induction c with
    | zero =>
      intro x hx
      have hx : x = cmD D := hx
      refine V_iload_n C dX1_inLumps_4 rfl ?_
      refine V_aload_n C dX1_inLumps_5 rfl ?_
      refine V_getI C fl_X1_45 (ob_K hK1) rfl dX1_inLumps_6 ?_
      refine V_icmp_ge C 43 dX1_inLumps_9 (by decide) (fun h9 => ?_) (fun h9 => absurd (by rw [ec, hx]; exact Int32.le_refl _) h9)
      refine V_lload_n C dX1_inLumps_43 rfl ?_
      exact V_lret C (Nat.zero_le _) (Nat.zero_le _) dX1_inLumps_44 (hP _ _ _ ⟨by rw [← hx], rfl, rfl⟩)
    | succ c ih =>
      intro x hx
      obtain ⟨hLx, hRx⟩ := hK.2 x (by omega)
      obtain ⟨⟨w0, w1, w2, -⟩, -⟩ := hC.2.2.2 x (by omega)
      have nx := ih (x + 1) (by omega)
      rw [llS] at nx
      by_cases q : D 5 x = 0
      · rw [if_pos q, ← w2] at nx
        refine V_iload_n C dX1_inLumps_4 rfl ?_
        refine V_aload_n C dX1_inLumps_5 rfl ?_
        refine V_getI C fl_X1_45 (ob_K hK1) rfl dX1_inLumps_6 ?_
        refine V_icmp_ge C 43 dX1_inLumps_9 (by decide) (fun h9 => absurd h9 (by rw [ec]; exact nI_ge (by omega) (by omega))) (fun h9 => ?_)
        refine V_aload_n C dX1_inLumps_12 rfl ?_
        refine V_getR C fl_X1_26 (ob_K hK1) (ob_R hK1 12 (b + 13) rfl rfl) rfl dX1_inLumps_13 ?_
        refine V_iload_n C dX1_inLumps_16 rfl ?_
        refine V_aald C (x) (ob_A2 hK1 12 (b + 13) rfl rfl) (by first | rfl | (simp only [nI_add, pk_mul]; done) | (simp only [nI_add, pk_mul]; congr 1; omega)) (by rw [ob_N hK1 12 (b + 13) rfl rfl]; omega) (by rw [ob_N hK1 12 (b + 13) rfl rfl]; decide) hRx dX1_inLumps_17 ?_
        refine V_getI C fl_X1_86 (ob_K hLx) rfl dX1_inLumps_18 ?_
        refine V_if_ne C 37 dX1_inLumps_21 (by decide) (fun h21 => absurd (w0.trans q) h21) (fun h21 => ?_)
        refine V_lload_n C dX1_inLumps_24 rfl ?_
        refine V_aload_n C dX1_inLumps_25 rfl ?_
        refine V_getR C fl_X1_26 (ob_K hK1) (ob_R hK1 12 (b + 13) rfl rfl) rfl dX1_inLumps_26 ?_
        refine V_iload_n C dX1_inLumps_29 rfl ?_
        refine V_aald C (x) (ob_A2 hK1 12 (b + 13) rfl rfl) (by first | rfl | (simp only [nI_add, pk_mul]; done) | (simp only [nI_add, pk_mul]; congr 1; omega)) (by rw [ob_N hK1 12 (b + 13) rfl rfl]; omega) (by rw [ob_N hK1 12 (b + 13) rfl rfl]; decide) hRx dX1_inLumps_30 ?_
        refine V_getI C fl_X1_101 (ob_K hLx) rfl dX1_inLumps_31 ?_
        refine V_i2l C dX1_inLumps_34 ?_
        refine V_ladd C dX1_inLumps_35 ?_
        refine V_lstore_n C dX1_inLumps_36 (hn _ (by decide)) ?_
        refine V_iincU C dX1_inLumps_37 rfl (hn _ (by decide)) ?_
        refine V_goto C 4 dX1_inLumps_40 (by decide) ?_
        exact nx
      · rw [if_neg q, Int64.add_zero] at nx
        refine V_iload_n C dX1_inLumps_4 rfl ?_
        refine V_aload_n C dX1_inLumps_5 rfl ?_
        refine V_getI C fl_X1_45 (ob_K hK1) rfl dX1_inLumps_6 ?_
        refine V_icmp_ge C 43 dX1_inLumps_9 (by decide) (fun h9 => absurd h9 (by rw [ec]; exact nI_ge (by omega) (by omega))) (fun h9 => ?_)
        refine V_aload_n C dX1_inLumps_12 rfl ?_
        refine V_getR C fl_X1_26 (ob_K hK1) (ob_R hK1 12 (b + 13) rfl rfl) rfl dX1_inLumps_13 ?_
        refine V_iload_n C dX1_inLumps_16 rfl ?_
        refine V_aald C (x) (ob_A2 hK1 12 (b + 13) rfl rfl) (by first | rfl | (simp only [nI_add, pk_mul]; done) | (simp only [nI_add, pk_mul]; congr 1; omega)) (by rw [ob_N hK1 12 (b + 13) rfl rfl]; omega) (by rw [ob_N hK1 12 (b + 13) rfl rfl]; decide) hRx dX1_inLumps_17 ?_
        refine V_getI C fl_X1_86 (ob_K hLx) rfl dX1_inLumps_18 ?_
        refine V_if_ne C 37 dX1_inLumps_21 (by decide) (fun h21 => ?_) (fun h21 => absurd h21 (by rw [w0]; exact q))
        refine V_iincU C dX1_inLumps_37 rfl (hn _ (by decide)) ?_
        refine V_goto C 4 dX1_inLumps_40 (by decide) ?_
        exact nx
  refine V_lconst C (v := 0) dX1_inLumps_0 (by decide +kernel) ?_
  refine V_lstore_n C dX1_inLumps_1 (hn _ (by decide)) ?_
  refine V_iconst C (v := nI 0) dX1_inLumps_2 (by decide +kernel) ?_
  refine V_istore_n C dX1_inLumps_3 (hn _ (by decide)) ?_
  exact loop _ 0 (Nat.zero_add _)
set_option maxRecDepth 100000 in
set_option maxHeartbeats 1000000 in
theorem c_isLocked (hK : Dk S b) (hC : CD I J b D) (hD : rOk D) {u : Nat} (hu : u < cmD D) : Mn l yX1_isLocked cX1_isLocked 6 (some .boolean) 0 [.ref b, .ref (b + 20 + 10 * u)] S I J (fun r I' J' => r = some (.int (lockD D u)) ∧ I' = I ∧ J' = J) := by
  refine Mn.of (by decide) (fun ad => by simp [lg_sl, vv, Value.category]) (fun X P hP hn C => ?_)
  have hK1 := hK.1
  have h30 := hD.2.2.2.2.1
  have h12 := hD.2.2.1
  have ec := hC.cm hD
  obtain ⟨hLu, hRu⟩ := hK.2 u (by omega)
  obtain ⟨⟨-, u1, -⟩, -⟩ := hC.2.2.2 u hu
  obtain ⟨r1, r2⟩ := hD.2.2.2.2.2 u hu
  have ep : ∀ k, k < 12 → I (b + 11) k = D 3 k := fun k hk => (hC.2.1 k hk).2.2
  have loop : ∀ (c x : Nat) (x4 x5 : Option Value), x + c = cmD D → lkN' D u x = nI 0 → V X P 0 0 12 [some (.ref b), some (.ref (b + 20 + 10 * u)), some (.int (D 3 (rg D u))), some (.int (nI x)), x4, x5] [] S I J := by
    intro c
    induction c with
    | zero =>
      intro x x4 x5 hx h0
      have hx : x = cmD D := hx
      refine V_iload_n C dX1_isLocked_12 rfl ?_
      refine V_aload_n C dX1_isLocked_13 rfl ?_
      refine V_getI C fl_X1_45 (ob_K hK1) rfl dX1_isLocked_14 ?_
      refine V_icmp_ge C 86 dX1_isLocked_17 (by decide) (fun h17 => ?_) (fun h17 => absurd (by rw [ec, hx]; exact Int32.le_refl _) h17)
      refine V_iconst C (v := nI 0) dX1_isLocked_86 (by decide +kernel) ?_
      exact V_zret C (by first | exact Or.inl rfl | exact Or.inr rfl | (simp only [bI]; split <;> first | exact Or.inl rfl | exact Or.inr rfl) | assumption) (Nat.zero_le _) (Nat.zero_le _) dX1_isLocked_87 (hP _ _ _ ⟨by rw [lockD, ← hx, h0], rfl, rfl⟩)
    | succ c ih =>
      intro x x4 x5 hx h0
      obtain ⟨hLx, hRx⟩ := hK.2 x (by omega)
      obtain ⟨⟨w0, w1, -⟩, -⟩ := hC.2.2.2 x (by omega)
      obtain ⟨s1, s2⟩ := hD.2.2.2.2.2 x (by omega)
      have nx := fun h x4 x5 => ih (x + 1) x4 x5 (by omega) h
      rw [lkN', h0, lkAt] at nx
      have yes : ∀ (h : lkN' D u (x + 1) = nI 1) (x4 x5 : Option Value), V X P 0 0 78 [some (.ref b), some (.ref (b + 20 + 10 * u)), some (.int (D 3 (rg D u))), some (.int (nI x)), x4, x5] [] S I J := by
        intro h x4 x5
        have h2 := lkN'_up h c
        rw [show x + 1 + c = cmD D by omega] at h2
        refine V_iconst C (v := nI 1) dX1_isLocked_78 (by decide +kernel) ?_
        exact V_zret C (by first | exact Or.inl rfl | exact Or.inr rfl | (simp only [bI]; split <;> first | exact Or.inl rfl | exact Or.inr rfl) | assumption) (Nat.zero_le _) (Nat.zero_le _) dX1_isLocked_79 (hP _ _ _ ⟨by rw [lockD, h2], rfl, rfl⟩)
      rw [lkN', h0, lkAt] at yes
      by_cases q : D 5 x = 0
      · rw [if_pos q] at nx yes
        by_cases g : D 6 u ≤ D 6 x
        · rw [if_pos g] at nx
          refine V_iload_n C dX1_isLocked_12 rfl ?_
          refine V_aload_n C dX1_isLocked_13 rfl ?_
          refine V_getI C fl_X1_45 (ob_K hK1) rfl dX1_isLocked_14 ?_
          refine V_icmp_ge C 86 dX1_isLocked_17 (by decide) (fun h17 => absurd h17 (by rw [ec]; exact nI_ge (by omega) (by omega))) (fun h17 => ?_)
          refine V_aload_n C dX1_isLocked_20 rfl ?_
          refine V_getR C fl_X1_26 (ob_K hK1) (ob_R hK1 12 (b + 13) rfl rfl) rfl dX1_isLocked_21 ?_
          refine V_iload_n C dX1_isLocked_24 rfl ?_
          refine V_aald C (x) (ob_A2 hK1 12 (b + 13) rfl rfl) (by first | rfl | (simp only [nI_add, pk_mul]; done) | (simp only [nI_add, pk_mul]; congr 1; omega)) (by rw [ob_N hK1 12 (b + 13) rfl rfl]; omega) (by rw [ob_N hK1 12 (b + 13) rfl rfl]; decide) hRx dX1_isLocked_25 ?_
          refine V_astore C dX1_isLocked_26 (hn _ (by decide)) ?_
          refine V_aload C dX1_isLocked_28 rfl ?_
          refine V_getI C fl_X1_86 (ob_K hLx) rfl dX1_isLocked_30 ?_
          refine V_if_ne C 80 dX1_isLocked_33 (by decide) (fun h33 => absurd (w0.trans q) h33) (fun h33 => ?_)
          refine V_aload C dX1_isLocked_36 rfl ?_
          refine V_getI C fl_X1_95 (ob_K hLx) rfl dX1_isLocked_38 ?_
          refine V_aload_n C dX1_isLocked_41 rfl ?_
          refine V_getI C fl_X1_95 (ob_K hLu) rfl dX1_isLocked_42 ?_
          refine V_icmp_ge C 80 dX1_isLocked_45 (by decide) (fun h45 => ?_) (fun h45 => absurd (by rw [u1, w1]; exact g) h45)
          refine V_iincU C dX1_isLocked_80 rfl (hn _ (by decide)) ?_
          refine V_goto C 12 dX1_isLocked_83 (by decide) ?_
          exact nx rfl _ _
        · rw [if_neg g, if_pos (show nI 0 = 0 from rfl)] at nx yes
          have e57 : I (b + 20 + 10 * x) 1 = nI (rg D x) := w1.trans s1
          by_cases p1 : D 3 (rg D u) = nI 2 * D 3 (rg D x)
          · rw [if_pos p1] at yes
            refine V_iload_n C dX1_isLocked_12 rfl ?_
            refine V_aload_n C dX1_isLocked_13 rfl ?_
            refine V_getI C fl_X1_45 (ob_K hK1) rfl dX1_isLocked_14 ?_
            refine V_icmp_ge C 86 dX1_isLocked_17 (by decide) (fun h17 => absurd h17 (by rw [ec]; exact nI_ge (by omega) (by omega))) (fun h17 => ?_)
            refine V_aload_n C dX1_isLocked_20 rfl ?_
            refine V_getR C fl_X1_26 (ob_K hK1) (ob_R hK1 12 (b + 13) rfl rfl) rfl dX1_isLocked_21 ?_
            refine V_iload_n C dX1_isLocked_24 rfl ?_
            refine V_aald C (x) (ob_A2 hK1 12 (b + 13) rfl rfl) (by first | rfl | (simp only [nI_add, pk_mul]; done) | (simp only [nI_add, pk_mul]; congr 1; omega)) (by rw [ob_N hK1 12 (b + 13) rfl rfl]; omega) (by rw [ob_N hK1 12 (b + 13) rfl rfl]; decide) hRx dX1_isLocked_25 ?_
            refine V_astore C dX1_isLocked_26 (hn _ (by decide)) ?_
            refine V_aload C dX1_isLocked_28 rfl ?_
            refine V_getI C fl_X1_86 (ob_K hLx) rfl dX1_isLocked_30 ?_
            refine V_if_ne C 80 dX1_isLocked_33 (by decide) (fun h33 => absurd (w0.trans q) h33) (fun h33 => ?_)
            refine V_aload C dX1_isLocked_36 rfl ?_
            refine V_getI C fl_X1_95 (ob_K hLx) rfl dX1_isLocked_38 ?_
            refine V_aload_n C dX1_isLocked_41 rfl ?_
            refine V_getI C fl_X1_95 (ob_K hLu) rfl dX1_isLocked_42 ?_
            refine V_icmp_ge C 80 dX1_isLocked_45 (by decide) (fun h45 => absurd h45 (by rw [u1, w1]; exact g)) (fun h45 => ?_)
            refine V_aload_n C dX1_isLocked_48 rfl ?_
            refine V_getR C fl_X1_18 (ob_K hK1) (ob_R hK1 10 (b + 11) rfl rfl) rfl dX1_isLocked_49 ?_
            refine V_aload C dX1_isLocked_52 rfl ?_
            refine V_getI C fl_X1_95 (ob_K hLx) rfl dX1_isLocked_54 ?_
            refine V_iald C (rg D x) (ob_A hK1 10 (b + 11) rfl rfl) e57 (by rw [ob_N hK1 10 (b + 11) rfl rfl]; omega) (by rw [ob_N hK1 10 (b + 11) rfl rfl]; decide) dX1_isLocked_57 ?_
            rw [ep (rg D x) (by omega)]
            refine V_istore C dX1_isLocked_58 (hn _ (by decide)) ?_
            refine V_iload_n C dX1_isLocked_60 rfl ?_
            refine V_iconst C (v := nI 2) dX1_isLocked_61 (by decide +kernel) ?_
            refine V_iload C dX1_isLocked_62 rfl ?_
            refine V_imul C dX1_isLocked_64 ?_
            refine V_icmp_eq C 78 dX1_isLocked_65 (by decide) (fun h65 => ?_) (fun h65 => absurd (p1) h65)
            exact yes rfl _ _
          · rw [if_neg p1] at nx yes
            by_cases p2 : nI 2 * D 3 (rg D u) = nI 3 * D 3 (rg D x)
            · rw [if_pos p2] at yes
              refine V_iload_n C dX1_isLocked_12 rfl ?_
              refine V_aload_n C dX1_isLocked_13 rfl ?_
              refine V_getI C fl_X1_45 (ob_K hK1) rfl dX1_isLocked_14 ?_
              refine V_icmp_ge C 86 dX1_isLocked_17 (by decide) (fun h17 => absurd h17 (by rw [ec]; exact nI_ge (by omega) (by omega))) (fun h17 => ?_)
              refine V_aload_n C dX1_isLocked_20 rfl ?_
              refine V_getR C fl_X1_26 (ob_K hK1) (ob_R hK1 12 (b + 13) rfl rfl) rfl dX1_isLocked_21 ?_
              refine V_iload_n C dX1_isLocked_24 rfl ?_
              refine V_aald C (x) (ob_A2 hK1 12 (b + 13) rfl rfl) (by first | rfl | (simp only [nI_add, pk_mul]; done) | (simp only [nI_add, pk_mul]; congr 1; omega)) (by rw [ob_N hK1 12 (b + 13) rfl rfl]; omega) (by rw [ob_N hK1 12 (b + 13) rfl rfl]; decide) hRx dX1_isLocked_25 ?_
              refine V_astore C dX1_isLocked_26 (hn _ (by decide)) ?_
              refine V_aload C dX1_isLocked_28 rfl ?_
              refine V_getI C fl_X1_86 (ob_K hLx) rfl dX1_isLocked_30 ?_
              refine V_if_ne C 80 dX1_isLocked_33 (by decide) (fun h33 => absurd (w0.trans q) h33) (fun h33 => ?_)
              refine V_aload C dX1_isLocked_36 rfl ?_
              refine V_getI C fl_X1_95 (ob_K hLx) rfl dX1_isLocked_38 ?_
              refine V_aload_n C dX1_isLocked_41 rfl ?_
              refine V_getI C fl_X1_95 (ob_K hLu) rfl dX1_isLocked_42 ?_
              refine V_icmp_ge C 80 dX1_isLocked_45 (by decide) (fun h45 => absurd h45 (by rw [u1, w1]; exact g)) (fun h45 => ?_)
              refine V_aload_n C dX1_isLocked_48 rfl ?_
              refine V_getR C fl_X1_18 (ob_K hK1) (ob_R hK1 10 (b + 11) rfl rfl) rfl dX1_isLocked_49 ?_
              refine V_aload C dX1_isLocked_52 rfl ?_
              refine V_getI C fl_X1_95 (ob_K hLx) rfl dX1_isLocked_54 ?_
              refine V_iald C (rg D x) (ob_A hK1 10 (b + 11) rfl rfl) e57 (by rw [ob_N hK1 10 (b + 11) rfl rfl]; omega) (by rw [ob_N hK1 10 (b + 11) rfl rfl]; decide) dX1_isLocked_57 ?_
              rw [ep (rg D x) (by omega)]
              refine V_istore C dX1_isLocked_58 (hn _ (by decide)) ?_
              refine V_iload_n C dX1_isLocked_60 rfl ?_
              refine V_iconst C (v := nI 2) dX1_isLocked_61 (by decide +kernel) ?_
              refine V_iload C dX1_isLocked_62 rfl ?_
              refine V_imul C dX1_isLocked_64 ?_
              refine V_icmp_eq C 78 dX1_isLocked_65 (by decide) (fun h65 => absurd h65 (p1)) (fun h65 => ?_)
              refine V_iconst C (v := nI 2) dX1_isLocked_68 (by decide +kernel) ?_
              refine V_iload_n C dX1_isLocked_69 rfl ?_
              refine V_imul C dX1_isLocked_70 ?_
              refine V_iconst C (v := nI 3) dX1_isLocked_71 (by decide +kernel) ?_
              refine V_iload C dX1_isLocked_72 rfl ?_
              refine V_imul C dX1_isLocked_74 ?_
              refine V_icmp_ne C 80 dX1_isLocked_75 (by decide) (fun h75 => absurd (p2) h75) (fun h75 => ?_)
              exact yes rfl _ _
            · rw [if_neg p2] at nx
              refine V_iload_n C dX1_isLocked_12 rfl ?_
              refine V_aload_n C dX1_isLocked_13 rfl ?_
              refine V_getI C fl_X1_45 (ob_K hK1) rfl dX1_isLocked_14 ?_
              refine V_icmp_ge C 86 dX1_isLocked_17 (by decide) (fun h17 => absurd h17 (by rw [ec]; exact nI_ge (by omega) (by omega))) (fun h17 => ?_)
              refine V_aload_n C dX1_isLocked_20 rfl ?_
              refine V_getR C fl_X1_26 (ob_K hK1) (ob_R hK1 12 (b + 13) rfl rfl) rfl dX1_isLocked_21 ?_
              refine V_iload_n C dX1_isLocked_24 rfl ?_
              refine V_aald C (x) (ob_A2 hK1 12 (b + 13) rfl rfl) (by first | rfl | (simp only [nI_add, pk_mul]; done) | (simp only [nI_add, pk_mul]; congr 1; omega)) (by rw [ob_N hK1 12 (b + 13) rfl rfl]; omega) (by rw [ob_N hK1 12 (b + 13) rfl rfl]; decide) hRx dX1_isLocked_25 ?_
              refine V_astore C dX1_isLocked_26 (hn _ (by decide)) ?_
              refine V_aload C dX1_isLocked_28 rfl ?_
              refine V_getI C fl_X1_86 (ob_K hLx) rfl dX1_isLocked_30 ?_
              refine V_if_ne C 80 dX1_isLocked_33 (by decide) (fun h33 => absurd (w0.trans q) h33) (fun h33 => ?_)
              refine V_aload C dX1_isLocked_36 rfl ?_
              refine V_getI C fl_X1_95 (ob_K hLx) rfl dX1_isLocked_38 ?_
              refine V_aload_n C dX1_isLocked_41 rfl ?_
              refine V_getI C fl_X1_95 (ob_K hLu) rfl dX1_isLocked_42 ?_
              refine V_icmp_ge C 80 dX1_isLocked_45 (by decide) (fun h45 => absurd h45 (by rw [u1, w1]; exact g)) (fun h45 => ?_)
              refine V_aload_n C dX1_isLocked_48 rfl ?_
              refine V_getR C fl_X1_18 (ob_K hK1) (ob_R hK1 10 (b + 11) rfl rfl) rfl dX1_isLocked_49 ?_
              refine V_aload C dX1_isLocked_52 rfl ?_
              refine V_getI C fl_X1_95 (ob_K hLx) rfl dX1_isLocked_54 ?_
              refine V_iald C (rg D x) (ob_A hK1 10 (b + 11) rfl rfl) e57 (by rw [ob_N hK1 10 (b + 11) rfl rfl]; omega) (by rw [ob_N hK1 10 (b + 11) rfl rfl]; decide) dX1_isLocked_57 ?_
              rw [ep (rg D x) (by omega)]
              refine V_istore C dX1_isLocked_58 (hn _ (by decide)) ?_
              refine V_iload_n C dX1_isLocked_60 rfl ?_
              refine V_iconst C (v := nI 2) dX1_isLocked_61 (by decide +kernel) ?_
              refine V_iload C dX1_isLocked_62 rfl ?_
              refine V_imul C dX1_isLocked_64 ?_
              refine V_icmp_eq C 78 dX1_isLocked_65 (by decide) (fun h65 => absurd h65 (p1)) (fun h65 => ?_)
              refine V_iconst C (v := nI 2) dX1_isLocked_68 (by decide +kernel) ?_
              refine V_iload_n C dX1_isLocked_69 rfl ?_
              refine V_imul C dX1_isLocked_70 ?_
              refine V_iconst C (v := nI 3) dX1_isLocked_71 (by decide +kernel) ?_
              refine V_iload C dX1_isLocked_72 rfl ?_
              refine V_imul C dX1_isLocked_74 ?_
              refine V_icmp_ne C 80 dX1_isLocked_75 (by decide) (fun h75 => ?_) (fun h75 => absurd h75 (p2))
              refine V_iincU C dX1_isLocked_80 rfl (hn _ (by decide)) ?_
              refine V_goto C 12 dX1_isLocked_83 (by decide) ?_
              exact nx rfl _ _
      · rw [if_neg q] at nx
        refine V_iload_n C dX1_isLocked_12 rfl ?_
        refine V_aload_n C dX1_isLocked_13 rfl ?_
        refine V_getI C fl_X1_45 (ob_K hK1) rfl dX1_isLocked_14 ?_
        refine V_icmp_ge C 86 dX1_isLocked_17 (by decide) (fun h17 => absurd h17 (by rw [ec]; exact nI_ge (by omega) (by omega))) (fun h17 => ?_)
        refine V_aload_n C dX1_isLocked_20 rfl ?_
        refine V_getR C fl_X1_26 (ob_K hK1) (ob_R hK1 12 (b + 13) rfl rfl) rfl dX1_isLocked_21 ?_
        refine V_iload_n C dX1_isLocked_24 rfl ?_
        refine V_aald C (x) (ob_A2 hK1 12 (b + 13) rfl rfl) (by first | rfl | (simp only [nI_add, pk_mul]; done) | (simp only [nI_add, pk_mul]; congr 1; omega)) (by rw [ob_N hK1 12 (b + 13) rfl rfl]; omega) (by rw [ob_N hK1 12 (b + 13) rfl rfl]; decide) hRx dX1_isLocked_25 ?_
        refine V_astore C dX1_isLocked_26 (hn _ (by decide)) ?_
        refine V_aload C dX1_isLocked_28 rfl ?_
        refine V_getI C fl_X1_86 (ob_K hLx) rfl dX1_isLocked_30 ?_
        refine V_if_ne C 80 dX1_isLocked_33 (by decide) (fun h33 => ?_) (fun h33 => absurd h33 (by rw [w0]; exact q))
        refine V_iincU C dX1_isLocked_80 rfl (hn _ (by decide)) ?_
        refine V_goto C 12 dX1_isLocked_83 (by decide) ?_
        exact nx rfl _ _
  have e8 : I (b + 20 + 10 * u) 1 = nI (rg D u) := u1.trans r1
  refine V_aload_n C dX1_isLocked_0 rfl ?_
  refine V_getR C fl_X1_18 (ob_K hK1) (ob_R hK1 10 (b + 11) rfl rfl) rfl dX1_isLocked_1 ?_
  refine V_aload_n C dX1_isLocked_4 rfl ?_
  refine V_getI C fl_X1_95 (ob_K hLu) rfl dX1_isLocked_5 ?_
  refine V_iald C (rg D u) (ob_A hK1 10 (b + 11) rfl rfl) e8 (by rw [ob_N hK1 10 (b + 11) rfl rfl]; omega) (by rw [ob_N hK1 10 (b + 11) rfl rfl]; decide) dX1_isLocked_8 ?_
  rw [ep (rg D u) (by omega)]
  refine V_istore_n C dX1_isLocked_9 (hn _ (by decide)) ?_
  refine V_iconst C (v := nI 0) dX1_isLocked_10 (by decide +kernel) ?_
  refine V_istore_n C dX1_isLocked_11 (hn _ (by decide)) ?_
  exact loop _ 0 _ _ (Nat.zero_add _) rfl
set_option maxRecDepth 100000 in
theorem c_mayOne (hK : Dk S b) : Mn l yX1_mayOneMoreCome cX1_mayOneMoreCome 1 (some .boolean) 0 [.ref b] S I J (fun r I' J' => r = some (.int (bI (I b 6 < nI 30))) ∧ I' = I ∧ J' = J) := by
  refine Mn.of (by decide) (fun ad => by simp [lg_sl, vv, Value.category]) (fun X P hP hn C => ?_)
  have hK1 := hK.1
  refine V_aload_n C dX1_mayOneMoreCome_0 rfl ?_
  refine V_getI C fl_X1_45 (ob_K hK1) rfl dX1_mayOneMoreCome_1 ?_
  refine V_bipush C (v := nI 30) dX1_mayOneMoreCome_4 (by decide +kernel) ?_
  refine V_icmp_ge C 13 dX1_mayOneMoreCome_6 (by decide) (fun h6 => ?_) (fun h6 => ?_)
  · refine V_iconst C (v := nI 0) dX1_mayOneMoreCome_13 (by decide +kernel) ?_
    exact V_zret C (by first | exact Or.inl rfl | exact Or.inr rfl | (simp only [bI]; split <;> first | exact Or.inl rfl | exact Or.inr rfl) | assumption) (Nat.zero_le _) (Nat.zero_le _) dX1_mayOneMoreCome_14 (hP _ _ _ ⟨by first | (rw [bI_f (Int32.not_lt.mpr h6)]; rfl) | (rw [bI_t (Int32.not_le.mp h6)]; rfl), rfl, rfl⟩)
  · refine V_iconst C (v := nI 1) dX1_mayOneMoreCome_9 (by decide +kernel) ?_
    refine V_goto C 14 dX1_mayOneMoreCome_10 (by decide) ?_
    exact V_zret C (by first | exact Or.inl rfl | exact Or.inr rfl | (simp only [bI]; split <;> first | exact Or.inl rfl | exact Or.inr rfl) | assumption) (Nat.zero_le _) (Nat.zero_le _) dX1_mayOneMoreCome_14 (hP _ _ _ ⟨by first | (rw [bI_f (Int32.not_lt.mpr h6)]; rfl) | (rw [bI_t (Int32.not_le.mp h6)]; rfl), rfl, rfl⟩)
/-- the next number of the seed, in longs -/
theorem sd_l {x : Int32} (h : 0 ≤ x) : x.toInt64 * 1103515245 + 12345 - (x.toInt64 * 1103515245 + 12345) / 2147483648 * 2147483648 = (sdN x).toInt64 ∧ 0 ≤ sdN x ∧ ((sdN x).toInt64 / 65536).toInt32 = sdN x / 65536 := by
  obtain ⟨n, hn, e⟩ := nI_ofge h
  have e1 : x.toInt64 * 1103515245 + 12345 = lN (n * 1103515245 + 12345) := by
    rw [e, nI_l hn]
    show Int64.ofNat n * Int64.ofNat 1103515245 + Int64.ofNat 12345 = Int64.ofNat _
    rw [← Int64.ofNat_mul, ← Int64.ofNat_add]
  have e2 : x.toInt64 * 1103515245 + 12345 - (x.toInt64 * 1103515245 + 12345) / 2147483648 * 2147483648 = lN ((n * 1103515245 + 12345) % 2147483648) := by
    rw [e1]
    exact pk_lRem (b := 2147483648) (by omega) (by omega) (by omega)
  have hm : (n * 1103515245 + 12345) % 2147483648 < 2 ^ 31 := Nat.mod_lt _ (by omega)
  obtain ⟨m, em⟩ : ∃ m, m = (n * 1103515245 + 12345) % 2147483648 := ⟨_, rfl⟩
  rw [← em] at e2 hm
  have e3 : sdN x = nI m := by
    unfold sdN
    rw [e2]
    exact Int64.toInt32_ofNat' 
  refine ⟨by rw [e2, e3, nI_l hm], by rw [e3]; exact nI_pos' hm, ?_⟩
  rw [e3, nI_l hm]
  have : lN m / 65536 = lN (m / 65536) := pk_lDiv (b := 65536) (by omega) (by omega) (by omega)
  rw [this, show nI m / 65536 = nI (m / 65536) from pk_div (d := 65536) hm (by omega) (by omega)]
  exact Int64.toInt32_ofNat'
set_option maxRecDepth 100000 in
theorem c_nextOfSeed (hK : Dk S b) {x : Int32} (hx : J b 3 = x.toInt64) (h0 : 0 ≤ x) : Mn l yX1_nextOfSeed cX1_nextOfSeed 1 (some .int) 0 [.ref b] S I J (fun r I' J' => r = some (.int (sdN x / 65536)) ∧ I' = I ∧ J' = up2 J b 3 (sdN x).toInt64) := by
  refine Mn.of (by decide) (fun ad => by simp [lg_sl, vv, Value.category]) (fun X P hP hn C => ?_)
  have hK1 := hK.1
  obtain ⟨s1, s2, s3⟩ := sd_l h0
  have e27 : up2 J b 3 (sdN x).toInt64 b 3 = (sdN x).toInt64 := by rw [up2_row, va_up_self]
  refine V_aload_n C dX1_nextOfSeed_0 rfl ?_
  refine V_aload_n C dX1_nextOfSeed_1 rfl ?_
  refine V_getJ C fl_X1_57 (ob_K hK1) rfl dX1_nextOfSeed_2 ?_
  rw [hx]
  refine V_ldc2 C dX1_nextOfSeed_5 kl_X1_104 ?_
  refine V_lmul C dX1_nextOfSeed_8 ?_
  refine V_ldc2 C dX1_nextOfSeed_9 kl_X1_106 ?_
  refine V_ladd C dX1_nextOfSeed_12 ?_
  refine V_ldc2 C dX1_nextOfSeed_13 kl_X1_108 ?_
  refine V_lrem C dX1_nextOfSeed_16 (by decide) ?_
  rw [s1]
  refine V_putJ C fl_X1_57 (ob_K hK1) rfl rfl dX1_nextOfSeed_17 ?_
  refine V_aload_n C dX1_nextOfSeed_20 rfl ?_
  refine V_getJ C fl_X1_57 (ob_K hK1) rfl dX1_nextOfSeed_21 ?_
  rw [e27]
  refine V_ldc2 C dX1_nextOfSeed_24 kl_X1_110 ?_
  refine V_ldiv C dX1_nextOfSeed_27 (by decide) ?_
  refine V_l2i C dX1_nextOfSeed_28 ?_
  rw [s3]
  exact V_iret C (Nat.zero_le _) (Nat.zero_le _) dX1_nextOfSeed_29 (hP _ _ _ ⟨rfl, rfl, rfl⟩)
set_option maxRecDepth 100000 in
theorem c_moveLump (hK : Dk S b) {a : Nat} (hL : Ob S 3 a) (hab : a ≠ b) (t : Int32) : Mn l yX1_moveLump cX1_moveLump 3 none 0 [.ref b, .ref a, .int t] S I J (fun r I' J' => r = none ∧ I' = (if t = -1 then up2 (up2 (up2 I a 0 (nI 2)) b 7 (I b 7 - nI 1)) b 4 (I b 4 + I a 2) else up2 I a 1 t) ∧ J' = J) := by
  refine Mn.of (by decide) (fun ad => by simp [lg_sl, vv, Value.category]) (fun X P hP hn C => ?_)
  have hK1 := hK.1
  have e1 : up2 I a 0 (nI 2) b 7 = I b 7 := by rw [up2_ne _ _ _ (Ne.symm hab)]
  have e2 : up2 (up2 I a 0 (nI 2)) b 7 (I b 7 - nI 1) b 4 = I b 4 := by rw [up2_row, va_up_ne _ _ (by decide), up2_ne _ _ _ (Ne.symm hab)]
  have e3 : up2 (up2 I a 0 (nI 2)) b 7 (I b 7 - nI 1) a 2 = I a 2 := by rw [up2_ne _ _ _ hab, up2_row, va_up_ne _ _ (by decide)]
  refine V_iload_n C dX1_moveLump_0 rfl ?_
  refine V_iconst C (v := (-1)) dX1_moveLump_1 (by decide +kernel) ?_
  refine V_icmp_eq C 11 dX1_moveLump_2 (by decide) (fun h2 => ?_) (fun h2 => ?_)
  · refine V_aload_n C dX1_moveLump_11 rfl ?_
    refine V_iconst C (v := nI 2) dX1_moveLump_12 (by decide +kernel) ?_
    refine V_putI C fl_X1_86 (ob_K hL) rfl rfl dX1_moveLump_13 ?_
    refine V_aload_n C dX1_moveLump_16 rfl ?_
    refine V_dup C dX1_moveLump_17 rfl ?_
    refine V_getI C fl_X1_48 (ob_K hK1) rfl dX1_moveLump_18 ?_
    rw [e1]
    refine V_iconst C (v := nI 1) dX1_moveLump_21 (by decide +kernel) ?_
    refine V_isub C dX1_moveLump_22 ?_
    refine V_putI C fl_X1_48 (ob_K hK1) rfl rfl dX1_moveLump_23 ?_
    refine V_aload_n C dX1_moveLump_26 rfl ?_
    refine V_dup C dX1_moveLump_27 rfl ?_
    refine V_getI C fl_X1_39 (ob_K hK1) rfl dX1_moveLump_28 ?_
    rw [e2]
    refine V_aload_n C dX1_moveLump_31 rfl ?_
    refine V_getI C fl_X1_101 (ob_K hL) rfl dX1_moveLump_32 ?_
    rw [e3]
    refine V_iadd C dX1_moveLump_35 ?_
    refine V_putI C fl_X1_39 (ob_K hK1) rfl rfl dX1_moveLump_36 ?_
    exact V_vret C (Nat.zero_le _) (Nat.zero_le _) dX1_moveLump_39 (hP _ _ _ ⟨rfl, by first | rw [if_pos h2] | rw [if_neg h2], rfl⟩)
  · refine V_aload_n C dX1_moveLump_5 rfl ?_
    refine V_iload_n C dX1_moveLump_6 rfl ?_
    refine V_putI C fl_X1_95 (ob_K hL) rfl rfl dX1_moveLump_7 ?_
    exact V_vret C (Nat.zero_le _) (Nat.zero_le _) dX1_moveLump_10 (hP _ _ _ ⟨rfl, by first | rw [if_pos h2] | rw [if_neg h2], rfl⟩)
end C3
