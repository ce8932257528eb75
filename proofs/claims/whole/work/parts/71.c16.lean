/-! the class's face: parts, count, told, forget, steps -/
section C16
variable {l : Launch} {S S' : HS} {I I' : HI} {J J' : HJ} {z : SV}
set_option maxRecDepth 100000 in
set_option maxHeartbeats 1000000 in
theorem f_parts (hR : ClsR z S I J) (hO : OkC z) (w : Int32) : Mf l yX6_parts cX6_parts 2 (some .long) 2 [.ref 1100, .int w] S I J (fun v S' I' J' => v = some (.long (partsV z w)) ∧ ClsR z S' I' J') := by
  refine Mf.of (by decide) (fun ad => by simp [lg_sl, vv, Value.category]) (fun X P hP hn C => ?_)
  have hR0 := hR
  obtain ⟨la, lb, hS, hC⟩ := hR
  obtain ⟨h1, ⟨r0, r1, r3, r4, r5, r6, r7⟩, hF, -, -, -, hL, -, h9, h10, -⟩ := id hS
  have hK1 := h9.1
  have e4 : (I 1500 4).toInt64 = z.1.2.1 := hC.1.2.1
  have e5 : (I 1500 5).toInt64 = z.1.2.2 := hC.1.2.2
  have e12 := lrS_12 hO.1.1
  unfold partsV at hP
  refine V_iload_n C dX6_parts_0 rfl ?_
  rcases pk_ix w (n := 5) (by decide) with hw | hw | ⟨j, hj, hw⟩
  · refine V_swOut C 104 dX6_parts_1 (Or.inl (sw_lo hw)) (by decide) ?_
    refine V_ldc2 C dX6_parts_104 kl_X6_202 ?_
    exact V_lret C (Nat.zero_le _) (Nat.zero_le _) dX6_parts_107 (hP _ _ _ _ ⟨by first | (repeat (first | rw [if_pos rfl] | rw [if_neg (by decide)])); done | (repeat rw [if_neg (fun e => absurd (e ▸ hw) (by decide))]), hR0⟩)
  · refine V_swOut C 104 dX6_parts_1 (Or.inr (sw_hi hw (by decide))) (by decide) ?_
    refine V_ldc2 C dX6_parts_104 kl_X6_202 ?_
    exact V_lret C (Nat.zero_le _) (Nat.zero_le _) dX6_parts_107 (hP _ _ _ _ ⟨by first | (repeat (first | rw [if_pos rfl] | rw [if_neg (by decide)])); done | (repeat rw [if_neg (fun e => absurd (e ▸ hw) (by decide))]), hR0⟩)
  · match j, hj, hw with
    | 0, _, hw =>
      subst hw
      refine V_swIn C 36 dX6_parts_1 (by decide) (by decide) (off := 35) (by decide +kernel) (by decide) ?_
      refine V_aload_n C dX6_parts_36 rfl ?_
      refine V_getR C fl_X6_10 (ob_K h1) r0 rfl dX6_parts_37 ?_
      refine V_callV (F := fun _ => True) C (c_inRings h9 hC.1.1 hO.1.1.1) mi_X1_inRings ml_X6_189 rfl (ob_K hK1) (by decide) (by decide) (by decide) (Nat.le_of_ble_eq_true rfl) (fun _ _ => trivial) (fun v _ => clo_T v) rfl dX6_parts_40 ?_
      rintro v S' I' J' ⟨hS9, rfl, hI9, hJ9⟩
      obtain rfl := hS9.symm
      obtain rfl := hI9.symm
      obtain rfl := hJ9.symm
      rw [e12]
      exact V_lret C (Nat.zero_le _) (Nat.zero_le _) dX6_parts_43 (hP _ _ _ _ ⟨by first | (repeat (first | rw [if_pos rfl] | rw [if_neg (by decide)])); done | (repeat rw [if_neg (fun e => absurd (e ▸ hw) (by decide))]), hR0⟩)
    | 1, _, hw =>
      subst hw
      refine V_swIn C 44 dX6_parts_1 (by decide) (by decide) (off := 43) (by decide +kernel) (by decide) ?_
      refine V_aload_n C dX6_parts_44 rfl ?_
      refine V_getR C fl_X6_10 (ob_K h1) r0 rfl dX6_parts_45 ?_
      refine V_callV (F := fun _ => True) C (c_inLumps h9 hC.1.1 hO.1.1.1) mi_X1_inLumps ml_X6_193 rfl (ob_K hK1) (by decide) (by decide) (by decide) (Nat.le_of_ble_eq_true rfl) (fun _ _ => trivial) (fun v _ => clo_T v) rfl dX6_parts_48 ?_
      rintro v S' I' J' ⟨hS9, rfl, hI9, hJ9⟩
      obtain rfl := hS9.symm
      obtain rfl := hI9.symm
      obtain rfl := hJ9.symm
      exact V_lret C (Nat.zero_le _) (Nat.zero_le _) dX6_parts_51 (hP _ _ _ _ ⟨by first | (repeat (first | rw [if_pos rfl] | rw [if_neg (by decide)])); done | (repeat rw [if_neg (fun e => absurd (e ▸ hw) (by decide))]), hR0⟩)
    | 2, _, hw =>
      subst hw
      refine V_swIn C 52 dX6_parts_1 (by decide) (by decide) (off := 51) (by decide +kernel) (by decide) ?_
      refine V_aload_n C dX6_parts_52 rfl ?_
      refine V_getR C fl_X6_10 (ob_K h1) r0 rfl dX6_parts_53 ?_
      refine V_getI C fl_X6_196 (ob_K hK1) rfl dX6_parts_56 ?_
      refine V_i2l C dX6_parts_59 ?_
      rw [e4]
      exact V_lret C (Nat.zero_le _) (Nat.zero_le _) dX6_parts_60 (hP _ _ _ _ ⟨by first | (repeat (first | rw [if_pos rfl] | rw [if_neg (by decide)])); done | (repeat rw [if_neg (fun e => absurd (e ▸ hw) (by decide))]), hR0⟩)
    | 3, _, hw =>
      subst hw
      refine V_swIn C 61 dX6_parts_1 (by decide) (by decide) (off := 60) (by decide +kernel) (by decide) ?_
      refine V_aload_n C dX6_parts_61 rfl ?_
      refine V_getR C fl_X6_10 (ob_K h1) r0 rfl dX6_parts_62 ?_
      refine V_getI C fl_X6_199 (ob_K hK1) rfl dX6_parts_65 ?_
      refine V_i2l C dX6_parts_68 ?_
      rw [e5]
      exact V_lret C (Nat.zero_le _) (Nat.zero_le _) dX6_parts_69 (hP _ _ _ _ ⟨by first | (repeat (first | rw [if_pos rfl] | rw [if_neg (by decide)])); done | (repeat rw [if_neg (fun e => absurd (e ▸ hw) (by decide))]), hR0⟩)
    | 4, _, hw =>
      subst hw
      refine V_swIn C 70 dX6_parts_1 (by decide) (by decide) (off := 69) (by decide +kernel) (by decide) ?_
      refine V_aload_n C dX6_parts_70 rfl ?_
      refine V_getR C fl_X6_10 (ob_K h1) r0 rfl dX6_parts_71 ?_
      refine V_callV (F := fun _ => True) C (c_inRings h9 hC.1.1 hO.1.1.1) mi_X1_inRings ml_X6_189 rfl (ob_K hK1) (by decide) (by decide) (by decide) (Nat.le_of_ble_eq_true rfl) (fun _ _ => trivial) (fun v _ => clo_T v) rfl dX6_parts_74 ?_
      rintro v S' I' J' ⟨hS9, rfl, hI9, hJ9⟩
      obtain rfl := hS9.symm
      obtain rfl := hI9.symm
      obtain rfl := hJ9.symm
      rw [e12]
      refine V_aload_n C dX6_parts_77 rfl ?_
      refine V_getR C fl_X6_10 (ob_K h1) r0 rfl dX6_parts_78 ?_
      refine V_callV (F := fun _ => True) C (c_inLumps h9 hC.1.1 hO.1.1.1) mi_X1_inLumps ml_X6_193 rfl (ob_K hK1) (by decide) (by decide) (by decide) (Nat.le_of_ble_eq_true rfl) (fun _ _ => trivial) (fun v _ => clo_T v) rfl dX6_parts_81 ?_
      rintro v S' I' J' ⟨hS9, rfl, hI9, hJ9⟩
      obtain rfl := hS9.symm
      obtain rfl := hI9.symm
      obtain rfl := hJ9.symm
      refine V_ladd C dX6_parts_84 ?_
      refine V_aload_n C dX6_parts_85 rfl ?_
      refine V_getR C fl_X6_10 (ob_K h1) r0 rfl dX6_parts_86 ?_
      refine V_getI C fl_X6_196 (ob_K hK1) rfl dX6_parts_89 ?_
      refine V_i2l C dX6_parts_92 ?_
      rw [e4]
      refine V_ladd C dX6_parts_93 ?_
      refine V_aload_n C dX6_parts_94 rfl ?_
      refine V_getR C fl_X6_10 (ob_K h1) r0 rfl dX6_parts_95 ?_
      refine V_getI C fl_X6_199 (ob_K hK1) rfl dX6_parts_98 ?_
      refine V_i2l C dX6_parts_101 ?_
      rw [e5]
      refine V_ladd C dX6_parts_102 ?_
      exact V_lret C (Nat.zero_le _) (Nat.zero_le _) dX6_parts_103 (hP _ _ _ _ ⟨by first | (repeat (first | rw [if_pos rfl] | rw [if_neg (by decide)])); done | (repeat rw [if_neg (fun e => absurd (e ▸ hw) (by decide))]), hR0⟩)
set_option maxRecDepth 100000 in
set_option maxHeartbeats 1000000 in
theorem f_count (hR : ClsR z S I J) (hO : OkC z) (w : Int32) : Mf l yX6_count cX6_count 2 (some .int) 3 [.ref 1100, .int w] S I J (fun v S' I' J' => v = some (.int (countV z w)) ∧ ClsR z S' I' J') := by
  refine Mf.of (by decide) (fun ad => by simp [lg_sl, vv, Value.category]) (fun X P hP hn C => ?_)
  have hR0 := hR
  obtain ⟨la, lb, hS, hC⟩ := hR
  obtain ⟨h1, ⟨r0, r1, r3, r4, r5, r6, r7⟩, hF, -, -, hT, hL, -, h9, h10, -⟩ := id hS
  have hK1 := h9.1
  obtain ⟨c0, c1, c2, c3, c6, c7⟩ := hC.1.1.1
  obtain ⟨-, -, l0, l8, -, -, t0, d0⟩ := id hC
  have f12 := cf_12 hO.1.1
  unfold countV at hP
  refine V_iload_n C dX6_count_0 rfl ?_
  rcases pk_ix w (n := 11) (by decide) with hw | hw | ⟨j, hj, hw⟩
  · refine V_swOut C 142 dX6_count_1 (Or.inl (sw_lo hw)) (by decide) ?_
    refine V_iconst C (v := (-1)) dX6_count_142 (by decide +kernel) ?_
    exact V_iret C (Nat.zero_le _) (Nat.zero_le _) dX6_count_143 (hP _ _ _ _ ⟨by first | (repeat (first | rw [if_pos rfl] | rw [if_neg (by decide)])); done | (repeat rw [if_neg (fun e => absurd (e ▸ hw) (by decide))]), hR0⟩)
  · refine V_swOut C 142 dX6_count_1 (Or.inr (sw_hi hw (by decide))) (by decide) ?_
    refine V_iconst C (v := (-1)) dX6_count_142 (by decide +kernel) ?_
    exact V_iret C (Nat.zero_le _) (Nat.zero_le _) dX6_count_143 (hP _ _ _ _ ⟨by first | (repeat (first | rw [if_pos rfl] | rw [if_neg (by decide)])); done | (repeat rw [if_neg (fun e => absurd (e ▸ hw) (by decide))]), hR0⟩)
  · match j, hj, hw with
    | 0, _, hw =>
      subst hw
      refine V_swIn C 60 dX6_count_1 (by decide) (by decide) (off := 59) (by decide +kernel) (by decide) ?_
      refine V_aload_n C dX6_count_60 rfl ?_
      refine V_getR C fl_X6_10 (ob_K h1) r0 rfl dX6_count_61 ?_
      refine V_getI C fl_X6_67 (ob_K hK1) rfl dX6_count_64 ?_
      rw [c1]
      exact V_iret C (Nat.zero_le _) (Nat.zero_le _) dX6_count_67 (hP _ _ _ _ ⟨by first | (repeat (first | rw [if_pos rfl] | rw [if_neg (by decide)])); done | (repeat rw [if_neg (fun e => absurd (e ▸ hw) (by decide))]), hR0⟩)
    | 1, _, hw =>
      subst hw
      refine V_swIn C 68 dX6_count_1 (by decide) (by decide) (off := 67) (by decide +kernel) (by decide) ?_
      refine V_aload_n C dX6_count_68 rfl ?_
      refine V_getR C fl_X6_10 (ob_K h1) r0 rfl dX6_count_69 ?_
      refine V_getI C fl_X6_163 (ob_K hK1) rfl dX6_count_72 ?_
      rw [c0]
      exact V_iret C (Nat.zero_le _) (Nat.zero_le _) dX6_count_75 (hP _ _ _ _ ⟨by first | (repeat (first | rw [if_pos rfl] | rw [if_neg (by decide)])); done | (repeat rw [if_neg (fun e => absurd (e ▸ hw) (by decide))]), hR0⟩)
    | 2, _, hw =>
      subst hw
      refine V_swIn C 76 dX6_count_1 (by decide) (by decide) (off := 75) (by decide +kernel) (by decide) ?_
      refine V_aload_n C dX6_count_76 rfl ?_
      refine V_getR C fl_X6_10 (ob_K h1) r0 rfl dX6_count_77 ?_
      refine V_getI C fl_X6_221 (ob_K hK1) rfl dX6_count_80 ?_
      rw [c6]
      exact V_iret C (Nat.zero_le _) (Nat.zero_le _) dX6_count_83 (hP _ _ _ _ ⟨by first | (repeat (first | rw [if_pos rfl] | rw [if_neg (by decide)])); done | (repeat rw [if_neg (fun e => absurd (e ▸ hw) (by decide))]), hR0⟩)
    | 3, _, hw =>
      subst hw
      refine V_swIn C 84 dX6_count_1 (by decide) (by decide) (off := 83) (by decide +kernel) (by decide) ?_
      refine V_aload_n C dX6_count_84 rfl ?_
      refine V_getR C fl_X6_10 (ob_K h1) r0 rfl dX6_count_85 ?_
      refine V_getI C fl_X6_218 (ob_K hK1) rfl dX6_count_88 ?_
      rw [c7]
      exact V_iret C (Nat.zero_le _) (Nat.zero_le _) dX6_count_91 (hP _ _ _ _ ⟨by first | (repeat (first | rw [if_pos rfl] | rw [if_neg (by decide)])); done | (repeat rw [if_neg (fun e => absurd (e ▸ hw) (by decide))]), hR0⟩)
    | 4, _, hw =>
      subst hw
      refine V_swIn C 92 dX6_count_1 (by decide) (by decide) (off := 91) (by decide +kernel) (by decide) ?_
      refine V_aload_n C dX6_count_92 rfl ?_
      refine V_getR C fl_X6_42 (ob_K h1) r6 rfl dX6_count_93 ?_
      refine V_getI C fl_X6_237 (ob_K hL) rfl dX6_count_96 ?_
      rw [l0.1]
      exact V_iret C (Nat.zero_le _) (Nat.zero_le _) dX6_count_99 (hP _ _ _ _ ⟨by first | (repeat (first | rw [if_pos rfl] | rw [if_neg (by decide)])); done | (repeat rw [if_neg (fun e => absurd (e ▸ hw) (by decide))]), hR0⟩)
    | 5, _, hw =>
      subst hw
      refine V_swIn C 100 dX6_count_1 (by decide) (by decide) (off := 99) (by decide +kernel) (by decide) ?_
      refine V_aload_n C dX6_count_100 rfl ?_
      refine V_getR C fl_X6_42 (ob_K h1) r6 rfl dX6_count_101 ?_
      refine V_getI C fl_X6_230 (ob_K hL) rfl dX6_count_104 ?_
      rw [l0.2.1]
      exact V_iret C (Nat.zero_le _) (Nat.zero_le _) dX6_count_107 (hP _ _ _ _ ⟨by first | (repeat (first | rw [if_pos rfl] | rw [if_neg (by decide)])); done | (repeat rw [if_neg (fun e => absurd (e ▸ hw) (by decide))]), hR0⟩)
    | 6, _, hw =>
      subst hw
      refine V_swIn C 108 dX6_count_1 (by decide) (by decide) (off := 107) (by decide +kernel) (by decide) ?_
      refine V_aload_n C dX6_count_108 rfl ?_
      refine V_getI C fl_X6_120 (ob_K h1) rfl dX6_count_109 ?_
      rw [l8]
      exact V_iret C (Nat.zero_le _) (Nat.zero_le _) dX6_count_112 (hP _ _ _ _ ⟨by first | (repeat (first | rw [if_pos rfl] | rw [if_neg (by decide)])); done | (repeat rw [if_neg (fun e => absurd (e ▸ hw) (by decide))]), hR0⟩)
    | 7, _, hw =>
      subst hw
      refine V_swIn C 113 dX6_count_1 (by decide) (by decide) (off := 112) (by decide +kernel) (by decide) ?_
      refine V_aload_n C dX6_count_113 rfl ?_
      refine V_getR C fl_X6_23 (ob_K h1) r3 rfl dX6_count_114 ?_
      refine V_getI C fl_X6_113 (ob_K hT) rfl dX6_count_117 ?_
      rw [t0.1]
      exact V_iret C (Nat.zero_le _) (Nat.zero_le _) dX6_count_120 (hP _ _ _ _ ⟨by first | (repeat (first | rw [if_pos rfl] | rw [if_neg (by decide)])); done | (repeat rw [if_neg (fun e => absurd (e ▸ hw) (by decide))]), hR0⟩)
    | 8, _, hw =>
      subst hw
      refine V_swIn C 121 dX6_count_1 (by decide) (by decide) (off := 120) (by decide +kernel) (by decide) ?_
      refine V_aload_n C dX6_count_121 rfl ?_
      refine V_getI C fl_X6_224 (ob_K h1) rfl dX6_count_122 ?_
      rw [d0.1]
      exact V_iret C (Nat.zero_le _) (Nat.zero_le _) dX6_count_125 (hP _ _ _ _ ⟨by first | (repeat (first | rw [if_pos rfl] | rw [if_neg (by decide)])); done | (repeat rw [if_neg (fun e => absurd (e ▸ hw) (by decide))]), hR0⟩)
    | 9, _, hw =>
      subst hw
      refine V_swIn C 126 dX6_count_1 (by decide) (by decide) (off := 125) (by decide +kernel) (by decide) ?_
      refine V_aload_n C dX6_count_126 rfl ?_
      refine V_getR C fl_X6_10 (ob_K h1) r0 rfl dX6_count_127 ?_
      refine V_callV (F := fun _ => True) C (c_howManyTraps h9 hC.1.1 hO.1.1.1) mi_X1_howManyTraps ml_X6_240 rfl (ob_K hK1) (by decide) (by decide) (by decide) (Nat.le_of_ble_eq_true rfl) (fun _ _ => trivial) (fun v _ => clo_T v) rfl dX6_count_130 ?_
      rintro v S' I' J' ⟨hS9, rfl, hI9, hJ9⟩
      obtain rfl := hS9.symm
      obtain rfl := hI9.symm
      obtain rfl := hJ9.symm
      exact V_iret C (Nat.zero_le _) (Nat.zero_le _) dX6_count_133 (hP _ _ _ _ ⟨by first | (repeat (first | rw [if_pos rfl] | rw [if_neg (by decide)])); done | (repeat rw [if_neg (fun e => absurd (e ▸ hw) (by decide))]), hR0⟩)
    | 10, _, hw =>
      subst hw
      refine V_swIn C 134 dX6_count_1 (by decide) (by decide) (off := 133) (by decide +kernel) (by decide) ?_
      refine V_aload_n C dX6_count_134 rfl ?_
      refine V_getR C fl_X6_10 (ob_K h1) r0 rfl dX6_count_135 ?_
      refine V_callV (F := fun _ => True) C (c_howManyFamilies h9 hC.1.1 hO.1.1.1 hO.1.1.2.2.1.2.2) mi_X1_howManyFamilies ml_X6_243 rfl (ob_K hK1) (by decide) (by decide) (by decide) (Nat.le_of_ble_eq_true rfl) (fun _ _ => trivial) (fun v _ => clo_T v) rfl dX6_count_138 ?_
      rintro v S' I' J' ⟨hS9, rfl, hI9, hJ9⟩
      obtain rfl := hS9.symm
      obtain rfl := hI9.symm
      obtain rfl := hJ9.symm
      rw [f12]
      exact V_iret C (Nat.zero_le _) (Nat.zero_le _) dX6_count_141 (hP _ _ _ _ ⟨by first | (repeat (first | rw [if_pos rfl] | rw [if_neg (by decide)])); done | (repeat rw [if_neg (fun e => absurd (e ▸ hw) (by decide))]), hR0⟩)
theorem CR.td {la : Nat} {T : List (Int32 × Int32)} (hla : la = 1160 ∨ la = 1180) (h : CR la z S I J) (r : ∀ a, a ≠ 1100 → a ≠ 1110 → a ≠ 1111 → I' a = I a) (e8 : I' 1100 8 = I 1100 8) (et : tdK I' T) : CR la (setT z T) S I' J := by
  obtain ⟨g1, g2, g3, g4, g5, g6, g7, g8⟩ := h
  have sm : ∀ {b : Nat} {q : QV}, 1500 ≤ b → CQ I J b q → CQ I' J b q := fun {b q} hb hq => by
    obtain ⟨⟨a1, a2, a3, a4⟩, a5, a6⟩ := hq
    refine ⟨⟨by rw [r b (by omega) (by omega) (by omega)]; exact a1, fun k hk => by rw [r (b + 9) (by omega) (by omega) (by omega), r (b + 10) (by omega) (by omega) (by omega), r (b + 11) (by omega) (by omega) (by omega)]; exact a2 k hk, fun k hk => by rw [r (b + 12) (by omega) (by omega) (by omega)]; exact a3 k hk, fun u hu => (a4 u hu).cg (r _ (by omega) (by omega) (by omega)) (r _ (by omega) (by omega) (by omega)) (fun _ _ _ => rfl)⟩, by rw [r b (by omega) (by omega) (by omega)]; exact a5, by rw [r b (by omega) (by omega) (by omega)]; exact a6⟩
  refine ⟨sm (by omega) g1, fun m hm => ?_, g3.cg (fun x _ => by rw [r la (by omega) (by omega) (by omega)]) (fun a q1 q2 => r a (by omega) (by omega) (by omega)), e8.trans g4, by rw [r 1140 (by omega) (by omega) (by omega)]; exact g5, by rw [r 1140 (by omega) (by omega) (by omega)]; exact g6, by show tpK I' z.2.2.2.1; unfold tpK; rw [r 1120 (by omega) (by omega) (by omega), r 1122 (by omega) (by omega) (by omega)]; exact g7, et⟩
  have hm2 := g2 m hm
  show mkC (setT z T) S I' J m
  unfold mkC at hm2 ⊢
  show (match z.2.1 m with | none => S.2.2 1103 m = none ∧ ∀ a, 1900 + 400 * m ≤ a → a < 2300 + 400 * m → S.1 a = 0 | some q => S.2.2 1103 m = some (1900 + 400 * m) ∧ Dk S (1900 + 400 * m) ∧ CQ I' J (1900 + 400 * m) q)
  cases hz : z.2.1 m with
  | none => rw [hz] at hm2; exact hm2
  | some q => rw [hz] at hm2; exact ⟨hm2.1, hm2.2.1, sm (by omega) hm2.2.2⟩
set_option maxRecDepth 100000 in
theorem f_told (hR : ClsR z S I J) (hO : OkC z) (n k : Int32) : Mf l yX6_told cX6_told 3 (some .int) 1 [.ref 1100, .int n, .int k] S I J (fun v S' I' J' => v = some (.int (aTold z n k)) ∧ ClsR (nTold z n k) S' I' J') := by
  refine Mf.of (by decide) (fun ad => by simp [lg_sl, vv, Value.category]) (fun X P hP hn C => ?_)
  have hR0 := hR
  obtain ⟨la, lb, hS, hC⟩ := hR
  have hla : la = 1160 ∨ la = 1180 := by have := hS.2.2.2.2.2.2.2.2.2.2; omega
  obtain ⟨h1, ⟨r0, r1, r3, r4, r5, r6, r7⟩, hF, -, -, hT, hL, -, h9, h10, -⟩ := id hS
  obtain ⟨t0, t1⟩ := hC.2.2.2.2.2.2.2
  obtain ⟨T, hTd⟩ : ∃ T, T = z.2.2.2.2 := ⟨_, rfl⟩
  have hlen : T.length ≤ 10 := by rw [hTd]; exact hO.2.2.2.2.2.2.2.1
  rw [← hTd] at t0 t1
  have bad : ¬ okTold z n k → V X P 0 0 29 [some (.ref 1100), some (.int n), some (.int k)] [] S I J := by
    intro no
    refine V_iconst C (v := (-1)) dX6_told_29 (by decide +kernel) ?_
    exact V_iret C (Nat.zero_le _) (Nat.zero_le _) dX6_told_30 (hP _ _ _ _ ⟨by rw [aTold, if_neg no], by rw [nTold, if_neg no]; exact hR0⟩)
  have good : okTold z n k → V X P 0 0 31 [some (.ref 1100), some (.int n), some (.int k)] [] S I J := by
    intro ok
    have lt : T.length < 10 := by
      rcases Nat.lt_or_ge T.length 10 with h | h
      · exact h
      · exact absurd (by rw [← hTd, show T.length = 10 by omega]) ok.2.2
    obtain ⟨I2, hI2⟩ : ∃ I2, I2 = up2 (up2 (up2 I 1110 T.length n) 1111 T.length k) 1100 11 (nI (T.length + 1)) := ⟨_, rfl⟩
    have et : tdK I2 (T ++ [(n, k)]) := by
      refine ⟨by rw [hI2, List.length_append]; rfl, fun i hi => ?_⟩
      rw [List.length_append] at hi
      have hi : i < T.length + 1 := hi
      rw [hI2]
      show va_up (I 1110) T.length n i = _ ∧ va_up (I 1111) T.length k i = _
      by_cases e : i = T.length
      · subst e; rw [va_up_self, va_up_self, gd_app]; exact ⟨rfl, rfl⟩
      · rw [va_up_ne _ _ e, va_up_ne _ _ e, gd_app2 (by omega)]; exact t1 i (by omega)
    have c3 : CR la (setT z (T ++ [(n, k)])) S I2 J := hC.td hla (fun a g1 g2 g3 => by rw [hI2, up2_ne _ _ _ g1, up2_ne _ _ _ g3, up2_ne _ _ _ g2]) (by rw [hI2]; rfl) et
    have e57 : I 1100 11 + nI 1 = nI (T.length + 1) := by rw [t0, nI_add]
    have e66 : I2 1100 11 - nI 1 = nI T.length := by rw [hI2, up2_row, va_up_self, pk_sub (by omega)]; rfl
    refine V_aload_n C dX6_told_31 rfl ?_
    refine V_getR C fl_X6_60 (ob_K h1) (ob_R h1 9 1110 rfl rfl) rfl dX6_told_32 ?_
    refine V_aload_n C dX6_told_35 rfl ?_
    refine V_getI C fl_X6_224 (ob_K h1) rfl dX6_told_36 ?_
    refine V_iload_n C dX6_told_39 rfl ?_
    refine V_iast C (T.length) (ob_A h1 9 1110 rfl rfl) t0 (by rw [ob_N h1 9 1110 rfl rfl]; omega) (by rw [ob_N h1 9 1110 rfl rfl]; decide) dX6_told_40 ?_
    refine V_aload_n C dX6_told_41 rfl ?_
    refine V_getR C fl_X6_64 (ob_K h1) (ob_R h1 10 1111 rfl rfl) rfl dX6_told_42 ?_
    refine V_aload_n C dX6_told_45 rfl ?_
    refine V_getI C fl_X6_224 (ob_K h1) rfl dX6_told_46 ?_
    refine V_iload_n C dX6_told_49 rfl ?_
    refine V_iast C (T.length) (ob_A h1 10 1111 rfl rfl) t0 (by rw [ob_N h1 10 1111 rfl rfl]; omega) (by rw [ob_N h1 10 1111 rfl rfl]; decide) dX6_told_50 ?_
    refine V_aload_n C dX6_told_51 rfl ?_
    refine V_dup C dX6_told_52 rfl ?_
    refine V_getI C fl_X6_224 (ob_K h1) rfl dX6_told_53 ?_
    refine V_iconst C (v := nI 1) dX6_told_56 (by decide +kernel) ?_
    refine V_iadd C dX6_told_57 ?_
    refine V_top (w := .int (nI (T.length + 1))) (congrArg Value.int e57) ?_
    refine V_putI C fl_X6_224 (ob_K h1) rfl rfl dX6_told_58 ?_
    rw [← hI2]
    refine V_aload_n C dX6_told_61 rfl ?_
    refine V_getI C fl_X6_224 (ob_K h1) rfl dX6_told_62 ?_
    refine V_iconst C (v := nI 1) dX6_told_65 (by decide +kernel) ?_
    refine V_isub C dX6_told_66 ?_
    rw [e66]
    exact V_iret C (Nat.zero_le _) (Nat.zero_le _) dX6_told_67 (hP _ _ _ _ ⟨by rw [aTold, if_pos ok, ← hTd], by rw [nTold, if_pos ok, ← hTd]; exact ⟨la, lb, hS, c3⟩⟩)
  refine V_iload_n C dX6_told_0 rfl ?_
  refine V_iconst C (v := nI 0) dX6_told_1 (by decide +kernel) ?_
  refine V_bipush C (v := nI 30) dX6_told_2 (by decide +kernel) ?_
  refine V_callS (F := fun _ => True) C (m_isW _ _ _) ms_X6_isWithin ml_X6_71 rfl (by decide) (by decide) (Nat.le_of_ble_eq_true rfl) (fun _ _ => trivial) (fun v _ => clo_T v) rfl dX6_told_4 ?_
  rintro v S' I' J' ⟨hS9, rfl, hI9, hJ9⟩
  obtain rfl := hS9.symm
  obtain rfl := hI9.symm
  obtain rfl := hJ9.symm
  refine V_if_eq C 29 dX6_told_7 (by decide) (fun h7 => ?_) (fun h7 => ?_)
  · first | exact bad (fun q => bI_0.mp h7 q.1) | exact bad (fun q => bI_0.mp h17 q.2.1) | exact bad (fun q => q.2.2 (by rw [← hTd, show T.length = 10 from Nat.le_antisymm hlen (Nat.le_of_not_lt (fun g => h26 (by rw [t0]; exact nI_lt g (by omega))))]))
  · refine V_iload_n C dX6_told_10 rfl ?_
    refine V_iconst C (v := nI 0) dX6_told_11 (by decide +kernel) ?_
    refine V_bipush C (v := nI 100) dX6_told_12 (by decide +kernel) ?_
    refine V_callS (F := fun _ => True) C (m_isW _ _ _) ms_X6_isWithin ml_X6_71 rfl (by decide) (by decide) (Nat.le_of_ble_eq_true rfl) (fun _ _ => trivial) (fun v _ => clo_T v) rfl dX6_told_14 ?_
    rintro v S' I' J' ⟨hS9, rfl, hI9, hJ9⟩
    obtain rfl := hS9.symm
    obtain rfl := hI9.symm
    obtain rfl := hJ9.symm
    refine V_if_eq C 29 dX6_told_17 (by decide) (fun h17 => ?_) (fun h17 => ?_)
    · first | exact bad (fun q => bI_0.mp h7 q.1) | exact bad (fun q => bI_0.mp h17 q.2.1) | exact bad (fun q => q.2.2 (by rw [← hTd, show T.length = 10 from Nat.le_antisymm hlen (Nat.le_of_not_lt (fun g => h26 (by rw [t0]; exact nI_lt g (by omega))))]))
    · refine V_aload_n C dX6_told_20 rfl ?_
      refine V_getI C fl_X6_224 (ob_K h1) rfl dX6_told_21 ?_
      refine V_bipush C (v := nI 10) dX6_told_24 (by decide +kernel) ?_
      refine V_icmp_lt C 31 dX6_told_26 (by decide) (fun h26 => ?_) (fun h26 => ?_)
      · exact good ⟨Decidable.not_not.mp (fun q => h7 (bI_0.mpr q)), Decidable.not_not.mp (fun q => h17 (bI_0.mpr q)), fun q => by rw [← hTd] at q; rw [t0, q] at h26; exact absurd h26 (by decide)⟩
      · first | exact bad (fun q => bI_0.mp h7 q.1) | exact bad (fun q => bI_0.mp h17 q.2.1) | exact bad (fun q => q.2.2 (by rw [← hTd, show T.length = 10 from Nat.le_antisymm hlen (Nat.le_of_not_lt (fun g => h26 (by rw [t0]; exact nI_lt g (by omega))))]))
set_option maxRecDepth 100000 in
theorem f_forget (hR : ClsR z S I J) : Mf l yX6_forget cX6_forget 2 (some .int) 0 [.ref 1100] S I J (fun v S' I' J' => v = some (.int (nI z.2.2.2.2.length)) ∧ ClsR (setT z []) S' I' J') := by
  refine Mf.of (by decide) (fun ad => by simp [lg_sl, vv, Value.category]) (fun X P hP hn C => ?_)
  obtain ⟨la, lb, hS, hC⟩ := hR
  have hla : la = 1160 ∨ la = 1180 := by have := hS.2.2.2.2.2.2.2.2.2.2; omega
  obtain ⟨h1, -⟩ := id hS
  have t0 := hC.2.2.2.2.2.2.2.1
  have c3 : CR la (setT z []) S (up2 I 1100 11 (nI 0)) J := hC.td hla (fun a g1 g2 g3 => up2_ne _ _ _ g1) rfl ⟨rfl, fun i hi => absurd hi (Nat.not_lt_zero _)⟩
  refine V_aload_n C dX6_forget_0 rfl ?_
  refine V_getI C fl_X6_224 (ob_K h1) rfl dX6_forget_1 ?_
  rw [t0]
  refine V_istore_n C dX6_forget_4 (hn _ (by decide)) ?_
  refine V_aload_n C dX6_forget_5 rfl ?_
  refine V_iconst C (v := nI 0) dX6_forget_6 (by decide +kernel) ?_
  refine V_putI C fl_X6_224 (ob_K h1) rfl rfl dX6_forget_7 ?_
  refine V_iload_n C dX6_forget_10 rfl ?_
  exact V_iret C (Nat.zero_le _) (Nat.zero_le _) dX6_forget_11 (hP _ _ _ _ ⟨rfl, ⟨la, lb, hS, c3⟩⟩)
theorem f_enter {b2 : Nat} (hF : Ob S 0 1140) (g : Int32) : Mf l yX0_enter cX0_enter 3 none 0 [.ref 1140, .ref b2, .int g] S I J (fun v S' I' J' => v = none ∧ S' = enS S b2 ∧ I' = up2 I 1140 2 g ∧ J' = J) := c_enter hF g
theorem cG_of {la e : Nat} (hla : la = 1160 ∨ la = 1180) (hO : OkC z) (hC : CR la z S I J) (he : e < 16) (I1 : HI) (hI : ∀ a, a ≠ 1140 → I1 a = I a) (h2 : I1 1140 2 = nI e) (h3 : I1 1140 3 = I 1140 3) : cG I1 la z.2.2.1.1 e z.2.2.1.2.2.1 := ⟨hC.2.2.1.cg (fun x _ => by rw [hI la (by omega)]) (fun a g1 g2 => hI a (by omega)), h2, he, h3.trans hC.2.2.2.2.1, hO.2.2.2.2.1, hO.2.2.1 _⟩
set_option maxRecDepth 100000 in
set_option maxHeartbeats 1000000 in
theorem f_steps (hR : ClsR z S I J) (hO : OkC z) (n : Int32) : Mf l yX6_steps cX6_steps 2 (some .int) 6 [.ref 1100, .int n] S I J (fun v S' I' J' => v = some (.int (aSteps z n)) ∧ ClsR (nSteps z n) S' I' J') := by
  refine Mf.of (by decide) (fun ad => by simp [lg_sl, vv, Value.category]) (fun X P hP hn C => ?_)
  have hR0 := hR
  obtain ⟨la, lb, hS, hC⟩ := hR
  have hla : la = 1160 ∨ la = 1180 := by have := hS.2.2.2.2.2.2.2.2.2.2; omega
  obtain ⟨h1, ⟨r0, r1, r3, r4, r5, r6, r7⟩, hF, -, -, hT, hL, -, h9, h10, -⟩ := id hS
  have hK1 := h9.1
  have c1 := hC.1.1.1.2.1
  have bad : ¬ okSteps z n → V X P 0 0 25 [some (.ref 1100), some (.int n)] [] S I J := by
    intro no
    refine V_iconst C (v := (-1)) dX6_steps_25 (by decide +kernel) ?_
    exact V_iret C (Nat.zero_le _) (Nat.zero_le _) dX6_steps_26 (hP _ _ _ _ ⟨by rw [aSteps, if_neg no], by rw [nSteps, if_neg no]; exact hR0⟩)
  have good : okSteps z n → V X P 0 0 27 [some (.ref 1100), some (.int n)] [] S I J := by
    intro ok
    obtain ⟨k, hk1, hk2, ek⟩ := wi1_ex (by omega) ok.1
    have ec : cl n = k := by rw [ek]; exact nI_clamp (by omega)
    obtain ⟨e, ee, he16⟩ := hO.2.2.2.1
    obtain ⟨sh, esh, h101⟩ := hO.2.2.2.2.2.2.1
    have e36 : I 1100 8 = nI e := hC.2.2.2.1.trans ee
    obtain ⟨I1, hI1⟩ : ∃ I1, I1 = up2 I 1140 2 (nI e) := ⟨_, rfl⟩
    have o1 : ∀ a, a ≠ 1140 → I1 a = I a := fun a ha => by rw [hI1, up2_ne _ _ _ ha]
    have hG : cG I1 la z.2.2.1.1 e z.2.2.1.2.2.1 := cG_of hla hO hC he16 I1 o1 (by rw [hI1]; rfl) (by rw [hI1]; rfl)
    have hsh : I1 1140 4 = nI sh := by rw [hI1]; exact hC.2.2.2.2.2.1.trans esh
    have q1 : CQ I1 J 1500 z.1 := hC.1.same (fun a g1 g2 => o1 a (by omega)) rfl hO.1.1.1.2.2.2.2.1
    have hS2 := hS.en (b := 1500)
    have hX := hS.co h9 (by omega)
    obtain ⟨k1, ⟨s0, s1, s3, s4, s5, s6, s7⟩, kF, -, -, -, -, -, k9, -, -⟩ := id hS2
    have kK1 := k9.1
    have est : stZ z z.2.2.1.2.1 = stepD (kcl z.2.2.1.1 (nI e)) (nI z.2.2.1.2.2.1) (nI sh) := by unfold stZ; rw [ee, esh]
    have after : V X P 0 0 42 [some (.ref 1100), some (.int n)] [] (enS S 1500) I1 J := by
      have last : ∀ I2 J2, CQ I2 J2 1500 (itN (stepD (kcl z.2.2.1.1 (nI e)) (nI z.2.2.1.2.2.1) (nI sh)) k z.1) → FC 1500 I1 J I2 J2 → V X P 0 0 50 [some (.ref 1100), some (.int n)] [] (enS S 1500) I2 J2 := by
        intro I2 J2 q2 f2
        have en : nSteps z n = setQ z (itN (stepD (kcl z.2.2.1.1 (nI e)) (nI z.2.2.1.2.2.1) (nI sh)) k z.1) := by rw [nSteps, if_pos ok, est, ec]
        have c3 : CR la (nSteps z n) (enS S 1500) I2 J2 := by
          rw [en]
          refine hC.dk hla (fun m q hq => (hO.2.1 m q hq).1.1.2.2.2.2.1) q2 (fun a g1 _ g3 g4 g5 g6 g7 g8 => (f2.1 a ⟨g1, g4, g5, g6, g7, g8⟩).trans (o1 a g3)) (fun x hx => ?_) (fun a g1 _ => f2.2 a g1) ⟨enS_ne (by decide), rfl⟩ (fun c hc h => h.en hc)
          rw [f2.1 1140 ⟨by omega, by omega, by omega, by omega, by omega, by omega⟩, hI1, up2_row, va_up_ne _ _ hx]
        have e54 : I2 1500 1 = (nSteps z n).1.1 0 1 := by rw [en]; exact q2.1.1.2.1
        refine V_aload_n C dX6_steps_50 rfl ?_
        refine V_getR C fl_X6_10 (ob_K k1) s0 rfl dX6_steps_51 ?_
        refine V_getI C fl_X6_67 (ob_K kK1) rfl dX6_steps_54 ?_
        exact V_iret C (Nat.zero_le _) (Nat.zero_le _) dX6_steps_57 (hP _ _ _ _ ⟨by rw [aSteps, if_pos ok, e54], ⟨la, lb, hS2, c3⟩⟩)
      refine V_aload_n C dX6_steps_42 rfl ?_
      refine V_getR C fl_X6_30 (ob_K k1) s5 rfl dX6_steps_43 ?_
      refine V_iload_n C dX6_steps_46 rfl ?_
      rw [ek]
      refine V_callV (F := fun _ => True) C (c_go hX hG hsh h101 q1 hO.1.1 (n := k) (by omega)) mi_X0_go ml_X6_130 rfl (ob_K kF) (by decide) (by decide) (by decide) (Nat.le_of_ble_eq_true rfl) (fun _ _ => trivial) (fun v _ => clo_T v) rfl dX6_steps_47 ?_
      rintro v S' I2 J2 ⟨hS9, rfl, q2, f2⟩
      obtain rfl := hS9.symm
      rw [← ek]
      exact last _ _ q2 f2
    refine V_aload_n C dX6_steps_27 rfl ?_
    refine V_getR C fl_X6_30 (ob_K h1) r5 rfl dX6_steps_28 ?_
    refine V_aload_n C dX6_steps_31 rfl ?_
    refine V_getR C fl_X6_10 (ob_K h1) r0 rfl dX6_steps_32 ?_
    refine V_aload_n C dX6_steps_35 rfl ?_
    refine V_getI C fl_X6_120 (ob_K h1) rfl dX6_steps_36 ?_
    rw [e36]
    refine V_callV (F := fun _ => True) C (f_enter hF _) mi_X0_enter ml_X6_126 rfl (ob_K hF) (by decide) (by decide) (by decide) (Nat.le_of_ble_eq_true rfl) (fun _ _ => trivial) (fun v _ => clo_T v) rfl dX6_steps_39 ?_
    rintro v S' I2 J2 ⟨rfl, hS9, hI9, hJ9⟩
    subst hS9
    obtain rfl := hJ9.symm
    rw [hI9, ← hI1]
    exact after
  refine V_iload_n C dX6_steps_0 rfl ?_
  refine V_iconst C (v := nI 1) dX6_steps_1 (by decide +kernel) ?_
  refine V_bipush C (v := nI 100) dX6_steps_2 (by decide +kernel) ?_
  refine V_callS (F := fun _ => True) C (m_isW _ _ _) ms_X6_isWithin ml_X6_71 rfl (by decide) (by decide) (Nat.le_of_ble_eq_true rfl) (fun _ _ => trivial) (fun v _ => clo_T v) rfl dX6_steps_4 ?_
  rintro v S' I' J' ⟨hS9, rfl, hI9, hJ9⟩
  obtain rfl := hS9.symm
  obtain rfl := hI9.symm
  obtain rfl := hJ9.symm
  refine V_if_eq C 25 dX6_steps_7 (by decide) (fun h7 => ?_) (fun h7 => ?_)
  · first | exact bad (fun q => bI_0.mp h7 q.1) | exact bad (fun q => h22 (by rw [c1]; exact q.2))
  · refine V_aload_n C dX6_steps_10 rfl ?_
    refine V_getR C fl_X6_10 (ob_K h1) r0 rfl dX6_steps_11 ?_
    refine V_getI C fl_X6_67 (ob_K hK1) rfl dX6_steps_14 ?_
    refine V_iload_n C dX6_steps_17 rfl ?_
    refine V_iadd C dX6_steps_18 ?_
    refine V_sipush C (v := nI 9999) dX6_steps_19 (by decide +kernel) ?_
    refine V_icmp_le C 27 dX6_steps_22 (by decide) (fun h22 => ?_) (fun h22 => ?_)
    · exact good ⟨Decidable.not_not.mp (fun q => h7 (bI_0.mpr q)), by rw [← c1]; exact h22⟩
    · first | exact bad (fun q => bI_0.mp h7 q.1) | exact bad (fun q => h22 (by rw [c1]; exact q.2))
end C16
