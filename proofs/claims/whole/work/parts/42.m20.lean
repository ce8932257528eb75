/-! the reference's calls: look, count, told, forget, back, mark -/
section M20
variable {l : Launch} {S : HS} {I I' : HI} {J J' : HJ} {z : SV}
abbrev okLook (z : SV) (u w : Int32) : Prop := isL z.1.1 u ∧ wi w (nI 0) (nI 9)
def lookW (z : SV) (u : Nat) (w : Int32) : Int32 := if w = nI 0 then z.1.1 5 u else if w = nI 1 then z.1.1 6 u else if w = nI 2 then wD z.1.1 u else if w = nI 3 then z.1.1 7 u else if w = nI 4 then famD z.1.1 u else if w = nI 5 then (if z.1.1 5 u = 0 then (if lockD z.1.1 u = 0 then nI 0 else nI 1) else -1) else if w = nI 6 then z.1.1 10 u else if w = nI 7 then (if z.1.1 5 u = 0 then (if sbD z u < 0 then nI 0 else sbD z u) else -1) else if w = nI 8 then z.1.1 9 u else z.1.1 8 u
def lookV (z : SV) (u w : Int32) : Int32 := if okLook z u w then lookW z (cl u) w else -1
set_option maxRecDepth 100000 in
set_option maxHeartbeats 1000000 in
theorem m_look (hM : Ob S 7 1000) (hR : RefR z I J) (hO : OkR z) (u w : Int32) : Mn l yX7_look cX7_look 3 (some .int) 4 [.ref 1000, .int u, .int w] S I J (fun v I' J' => v = some (.int (lookV z u w)) ∧ RefR z I' J') := by
  refine Mn.of (by decide) (fun ad => by simp [lg_sl, vv, Value.category]) (fun X P hP hn C => ?_)
  have key : ∀ I0, RefR z I0 J → V X P 0 0 5 [some (.ref 1000), some (.int u), some (.int w)] [] S I0 J := by
    intro I0 hR
    have last : okLook z u w → V X P 0 0 26 [some (.ref 1000), some (.int u), some (.int w)] [.int w] S I0 J := by
      intro ok
      obtain ⟨k, hk, hk2, ek⟩ := isL_ex ok.1 hO.1.1
      obtain ⟨j, hj0, hw⟩ := wi_ex (by omega) ok.2
      have hj : j < 10 := by omega
      have ec : cl u = k := by rw [ek]; exact nI_clamp (by omega)
      have eA : lookV z u w = lookW z k w := by rw [lookV, if_pos ok, ec]
      have hD := (hR.ok hO).1
      have hu : k < cmD (refD I0 J 0) := by rw [hR.d]; exact hk
      have eL := r_lump hD hu
      rw [hR.d] at eL
      simp only [Nat.mul_zero, Nat.zero_add] at eL
      obtain ⟨l5, l6, l7, l8, l9, l10⟩ := eL
      have e5 : bI (refD I0 J 0 5 k = 0) = 0 ↔ ¬ z.1.1 5 k = 0 := by rw [bI_0, hR.d]
      have e5' : ¬ bI (refD I0 J 0 5 k = 0) = 0 → z.1.1 5 k = 0 := fun h => Decidable.not_not.mp (fun q => h (e5.mpr q))
      rw [eA] at hP
      clear eA ok
      unfold lookW at hP
      subst ek
      match j, hj, hw with
      | 0, _, hw =>
        subst hw
        refine V_swIn C 76 dX7_look_26 (by decide) (by decide) (off := 50) (by decide +kernel) (by decide) ?_
        refine V_aload_n C dX7_look_76 rfl ?_
        refine V_getR C fl_X7_149 (ob_K hM) (ob_R hM 37 1038 rfl rfl) rfl dX7_look_77 ?_
        refine V_iload_n C dX7_look_80 rfl ?_
        refine V_iald C (k) (ob_A hM 37 1038 rfl rfl) (by first | rfl | (simp only [nI_add, pk_mul]; done) | (simp only [nI_add, pk_mul]; congr 1; omega)) (by rw [ob_N hM 37 1038 rfl rfl]; omega) (by rw [ob_N hM 37 1038 rfl rfl]; decide) dX7_look_81 ?_
        exact V_iret C (Nat.zero_le _) (Nat.zero_le _) dX7_look_82 (hP _ _ _ ⟨by (repeat (first | rw [if_pos (rfl : nI _ = nI _)] | rw [if_neg (show ¬ nI _ = nI _ by decide)])); all_goals first | rfl | rw [l5] | rw [l6] | rw [l7] | rw [l8] | rw [l9] | rw [l10], hR⟩)
      | 1, _, hw =>
        subst hw
        refine V_swIn C 83 dX7_look_26 (by decide) (by decide) (off := 57) (by decide +kernel) (by decide) ?_
        refine V_aload_n C dX7_look_83 rfl ?_
        refine V_getR C fl_X7_152 (ob_K hM) (ob_R hM 38 1039 rfl rfl) rfl dX7_look_84 ?_
        refine V_iload_n C dX7_look_87 rfl ?_
        refine V_iald C (k) (ob_A hM 38 1039 rfl rfl) (by first | rfl | (simp only [nI_add, pk_mul]; done) | (simp only [nI_add, pk_mul]; congr 1; omega)) (by rw [ob_N hM 38 1039 rfl rfl]; omega) (by rw [ob_N hM 38 1039 rfl rfl]; decide) dX7_look_88 ?_
        exact V_iret C (Nat.zero_le _) (Nat.zero_le _) dX7_look_89 (hP _ _ _ ⟨by (repeat (first | rw [if_pos (rfl : nI _ = nI _)] | rw [if_neg (show ¬ nI _ = nI _ by decide)])); all_goals first | rfl | rw [l5] | rw [l6] | rw [l7] | rw [l8] | rw [l9] | rw [l10], hR⟩)
      | 2, _, hw =>
        subst hw
        refine V_swIn C 90 dX7_look_26 (by decide) (by decide) (off := 64) (by decide +kernel) (by decide) ?_
        refine V_aload_n C dX7_look_90 rfl ?_
        refine V_iconst C (v := nI 0) dX7_look_91 (by decide +kernel) ?_
        refine V_iload_n C dX7_look_92 rfl ?_
        refine V_callV (F := fun _ => True) C (m_weightOf (b := 0) hM (by omega) hD hu) mi_X7_weightOf ml_X7_326 rfl (ob_K hM) (by decide) (by decide) (by decide) (Nat.le_of_ble_eq_true rfl) (fun _ _ => trivial) (fun v _ => clo_T v) rfl dX7_look_93 ?_
        rintro v S' I' J' ⟨hS, rfl, hI, hJ⟩
        obtain rfl := hS.symm
        obtain rfl := hI.symm
        obtain rfl := hJ.symm
        rw [hR.d]
        exact V_iret C (Nat.zero_le _) (Nat.zero_le _) dX7_look_96 (hP _ _ _ ⟨by (repeat (first | rw [if_pos (rfl : nI _ = nI _)] | rw [if_neg (show ¬ nI _ = nI _ by decide)])); all_goals first | rfl | rw [l5] | rw [l6] | rw [l7] | rw [l8] | rw [l9] | rw [l10], hR⟩)
      | 3, _, hw =>
        subst hw
        refine V_swIn C 97 dX7_look_26 (by decide) (by decide) (off := 71) (by decide +kernel) (by decide) ?_
        refine V_aload_n C dX7_look_97 rfl ?_
        refine V_getR C fl_X7_155 (ob_K hM) (ob_R hM 39 1040 rfl rfl) rfl dX7_look_98 ?_
        refine V_iload_n C dX7_look_101 rfl ?_
        refine V_iald C (k) (ob_A hM 39 1040 rfl rfl) (by first | rfl | (simp only [nI_add, pk_mul]; done) | (simp only [nI_add, pk_mul]; congr 1; omega)) (by rw [ob_N hM 39 1040 rfl rfl]; omega) (by rw [ob_N hM 39 1040 rfl rfl]; decide) dX7_look_102 ?_
        exact V_iret C (Nat.zero_le _) (Nat.zero_le _) dX7_look_103 (hP _ _ _ ⟨by (repeat (first | rw [if_pos (rfl : nI _ = nI _)] | rw [if_neg (show ¬ nI _ = nI _ by decide)])); all_goals first | rfl | rw [l5] | rw [l6] | rw [l7] | rw [l8] | rw [l9] | rw [l10], hR⟩)
      | 4, _, hw =>
        subst hw
        refine V_swIn C 104 dX7_look_26 (by decide) (by decide) (off := 78) (by decide +kernel) (by decide) ?_
        refine V_aload_n C dX7_look_104 rfl ?_
        refine V_iconst C (v := nI 0) dX7_look_105 (by decide +kernel) ?_
        refine V_iload_n C dX7_look_106 rfl ?_
        refine V_callV (F := fun _ => True) C (m_familyOf (b := 0) hM (by omega) hD hu) mi_X7_familyOf ml_X7_400 rfl (ob_K hM) (by decide) (by decide) (by decide) (Nat.le_of_ble_eq_true rfl) (fun _ _ => trivial) (fun v _ => clo_T v) rfl dX7_look_107 ?_
        rintro v S' I' J' ⟨hS, rfl, hI, hJ⟩
        obtain rfl := hS.symm
        obtain rfl := hI.symm
        obtain rfl := hJ.symm
        rw [hR.d]
        exact V_iret C (Nat.zero_le _) (Nat.zero_le _) dX7_look_110 (hP _ _ _ ⟨by (repeat (first | rw [if_pos (rfl : nI _ = nI _)] | rw [if_neg (show ¬ nI _ = nI _ by decide)])); all_goals first | rfl | rw [l5] | rw [l6] | rw [l7] | rw [l8] | rw [l9] | rw [l10], hR⟩)
      | 5, _, hw =>
        subst hw
        refine V_swIn C 111 dX7_look_26 (by decide) (by decide) (off := 85) (by decide +kernel) (by decide) ?_
        refine V_aload_n C dX7_look_111 rfl ?_
        refine V_iconst C (v := nI 0) dX7_look_112 (by decide +kernel) ?_
        refine V_iload_n C dX7_look_113 rfl ?_
        refine V_callV (F := fun _ => True) C (m_isThere (b := 0) hM (by omega) hD hu) mi_X7_isThere ml_X7_372 rfl (ob_K hM) (by decide) (by decide) (by decide) (Nat.le_of_ble_eq_true rfl) (fun _ _ => trivial) (fun v _ => clo_T v) rfl dX7_look_114 ?_
        rintro v S' I' J' ⟨hS, rfl, hI, hJ⟩
        obtain rfl := hS.symm
        obtain rfl := hI.symm
        obtain rfl := hJ.symm
        refine V_if_ne C 124 dX7_look_117 (by decide) (fun h117 => ?_) (fun h117 => ?_)
        · refine V_aload_n C dX7_look_124 rfl ?_
          refine V_iconst C (v := nI 0) dX7_look_125 (by decide +kernel) ?_
          refine V_iload_n C dX7_look_126 rfl ?_
          refine V_callV (F := fun _ => True) C (m_isLocked (b := 0) hM (by omega) hD hu) mi_X7_isLocked ml_X7_385 rfl (ob_K hM) (by decide) (by decide) (by decide) (Nat.le_of_ble_eq_true rfl) (fun _ _ => trivial) (fun v _ => clo_T v) rfl dX7_look_127 ?_
          rintro v S' I' J' ⟨hS, rfl, hI, hJ⟩
          obtain rfl := hS.symm
          obtain rfl := hI.symm
          obtain rfl := hJ.symm
          rw [hR.d]
          refine V_if_eq C 137 dX7_look_130 (by decide) (fun h130 => ?_) (fun h130 => ?_)
          · refine V_iconst C (v := nI 0) dX7_look_137 (by decide +kernel) ?_
            exact V_iret C (Nat.zero_le _) (Nat.zero_le _) dX7_look_138 (hP _ _ _ ⟨by (repeat (first | rw [if_pos (rfl : nI _ = nI _)] | rw [if_neg (show ¬ nI _ = nI _ by decide)])); first | rw [if_neg (e5.mp h117)] | rw [if_pos (e5' h117), if_pos h130] | rw [if_pos (e5' h117), if_neg h130], hR⟩)
          · refine V_iconst C (v := nI 1) dX7_look_133 (by decide +kernel) ?_
            refine V_goto C 138 dX7_look_134 (by decide) ?_
            exact V_iret C (Nat.zero_le _) (Nat.zero_le _) dX7_look_138 (hP _ _ _ ⟨by (repeat (first | rw [if_pos (rfl : nI _ = nI _)] | rw [if_neg (show ¬ nI _ = nI _ by decide)])); first | rw [if_neg (e5.mp h117)] | rw [if_pos (e5' h117), if_pos h130] | rw [if_pos (e5' h117), if_neg h130], hR⟩)
        · refine V_iconst C (v := (-1)) dX7_look_120 (by decide +kernel) ?_
          refine V_goto C 138 dX7_look_121 (by decide) ?_
          exact V_iret C (Nat.zero_le _) (Nat.zero_le _) dX7_look_138 (hP _ _ _ ⟨by (repeat (first | rw [if_pos (rfl : nI _ = nI _)] | rw [if_neg (show ¬ nI _ = nI _ by decide)])); first | rw [if_neg (e5.mp h117)] | rw [if_pos (e5' h117), if_pos h130] | rw [if_pos (e5' h117), if_neg h130], hR⟩)
      | 6, _, hw =>
        subst hw
        refine V_swIn C 139 dX7_look_26 (by decide) (by decide) (off := 113) (by decide +kernel) (by decide) ?_
        refine V_aload_n C dX7_look_139 rfl ?_
        refine V_getR C fl_X7_164 (ob_K hM) (ob_R hM 42 1043 rfl rfl) rfl dX7_look_140 ?_
        refine V_iload_n C dX7_look_143 rfl ?_
        refine V_iald C (k) (ob_A hM 42 1043 rfl rfl) (by first | rfl | (simp only [nI_add, pk_mul]; done) | (simp only [nI_add, pk_mul]; congr 1; omega)) (by rw [ob_N hM 42 1043 rfl rfl]; omega) (by rw [ob_N hM 42 1043 rfl rfl]; decide) dX7_look_144 ?_
        exact V_iret C (Nat.zero_le _) (Nat.zero_le _) dX7_look_145 (hP _ _ _ ⟨by (repeat (first | rw [if_pos (rfl : nI _ = nI _)] | rw [if_neg (show ¬ nI _ = nI _ by decide)])); all_goals first | rfl | rw [l5] | rw [l6] | rw [l7] | rw [l8] | rw [l9] | rw [l10], hR⟩)
      | 7, _, hw =>
        subst hw
        refine V_swIn C 146 dX7_look_26 (by decide) (by decide) (off := 120) (by decide +kernel) (by decide) ?_
        refine V_aload_n C dX7_look_146 rfl ?_
        refine V_iconst C (v := nI 0) dX7_look_147 (by decide +kernel) ?_
        refine V_iload_n C dX7_look_148 rfl ?_
        refine V_callV (F := fun _ => True) C (m_isThere (b := 0) hM (by omega) hD hu) mi_X7_isThere ml_X7_372 rfl (ob_K hM) (by decide) (by decide) (by decide) (Nat.le_of_ble_eq_true rfl) (fun _ _ => trivial) (fun v _ => clo_T v) rfl dX7_look_149 ?_
        rintro v S' I' J' ⟨hS, rfl, hI, hJ⟩
        obtain rfl := hS.symm
        obtain rfl := hI.symm
        obtain rfl := hJ.symm
        refine V_if_ne C 159 dX7_look_152 (by decide) (fun h152 => ?_) (fun h152 => ?_)
        · refine V_aload_n C dX7_look_159 rfl ?_
          refine V_iload_n C dX7_look_160 rfl ?_
          refine V_callV (F := fun _ => True) C (m_seenBy hM hR hO hk) mi_X7_seenBy ml_X7_403 rfl (ob_K hM) (by decide) (by decide) (by decide) (Nat.le_of_ble_eq_true rfl) (fun _ _ => trivial) (fun v _ => clo_T v) rfl dX7_look_161 ?_
          rintro v S' I2 J2 ⟨hS, rfl, k2, hJ⟩
          obtain rfl := hS.symm
          obtain rfl := hJ.symm
          have hR2 := hR.kp k2
          refine V_if_ge C 171 dX7_look_164 (by decide) (fun h164 => ?_) (fun h164 => ?_)
          · refine V_aload_n C dX7_look_171 rfl ?_
            refine V_iload_n C dX7_look_172 rfl ?_
            refine V_callV (F := fun _ => True) C (m_seenBy hM hR2 hO hk) mi_X7_seenBy ml_X7_403 rfl (ob_K hM) (by decide) (by decide) (by decide) (Nat.le_of_ble_eq_true rfl) (fun _ _ => trivial) (fun v _ => clo_T v) rfl dX7_look_173 ?_
            rintro v S' I3 J3 ⟨hS, rfl, k3, hJ⟩
            obtain rfl := hS.symm
            obtain rfl := hJ.symm
            have hR2 := hR2.kp k3
            exact V_iret C (Nat.zero_le _) (Nat.zero_le _) dX7_look_176 (hP _ _ _ ⟨by (repeat (first | rw [if_pos (rfl : nI _ = nI _)] | rw [if_neg (show ¬ nI _ = nI _ by decide)])); first | rw [if_neg (e5.mp h152)] | rw [if_pos (e5' h152), if_pos (Int32.not_le.mp h164)] | rw [if_pos (e5' h152), if_neg (Int32.not_lt.mpr h164)], by first | exact hR2 | exact hR⟩)
          · refine V_iconst C (v := nI 0) dX7_look_167 (by decide +kernel) ?_
            refine V_goto C 176 dX7_look_168 (by decide) ?_
            exact V_iret C (Nat.zero_le _) (Nat.zero_le _) dX7_look_176 (hP _ _ _ ⟨by (repeat (first | rw [if_pos (rfl : nI _ = nI _)] | rw [if_neg (show ¬ nI _ = nI _ by decide)])); first | rw [if_neg (e5.mp h152)] | rw [if_pos (e5' h152), if_pos (Int32.not_le.mp h164)] | rw [if_pos (e5' h152), if_neg (Int32.not_lt.mpr h164)], by first | exact hR2 | exact hR⟩)
        · refine V_iconst C (v := (-1)) dX7_look_155 (by decide +kernel) ?_
          refine V_goto C 176 dX7_look_156 (by decide) ?_
          exact V_iret C (Nat.zero_le _) (Nat.zero_le _) dX7_look_176 (hP _ _ _ ⟨by (repeat (first | rw [if_pos (rfl : nI _ = nI _)] | rw [if_neg (show ¬ nI _ = nI _ by decide)])); first | rw [if_neg (e5.mp h152)] | rw [if_pos (e5' h152), if_pos (Int32.not_le.mp h164)] | rw [if_pos (e5' h152), if_neg (Int32.not_lt.mpr h164)], by first | exact hR2 | exact hR⟩)
      | 8, _, hw =>
        subst hw
        refine V_swIn C 177 dX7_look_26 (by decide) (by decide) (off := 151) (by decide +kernel) (by decide) ?_
        refine V_aload_n C dX7_look_177 rfl ?_
        refine V_getR C fl_X7_161 (ob_K hM) (ob_R hM 41 1042 rfl rfl) rfl dX7_look_178 ?_
        refine V_iload_n C dX7_look_181 rfl ?_
        refine V_iald C (k) (ob_A hM 41 1042 rfl rfl) (by first | rfl | (simp only [nI_add, pk_mul]; done) | (simp only [nI_add, pk_mul]; congr 1; omega)) (by rw [ob_N hM 41 1042 rfl rfl]; omega) (by rw [ob_N hM 41 1042 rfl rfl]; decide) dX7_look_182 ?_
        exact V_iret C (Nat.zero_le _) (Nat.zero_le _) dX7_look_183 (hP _ _ _ ⟨by (repeat (first | rw [if_pos (rfl : nI _ = nI _)] | rw [if_neg (show ¬ nI _ = nI _ by decide)])); all_goals first | rfl | rw [l5] | rw [l6] | rw [l7] | rw [l8] | rw [l9] | rw [l10], hR⟩)
      | 9, _, hw =>
        subst hw
        refine V_swOut C 184 dX7_look_26 (Or.inr (by decide)) (by decide) ?_
        refine V_aload_n C dX7_look_184 rfl ?_
        refine V_getR C fl_X7_158 (ob_K hM) (ob_R hM 40 1041 rfl rfl) rfl dX7_look_185 ?_
        refine V_iload_n C dX7_look_188 rfl ?_
        refine V_iald C (k) (ob_A hM 40 1041 rfl rfl) (by first | rfl | (simp only [nI_add, pk_mul]; done) | (simp only [nI_add, pk_mul]; congr 1; omega)) (by rw [ob_N hM 40 1041 rfl rfl]; omega) (by rw [ob_N hM 40 1041 rfl rfl]; decide) dX7_look_189 ?_
        exact V_iret C (Nat.zero_le _) (Nat.zero_le _) dX7_look_190 (hP _ _ _ ⟨by (repeat (first | rw [if_pos (rfl : nI _ = nI _)] | rw [if_neg (show ¬ nI _ = nI _ by decide)])); all_goals first | rfl | rw [l5] | rw [l6] | rw [l7] | rw [l8] | rw [l9] | rw [l10], hR⟩)
    refine V_aload_n C dX7_look_5 rfl ?_
    refine V_iload_n C dX7_look_6 rfl ?_
    refine V_callV (F := fun _ => True) C (m_isLump hM hR u) mi_X7_isLump ml_X7_397 rfl (ob_K hM) (by decide) (by decide) (by decide) (Nat.le_of_ble_eq_true rfl) (fun _ _ => trivial) (fun v _ => clo_T v) rfl dX7_look_7 ?_
    rintro v S' I' J' ⟨hS, rfl, hI, hJ⟩
    obtain rfl := hS.symm
    obtain rfl := hI.symm
    obtain rfl := hJ.symm
    refine V_if_eq C 23 dX7_look_10 (by decide) (fun h10 => ?_) (fun h10 => ?_)
    · refine V_iconst C (v := (-1)) dX7_look_23 (by decide +kernel) ?_
      exact V_iret C (Nat.zero_le _) (Nat.zero_le _) dX7_look_24 (hP _ _ _ (by have no : ¬ okLook z u w := (by first | exact fun q => (bI_0.mp h10) q.1 | exact fun q => (bI_0.mp h20) q.2); exact ⟨by rw [lookV, if_neg no], hR⟩))
    · refine V_iload_n C dX7_look_13 rfl ?_
      refine V_iconst C (v := nI 0) dX7_look_14 (by decide +kernel) ?_
      refine V_bipush C (v := nI 9) dX7_look_15 (by decide +kernel) ?_
      refine V_callS (F := fun _ => True) C (m_within _ _ _) ms_X7_within ml_X7_301 rfl (by decide) (by decide) (Nat.le_of_ble_eq_true rfl) (fun _ _ => trivial) (fun v _ => clo_T v) rfl dX7_look_17 ?_
      rintro v S' I' J' ⟨hS, rfl, hI, hJ⟩
      obtain rfl := hS.symm
      obtain rfl := hI.symm
      obtain rfl := hJ.symm
      refine V_if_ne C 25 dX7_look_20 (by decide) (fun h20 => ?_) (fun h20 => ?_)
      · refine V_iload_n C dX7_look_25 rfl ?_
        exact last ⟨Decidable.not_not.mp (fun q => h10 (bI_0.mpr q)), Decidable.not_not.mp (fun q => h20 (bI_0.mpr q))⟩
      · refine V_iconst C (v := (-1)) dX7_look_23 (by decide +kernel) ?_
        exact V_iret C (Nat.zero_le _) (Nat.zero_le _) dX7_look_24 (hP _ _ _ (by have no : ¬ okLook z u w := (by first | exact fun q => (bI_0.mp h10) q.1 | exact fun q => (bI_0.mp h20) q.2); exact ⟨by rw [lookV, if_neg no], hR⟩))
  refine V_aload_n C dX7_look_0 rfl ?_
  refine V_iconst C (v := nI 0) dX7_look_1 (by decide +kernel) ?_
  refine V_putI C fl_X7_1 (ob_K hM) rfl rfl dX7_look_2 ?_
  exact key _ hR.zr
def countV (z : SV) (w : Int32) : Int32 := if w = nI 0 then z.1.1 0 1 else if w = nI 1 then z.1.1 0 0 else if w = nI 2 then z.1.1 0 6 else if w = nI 3 then thD z.1.1 else if w = nI 4 then nI z.2.2.1.1.length else if w = nI 5 then nI (opN z.2.2.1.1) else if w = nI 6 then z.2.2.1.2.1 else if w = nI 7 then nI z.2.2.2.1.length else if w = nI 8 then nI z.2.2.2.2.length else if w = nI 9 then trN z.1.1 (rgD z.1.1) else if w = nI 10 then fcN (fsN z.1.1 (cmD z.1.1)) 12 else -1
set_option maxRecDepth 100000 in
set_option maxHeartbeats 1000000 in
theorem m_count (hM : Ob S 7 1000) (hR : RefR z I J) (hO : OkR z) (w : Int32) : Mn l yX7_count cX7_count 2 (some .int) 3 [.ref 1000, .int w] S I J (fun v I' J' => v = some (.int (countV z w)) ∧ RefR z I' J') := by
  refine Mn.of (by decide) (fun ad => by simp [lg_sl, vv, Value.category]) (fun X P hP hn C => ?_)
  have key : ∀ I0, RefR z I0 J → V X P 0 0 6 [some (.ref 1000), some (.int w)] [.int w] S I0 J := by
    intro I0 hR
    have es := hR.st0
    have er := hR.rg0
    have ec := hR.cm0
    have hD := (hR.ok hO).1
    obtain ⟨x, hx, x10, x19⟩ := hR.2.2.2.2.1
    obtain ⟨x', hx', x10', x13, -, -⟩ := hR.2.2.2.1.1
    obtain rfl : x' = x := (nI_eq (by omega) (by omega)).mp (x10'.symm.trans x10)
    have e24 := hR.2.2.2.2.2.1
    have e2 := hR.2.2.2.2.2.2.2.2.1.1
    have e48 := hR.2.2.2.2.2.2.2.2.2.1.1
    unfold countV at hP
    rcases pk_ix w (n := 11) (by decide) with hw | hw | ⟨j, hj, hw⟩
    · refine V_swOut C 136 dX7_count_6 (Or.inl (sw_lo hw)) (by decide) ?_
      refine V_iconst C (v := (-1)) dX7_count_136 (by decide +kernel) ?_
      exact V_iret C (Nat.zero_le _) (Nat.zero_le _) dX7_count_137 (hP _ _ _ ⟨by first | (repeat (first | rw [if_pos rfl] | rw [if_neg (by decide)])); done | (repeat rw [if_neg (fun e => absurd (e ▸ hw) (by decide))]), hR⟩)
    · refine V_swOut C 136 dX7_count_6 (Or.inr (sw_hi hw (by decide))) (by decide) ?_
      refine V_iconst C (v := (-1)) dX7_count_136 (by decide +kernel) ?_
      exact V_iret C (Nat.zero_le _) (Nat.zero_le _) dX7_count_137 (hP _ _ _ ⟨by first | (repeat (first | rw [if_pos rfl] | rw [if_neg (by decide)])); done | (repeat rw [if_neg (fun e => absurd (e ▸ hw) (by decide))]), hR⟩)
    · match j, hj, hw with
      | 0, _, hw =>
        subst hw
        refine V_swIn C 64 dX7_count_6 (by decide) (by decide) (off := 58) (by decide +kernel) (by decide) ?_
        refine V_aload_n C dX7_count_64 rfl ?_
        refine V_getR C fl_X7_137 (ob_K hM) (ob_R hM 33 1034 rfl rfl) rfl dX7_count_65 ?_
        refine V_iconst C (v := nI 0) dX7_count_68 (by decide +kernel) ?_
        refine V_iald C (0) (ob_A hM 33 1034 rfl rfl) (by first | rfl | (simp only [nI_add, pk_mul]; done) | (simp only [nI_add, pk_mul]; congr 1; omega)) (by rw [ob_N hM 33 1034 rfl rfl]; omega) (by rw [ob_N hM 33 1034 rfl rfl]; decide) dX7_count_69 ?_
        rw [es]
        exact V_iret C (Nat.zero_le _) (Nat.zero_le _) dX7_count_70 (hP _ _ _ ⟨by first | (repeat (first | rw [if_pos rfl] | rw [if_neg (by decide)])); done | (repeat rw [if_neg (fun e => absurd (e ▸ hw) (by decide))]), hR⟩)
      | 1, _, hw =>
        subst hw
        refine V_swIn C 71 dX7_count_6 (by decide) (by decide) (off := 65) (by decide +kernel) (by decide) ?_
        refine V_aload_n C dX7_count_71 rfl ?_
        refine V_getR C fl_X7_116 (ob_K hM) (ob_R hM 26 1027 rfl rfl) rfl dX7_count_72 ?_
        refine V_iconst C (v := nI 0) dX7_count_75 (by decide +kernel) ?_
        refine V_iald C (0) (ob_A hM 26 1027 rfl rfl) (by first | rfl | (simp only [nI_add, pk_mul]; done) | (simp only [nI_add, pk_mul]; congr 1; omega)) (by rw [ob_N hM 26 1027 rfl rfl]; omega) (by rw [ob_N hM 26 1027 rfl rfl]; decide) dX7_count_76 ?_
        rw [er]
        exact V_iret C (Nat.zero_le _) (Nat.zero_le _) dX7_count_77 (hP _ _ _ ⟨by first | (repeat (first | rw [if_pos rfl] | rw [if_neg (by decide)])); done | (repeat rw [if_neg (fun e => absurd (e ▸ hw) (by decide))]), hR⟩)
      | 2, _, hw =>
        subst hw
        refine V_swIn C 78 dX7_count_6 (by decide) (by decide) (off := 72) (by decide +kernel) (by decide) ?_
        refine V_aload_n C dX7_count_78 rfl ?_
        refine V_getR C fl_X7_146 (ob_K hM) (ob_R hM 36 1037 rfl rfl) rfl dX7_count_79 ?_
        refine V_iconst C (v := nI 0) dX7_count_82 (by decide +kernel) ?_
        refine V_iald C (0) (ob_A hM 36 1037 rfl rfl) (by first | rfl | (simp only [nI_add, pk_mul]; done) | (simp only [nI_add, pk_mul]; congr 1; omega)) (by rw [ob_N hM 36 1037 rfl rfl]; omega) (by rw [ob_N hM 36 1037 rfl rfl]; decide) dX7_count_83 ?_
        rw [ec]
        exact V_iret C (Nat.zero_le _) (Nat.zero_le _) dX7_count_84 (hP _ _ _ ⟨by first | (repeat (first | rw [if_pos rfl] | rw [if_neg (by decide)])); done | (repeat rw [if_neg (fun e => absurd (e ▸ hw) (by decide))]), hR⟩)
      | 3, _, hw =>
        subst hw
        refine V_swIn C 85 dX7_count_6 (by decide) (by decide) (off := 79) (by decide +kernel) (by decide) ?_
        refine V_aload_n C dX7_count_85 rfl ?_
        refine V_iconst C (v := nI 0) dX7_count_86 (by decide +kernel) ?_
        refine V_callV (F := fun _ => True) C (m_there (b := 0) hM (by omega) hD) mi_X7_there ml_X7_317 rfl (ob_K hM) (by decide) (by decide) (by decide) (Nat.le_of_ble_eq_true rfl) (fun _ _ => trivial) (fun v _ => clo_T v) rfl dX7_count_87 ?_
        rintro v S' I' J' ⟨hS, rfl, hI, hJ⟩
        obtain rfl := hS.symm
        obtain rfl := hI.symm
        obtain rfl := hJ.symm
        rw [hR.d]
        exact V_iret C (Nat.zero_le _) (Nat.zero_le _) dX7_count_90 (hP _ _ _ ⟨by first | (repeat (first | rw [if_pos rfl] | rw [if_neg (by decide)])); done | (repeat rw [if_neg (fun e => absurd (e ▸ hw) (by decide))]), hR⟩)
      | 4, _, hw =>
        subst hw
        refine V_swIn C 91 dX7_count_6 (by decide) (by decide) (off := 85) (by decide +kernel) (by decide) ?_
        refine V_aload_n C dX7_count_91 rfl ?_
        refine V_getR C fl_X7_83 (ob_K hM) (ob_R hM 12 1013 rfl rfl) rfl dX7_count_92 ?_
        refine V_aload_n C dX7_count_95 rfl ?_
        refine V_getI C fl_X7_243 (ob_K hM) rfl dX7_count_96 ?_
        refine V_iald C (x') (ob_A hM 12 1013 rfl rfl) x10 (by rw [ob_N hM 12 1013 rfl rfl]; omega) (by rw [ob_N hM 12 1013 rfl rfl]; decide) dX7_count_99 ?_
        rw [x13]
        exact V_iret C (Nat.zero_le _) (Nat.zero_le _) dX7_count_100 (hP _ _ _ ⟨by first | (repeat (first | rw [if_pos rfl] | rw [if_neg (by decide)])); done | (repeat rw [if_neg (fun e => absurd (e ▸ hw) (by decide))]), hR⟩)
      | 5, _, hw =>
        subst hw
        refine V_swIn C 101 dX7_count_6 (by decide) (by decide) (off := 95) (by decide +kernel) (by decide) ?_
        refine V_aload_n C dX7_count_101 rfl ?_
        refine V_getR C fl_X7_101 (ob_K hM) (ob_R hM 18 1019 rfl rfl) rfl dX7_count_102 ?_
        refine V_aload_n C dX7_count_105 rfl ?_
        refine V_getI C fl_X7_243 (ob_K hM) rfl dX7_count_106 ?_
        refine V_iald C (x') (ob_A hM 18 1019 rfl rfl) x10 (by rw [ob_N hM 18 1019 rfl rfl]; omega) (by rw [ob_N hM 18 1019 rfl rfl]; decide) dX7_count_109 ?_
        rw [x19]
        exact V_iret C (Nat.zero_le _) (Nat.zero_le _) dX7_count_110 (hP _ _ _ ⟨by first | (repeat (first | rw [if_pos rfl] | rw [if_neg (by decide)])); done | (repeat rw [if_neg (fun e => absurd (e ▸ hw) (by decide))]), hR⟩)
      | 6, _, hw =>
        subst hw
        refine V_swIn C 111 dX7_count_6 (by decide) (by decide) (off := 105) (by decide +kernel) (by decide) ?_
        refine V_aload_n C dX7_count_111 rfl ?_
        refine V_getI C fl_X7_249 (ob_K hM) rfl dX7_count_112 ?_
        rw [e24]
        exact V_iret C (Nat.zero_le _) (Nat.zero_le _) dX7_count_115 (hP _ _ _ ⟨by first | (repeat (first | rw [if_pos rfl] | rw [if_neg (by decide)])); done | (repeat rw [if_neg (fun e => absurd (e ▸ hw) (by decide))]), hR⟩)
      | 7, _, hw =>
        subst hw
        refine V_swIn C 116 dX7_count_6 (by decide) (by decide) (off := 110) (by decide +kernel) (by decide) ?_
        refine V_aload_n C dX7_count_116 rfl ?_
        refine V_getI C fl_X7_11 (ob_K hM) rfl dX7_count_117 ?_
        rw [e2]
        exact V_iret C (Nat.zero_le _) (Nat.zero_le _) dX7_count_120 (hP _ _ _ ⟨by first | (repeat (first | rw [if_pos rfl] | rw [if_neg (by decide)])); done | (repeat rw [if_neg (fun e => absurd (e ▸ hw) (by decide))]), hR⟩)
      | 8, _, hw =>
        subst hw
        refine V_swIn C 121 dX7_count_6 (by decide) (by decide) (off := 115) (by decide +kernel) (by decide) ?_
        refine V_aload_n C dX7_count_121 rfl ?_
        refine V_getI C fl_X7_428 (ob_K hM) rfl dX7_count_122 ?_
        rw [e48]
        exact V_iret C (Nat.zero_le _) (Nat.zero_le _) dX7_count_125 (hP _ _ _ ⟨by first | (repeat (first | rw [if_pos rfl] | rw [if_neg (by decide)])); done | (repeat rw [if_neg (fun e => absurd (e ▸ hw) (by decide))]), hR⟩)
      | 9, _, hw =>
        subst hw
        refine V_swIn C 126 dX7_count_6 (by decide) (by decide) (off := 120) (by decide +kernel) (by decide) ?_
        refine V_aload_n C dX7_count_126 rfl ?_
        refine V_callV (F := fun _ => True) C (m_traps hM hR hO) mi_X7_traps ml_X7_434 rfl (ob_K hM) (by decide) (by decide) (by decide) (Nat.le_of_ble_eq_true rfl) (fun _ _ => trivial) (fun v _ => clo_T v) rfl dX7_count_127 ?_
        rintro v S' I' J' ⟨hS, rfl, hI, hJ⟩
        obtain rfl := hS.symm
        obtain rfl := hI.symm
        obtain rfl := hJ.symm
        exact V_iret C (Nat.zero_le _) (Nat.zero_le _) dX7_count_130 (hP _ _ _ ⟨by first | (repeat (first | rw [if_pos rfl] | rw [if_neg (by decide)])); done | (repeat rw [if_neg (fun e => absurd (e ▸ hw) (by decide))]), hR⟩)
      | 10, _, hw =>
        subst hw
        refine V_swIn C 131 dX7_count_6 (by decide) (by decide) (off := 125) (by decide +kernel) (by decide) ?_
        refine V_aload_n C dX7_count_131 rfl ?_
        refine V_callV (F := fun _ => True) C (m_families hM hR hO) mi_X7_families ml_X7_438 rfl (ob_K hM) (by decide) (by decide) (by decide) (Nat.le_of_ble_eq_true rfl) (fun _ _ => trivial) (fun v _ => clo_T v) rfl dX7_count_132 ?_
        rintro v S' I' J' ⟨hS, rfl, hI, hJ⟩
        obtain rfl := hS.symm
        obtain rfl := hI.symm
        obtain rfl := hJ.symm
        exact V_iret C (Nat.zero_le _) (Nat.zero_le _) dX7_count_135 (hP _ _ _ ⟨by first | (repeat (first | rw [if_pos rfl] | rw [if_neg (by decide)])); done | (repeat rw [if_neg (fun e => absurd (e ▸ hw) (by decide))]), hR⟩)
  refine V_aload_n C dX7_count_0 rfl ?_
  refine V_iconst C (v := nI 0) dX7_count_1 (by decide +kernel) ?_
  refine V_putI C fl_X7_1 (ob_K hM) rfl rfl dX7_count_2 ?_
  refine V_iload_n C dX7_count_5 rfl ?_
  exact key _ hR.zr
def setT (z : SV) (T : List (Int32 × Int32)) : SV := (z.1, z.2.1, z.2.2.1, z.2.2.2.1, T)
abbrev okTold (z : SV) (n k : Int32) : Prop := wi n (nI 0) (nI 30) ∧ wi k (nI 0) (nI 100) ∧ ¬ nI z.2.2.2.2.length = nI 10
def nTold (z : SV) (n k : Int32) : SV := if okTold z n k then setT z (z.2.2.2.2 ++ [(n, k)]) else z
def aTold (z : SV) (n k : Int32) : Int32 := if okTold z n k then nI z.2.2.2.2.length else -1
theorem RefR.td {T : List (Int32 × Int32)} (h : RefR z I J) (k1 : ∀ c, c ≠ 48 → I' 1000 c = I 1000 c) (k2 : ∀ a, a ≠ 1000 → a ≠ 1050 → a ≠ 1051 → I' a = I a) (hT : tdR I' T) : RefR (setT z T) I' J := by
  obtain ⟨h1, h2, h3, h4, h5, h6, h7, h8, h9, h10, h11⟩ := h
  have eD : ∀ d, refD I' J d = refD I J d := fun d => refD_congr (fun a g1 g2 => k2 a (by omega) (by omega) (by omega))
  have eQ : ∀ d, refQ I' J d = refQ I J d := fun d => by unfold refQ; rw [eD]
  exact ⟨(eQ 0).trans h1, fun d hd => by rw [eD]; exact h2 d hd, fun m hm => mkR_cg (k2 1052 (by decide) (by decide) (by decide)) (eQ _) (h3 m hm), RL_cg (k1 10 (by decide)) (fun a g1 g2 => k2 a (by omega) (by omega) (by omega)) h4, opR_cg (k1 10 (by decide)) (k2 1019 (by decide) (by decide) (by decide)) h5, (k1 24 (by decide)).trans h6, (k1 44 (by decide)).trans h7, (k1 45 (by decide)).trans h8, tpR_cg (k1 2 (by decide)) (k2 1002 (by decide) (by decide) (by decide)) h9, hT, h11⟩
theorem gd_app {α : Type} {T : List α} {p d : α} : (T ++ [p]).getD T.length d = p := by simp
theorem gd_app2 {α : Type} {T : List α} {p d : α} {i : Nat} (h : i < T.length) : (T ++ [p]).getD i d = T.getD i d := by simp [List.getElem?_append_left h]
set_option maxRecDepth 100000 in
theorem m_told (hM : Ob S 7 1000) (hR : RefR z I J) (hO : OkR z) (n k : Int32) : Mn l yX7_told cX7_told 3 (some .int) 1 [.ref 1000, .int n, .int k] S I J (fun v I' J' => v = some (.int (aTold z n k)) ∧ RefR (nTold z n k) I' J') := by
  refine Mn.of (by decide) (fun ad => by simp [lg_sl, vv, Value.category]) (fun X P hP hn C => ?_)
  have key : ∀ I0, RefR z I0 J → V X P 0 0 5 [some (.ref 1000), some (.int n), some (.int k)] [] S I0 J := by
    intro I0 hR
    obtain ⟨e48, eT⟩ := hR.2.2.2.2.2.2.2.2.2.1
    have h10 := hO.2.2.2.2.2.1
    have last : okTold z n k → V X P 0 0 36 [some (.ref 1000), some (.int n), some (.int k)] [] S I0 J := by
      intro ok
      obtain ⟨m, hm⟩ : ∃ m, m = z.2.2.2.2.length := ⟨_, rfl⟩
      have hm2 : m < 10 := by
        refine Nat.lt_of_le_of_ne (by omega) (fun e => ok.2.2 (by rw [← hm, e]))
      have fin : RefR (nTold z n k) (up2 (up2 (up2 I0 1050 m n) 1051 m k) 1000 48 (I0 1000 48 + nI 1)) J := by
        rw [nTold, if_pos ok]
        refine hR.td (fun c hc => o_ne hc) (fun a g1 g2 g3 => by rw [up2_ne _ _ _ g1, up2_ne _ _ _ g3, up2_ne _ _ _ g2]) ⟨?_, fun i hi => ?_⟩
        · rw [o_at, e48, nI_add, List.length_append]
          rfl
        · rw [List.length_append] at hi
          have hi : i < m + 1 := by rw [hm]; exact hi
          show va_up (I0 1050) m n i = _ ∧ va_up (I0 1051) m k i = _
          by_cases e : i = m
          · subst e
            rw [va_up_self, va_up_self, hm, gd_app]
            exact ⟨rfl, rfl⟩
          · rw [va_up_ne _ _ e, va_up_ne _ _ e, gd_app2 (by omega)]
            exact eT i (by omega)
      have e1 : I0 1000 48 = nI m := by rw [e48, hm]
      have e2 : nI (m + 1) - nI 1 = nI m := by rw [pk_sub (by omega)]; rfl
      refine V_aload_n C dX7_told_36 rfl ?_
      refine V_getR C fl_X7_176 (ob_K hM) (ob_R hM 49 1050 rfl rfl) rfl dX7_told_37 ?_
      refine V_aload_n C dX7_told_40 rfl ?_
      refine V_getI C fl_X7_428 (ob_K hM) rfl dX7_told_41 ?_
      refine V_iload_n C dX7_told_44 rfl ?_
      refine V_iast C (m) (ob_A hM 49 1050 rfl rfl) e1 (by rw [ob_N hM 49 1050 rfl rfl]; omega) (by rw [ob_N hM 49 1050 rfl rfl]; decide) dX7_told_45 ?_
      refine V_aload_n C dX7_told_46 rfl ?_
      refine V_getR C fl_X7_179 (ob_K hM) (ob_R hM 50 1051 rfl rfl) rfl dX7_told_47 ?_
      refine V_aload_n C dX7_told_50 rfl ?_
      refine V_getI C fl_X7_428 (ob_K hM) rfl dX7_told_51 ?_
      refine V_iload_n C dX7_told_54 rfl ?_
      refine V_iast C (m) (ob_A hM 50 1051 rfl rfl) e1 (by rw [ob_N hM 50 1051 rfl rfl]; omega) (by rw [ob_N hM 50 1051 rfl rfl]; decide) dX7_told_55 ?_
      refine V_aload_n C dX7_told_56 rfl ?_
      refine V_dup C dX7_told_57 rfl ?_
      refine V_getI C fl_X7_428 (ob_K hM) rfl dX7_told_58 ?_
      refine V_iconst C (v := nI 1) dX7_told_61 (by decide +kernel) ?_
      refine V_iadd C dX7_told_62 ?_
      refine V_putI C fl_X7_428 (ob_K hM) rfl rfl dX7_told_63 ?_
      refine V_aload_n C dX7_told_66 rfl ?_
      refine V_getI C fl_X7_428 (ob_K hM) rfl dX7_told_67 ?_
      refine V_iconst C (v := nI 1) dX7_told_70 (by decide +kernel) ?_
      refine V_isub C dX7_told_71 ?_
      exact V_iret C (Nat.zero_le _) (Nat.zero_le _) dX7_told_72 (hP _ _ _ ⟨by rw [o_at]; show some (Value.int (I0 1000 48 + nI 1 - nI 1)) = _; rw [e1, nI_add, e2, aTold, if_pos ok, hm], fin⟩)
    refine V_iload_n C dX7_told_5 rfl ?_
    refine V_iconst C (v := nI 0) dX7_told_6 (by decide +kernel) ?_
    refine V_bipush C (v := nI 30) dX7_told_7 (by decide +kernel) ?_
    refine V_callS (F := fun _ => True) C (m_within _ _ _) ms_X7_within ml_X7_301 rfl (by decide) (by decide) (Nat.le_of_ble_eq_true rfl) (fun _ _ => trivial) (fun v _ => clo_T v) rfl dX7_told_9 ?_
    rintro v S' I' J' ⟨hS, rfl, hI, hJ⟩
    obtain rfl := hS.symm
    obtain rfl := hI.symm
    obtain rfl := hJ.symm
    refine V_if_eq C 34 dX7_told_12 (by decide) (fun h12 => ?_) (fun h12 => ?_)
    · refine V_iconst C (v := (-1)) dX7_told_34 (by decide +kernel) ?_
      exact V_iret C (Nat.zero_le _) (Nat.zero_le _) dX7_told_35 (hP _ _ _ (by have no : ¬ okTold z n k := (by first | exact fun q => (bI_0.mp h12) q.1 | exact fun q => (bI_0.mp h22) q.2.1 | exact fun q => q.2.2 h31); exact ⟨by rw [aTold, if_neg no], by rw [nTold, if_neg no]; exact hR⟩))
    · refine V_iload_n C dX7_told_15 rfl ?_
      refine V_iconst C (v := nI 0) dX7_told_16 (by decide +kernel) ?_
      refine V_bipush C (v := nI 100) dX7_told_17 (by decide +kernel) ?_
      refine V_callS (F := fun _ => True) C (m_within _ _ _) ms_X7_within ml_X7_301 rfl (by decide) (by decide) (Nat.le_of_ble_eq_true rfl) (fun _ _ => trivial) (fun v _ => clo_T v) rfl dX7_told_19 ?_
      rintro v S' I' J' ⟨hS, rfl, hI, hJ⟩
      obtain rfl := hS.symm
      obtain rfl := hI.symm
      obtain rfl := hJ.symm
      refine V_if_eq C 34 dX7_told_22 (by decide) (fun h22 => ?_) (fun h22 => ?_)
      · refine V_iconst C (v := (-1)) dX7_told_34 (by decide +kernel) ?_
        exact V_iret C (Nat.zero_le _) (Nat.zero_le _) dX7_told_35 (hP _ _ _ (by have no : ¬ okTold z n k := (by first | exact fun q => (bI_0.mp h12) q.1 | exact fun q => (bI_0.mp h22) q.2.1 | exact fun q => q.2.2 h31); exact ⟨by rw [aTold, if_neg no], by rw [nTold, if_neg no]; exact hR⟩))
      · refine V_aload_n C dX7_told_25 rfl ?_
        refine V_getI C fl_X7_428 (ob_K hM) rfl dX7_told_26 ?_
        refine V_bipush C (v := nI 10) dX7_told_29 (by decide +kernel) ?_
        rw [e48]
        refine V_icmp_ne C 36 dX7_told_31 (by decide) (fun h31 => ?_) (fun h31 => ?_)
        · exact last ⟨Decidable.not_not.mp (fun q => h12 (bI_0.mpr q)), Decidable.not_not.mp (fun q => h22 (bI_0.mpr q)), h31⟩
        · refine V_iconst C (v := (-1)) dX7_told_34 (by decide +kernel) ?_
          exact V_iret C (Nat.zero_le _) (Nat.zero_le _) dX7_told_35 (hP _ _ _ (by have no : ¬ okTold z n k := (by first | exact fun q => (bI_0.mp h12) q.1 | exact fun q => (bI_0.mp h22) q.2.1 | exact fun q => q.2.2 h31); exact ⟨by rw [aTold, if_neg no], by rw [nTold, if_neg no]; exact hR⟩))
  refine V_aload_n C dX7_told_0 rfl ?_
  refine V_iconst C (v := nI 0) dX7_told_1 (by decide +kernel) ?_
  refine V_putI C fl_X7_1 (ob_K hM) rfl rfl dX7_told_2 ?_
  exact key _ hR.zr
set_option maxRecDepth 100000 in
theorem m_forget (hM : Ob S 7 1000) (hR : RefR z I J) : Mn l yX7_forget cX7_forget 2 (some .int) 0 [.ref 1000] S I J (fun v I' J' => v = some (.int (nI z.2.2.2.2.length)) ∧ RefR (setT z []) I' J') := by
  refine Mn.of (by decide) (fun ad => by simp [lg_sl, vv, Value.category]) (fun X P hP hn C => ?_)
  have key : ∀ I0, RefR z I0 J → V X P 0 0 5 [some (.ref 1000), none] [] S I0 J := by
    intro I0 hR
    obtain ⟨e48, eT⟩ := hR.2.2.2.2.2.2.2.2.2.1
    have fin : RefR (setT z []) (up2 I0 1000 48 (nI 0)) J := hR.td (fun c hc => o_ne hc) (fun a g1 _ _ => up2_ne _ _ _ g1) ⟨o_at, fun i hi => absurd hi (Nat.not_lt_zero _)⟩
    refine V_aload_n C dX7_forget_5 rfl ?_
    refine V_getI C fl_X7_428 (ob_K hM) rfl dX7_forget_6 ?_
    refine V_istore_n C dX7_forget_9 (hn _ (by decide)) ?_
    refine V_aload_n C dX7_forget_10 rfl ?_
    refine V_iconst C (v := nI 0) dX7_forget_11 (by decide +kernel) ?_
    refine V_putI C fl_X7_428 (ob_K hM) rfl rfl dX7_forget_12 ?_
    refine V_iload_n C dX7_forget_15 rfl ?_
    exact V_iret C (Nat.zero_le _) (Nat.zero_le _) dX7_forget_16 (hP _ _ _ ⟨by rw [e48], fin⟩)
  refine V_aload_n C dX7_forget_0 rfl ?_
  refine V_iconst C (v := nI 0) dX7_forget_1 (by decide +kernel) ?_
  refine V_putI C fl_X7_1 (ob_K hM) rfl rfl dX7_forget_2 ?_
  exact key _ hR.zr
def bkN (z : SV) : Nat → Int32
  | 0 => 0
  | n + 1 => bkN z n + (if (if z.1.1 5 n = 0 then sbD z n else -1) ≤ 0 then nI 0 else nI 10000 / (if z.1.1 5 n = 0 then sbD z n else -1))
set_option maxRecDepth 100000 in
theorem m_back (hM : Ob S 7 1000) (hR : RefR z I J) (hO : OkR z) : Mn l yX7_back cX7_back 4 (some .int) 4 [.ref 1000] S I J (fun v I' J' => v = some (.int (bkN z (cmD z.1.1))) ∧ RefR z I' J') := by
  refine Mn.of (by decide) (fun ad => by simp [lg_sl, vv, Value.category]) (fun X P hP hn C => ?_)
  have hc30 := hO.1.1.2.2.2.2.1
  have loop : ∀ (c x : Nat) (x3 : Option Value) (In : HI), x + c = cmD z.1.1 → RefR z In J → V X P 0 0 9 [some (.ref 1000), some (.int (bkN z x)), some (.int (nI x)), x3] [] S In J := by
    intro c
    induction c with
    | zero =>
      intro x x3 In hx hR
      have hx : x = cmD z.1.1 := hx
      have hcm : In 1037 0 = nI (cmD z.1.1) := by rw [hR.cm0]; exact hO.1.1.2.2.2.1
      subst hx
      refine V_iload_n C dX7_back_9 rfl ?_
      refine V_aload_n C dX7_back_10 rfl ?_
      refine V_getR C fl_X7_146 (ob_K hM) (ob_R hM 36 1037 rfl rfl) rfl dX7_back_11 ?_
      refine V_iconst C (v := nI 0) dX7_back_14 (by decide +kernel) ?_
      refine V_iald C (0) (ob_A hM 36 1037 rfl rfl) (by first | rfl | (simp only [nI_add, pk_mul]; done) | (simp only [nI_add, pk_mul]; congr 1; omega)) (by rw [ob_N hM 36 1037 rfl rfl]; omega) (by rw [ob_N hM 36 1037 rfl rfl]; decide) dX7_back_15 ?_
      refine V_icmp_ge C 60 dX7_back_16 (by decide) (fun h16 => ?_) (fun h16 => absurd (by rw [hcm]; exact Int32.le_refl _) h16)
      refine V_iload_n C dX7_back_60 rfl ?_
      exact V_iret C (Nat.zero_le _) (Nat.zero_le _) dX7_back_61 (hP _ _ _ ⟨rfl, hR⟩)
    | succ c ih =>
      intro x x3 In hx hR
      have hcm : In 1037 0 = nI (cmD z.1.1) := by rw [hR.cm0]; exact hO.1.1.2.2.2.1
      have hD := (hR.ok hO).1
      have hu : x < cmD (refD In J 0) := by rw [hR.d]; omega
      have hu2 : x < cmD z.1.1 := by omega
      have e5 : bI (refD In J 0 5 x = 0) = 0 ↔ ¬ z.1.1 5 x = 0 := by rw [bI_0, hR.d]
      have rest : ∀ (v : Int32) (I2 : HI), v = (if z.1.1 5 x = 0 then sbD z x else -1) → RefR z I2 J → V X P 0 0 37 [some (.ref 1000), some (.int (bkN z x)), some (.int (nI x)), x3] [.int v] S I2 J := by
        intro v I2 hv hR2
        have e : bkN z (x + 1) = bkN z x + (if v ≤ 0 then nI 0 else nI 10000 / v) := by rw [bkN, ← hv]
        have nx := fun I3 (h : RefR z I3 J) x3 => ih (x + 1) x3 I3 (by omega) h
        rw [e] at nx
        refine V_istore_n C dX7_back_37 (hn _ (by decide)) ?_
        refine V_iload_n C dX7_back_38 rfl ?_
        refine V_iload_n C dX7_back_39 rfl ?_
        refine V_tern_if_le (vt := nI 0) (vf := nI 10000 / v) (pm := 52) C 51 dX7_back_40 (by decide) (fun h40 k => ?_) (fun h40 k => ?_) ?_
        · refine V_iconst C (v := nI 0) dX7_back_51 (by decide +kernel) ?_
          exact k
        · refine V_sipush C (v := nI 10000) dX7_back_43 (by decide +kernel) ?_
          refine V_iload_n C dX7_back_46 rfl ?_
          refine V_idiv C dX7_back_47 (fun q => h40 (by rw [q]; decide)) ?_
          refine V_goto C 52 dX7_back_48 (by decide) ?_
          exact k
        refine V_iadd C dX7_back_52 ?_
        refine V_istore_n C dX7_back_53 (hn _ (by decide)) ?_
        refine V_iincU C dX7_back_54 rfl (hn _ (by decide)) ?_
        refine V_goto C 9 dX7_back_57 (by decide) ?_
        exact nx _ hR2 _
      refine V_iload_n C dX7_back_9 rfl ?_
      refine V_aload_n C dX7_back_10 rfl ?_
      refine V_getR C fl_X7_146 (ob_K hM) (ob_R hM 36 1037 rfl rfl) rfl dX7_back_11 ?_
      refine V_iconst C (v := nI 0) dX7_back_14 (by decide +kernel) ?_
      refine V_iald C (0) (ob_A hM 36 1037 rfl rfl) (by first | rfl | (simp only [nI_add, pk_mul]; done) | (simp only [nI_add, pk_mul]; congr 1; omega)) (by rw [ob_N hM 36 1037 rfl rfl]; omega) (by rw [ob_N hM 36 1037 rfl rfl]; decide) dX7_back_15 ?_
      refine V_icmp_ge C 60 dX7_back_16 (by decide) (fun h16 => absurd h16 (by rw [hcm]; exact nI_ge (by omega) (by omega))) (fun h16 => ?_)
      refine V_aload_n C dX7_back_19 rfl ?_
      refine V_iconst C (v := nI 0) dX7_back_20 (by decide +kernel) ?_
      refine V_iload_n C dX7_back_21 rfl ?_
      refine V_callV (F := fun _ => True) C (m_isThere (b := 0) hM (by omega) hD hu) mi_X7_isThere ml_X7_372 rfl (ob_K hM) (by decide) (by decide) (by decide) (Nat.le_of_ble_eq_true rfl) (fun _ _ => trivial) (fun v _ => clo_T v) rfl dX7_back_22 ?_
      rintro v S' I' J' ⟨hS, rfl, hI, hJ⟩
      obtain rfl := hS.symm
      obtain rfl := hI.symm
      obtain rfl := hJ.symm
      refine V_if_eq C 36 dX7_back_25 (by decide) (fun h25 => ?_) (fun h25 => ?_)
      · refine V_iconst C (v := (-1)) dX7_back_36 (by decide +kernel) ?_
        first | exact rest _ _ (by rw [if_neg (e5.mp h25)]) hR | exact rest _ _ (by rw [if_pos (Decidable.not_not.mp (fun q => h25 (e5.mpr q)))]) hR2
      · refine V_aload_n C dX7_back_28 rfl ?_
        refine V_iload_n C dX7_back_29 rfl ?_
        refine V_callV (F := fun _ => True) C (m_seenBy hM hR hO hu2) mi_X7_seenBy ml_X7_403 rfl (ob_K hM) (by decide) (by decide) (by decide) (Nat.le_of_ble_eq_true rfl) (fun _ _ => trivial) (fun v _ => clo_T v) rfl dX7_back_30 ?_
        rintro v S' I2 J2 ⟨hS, rfl, k2, hJ⟩
        obtain rfl := hS.symm
        obtain rfl := hJ.symm
        have hR2 := hR.kp k2
        refine V_goto C 37 dX7_back_33 (by decide) ?_
        first | exact rest _ _ (by rw [if_neg (e5.mp h25)]) hR | exact rest _ _ (by rw [if_pos (Decidable.not_not.mp (fun q => h25 (e5.mpr q)))]) hR2
  refine V_aload_n C dX7_back_0 rfl ?_
  refine V_iconst C (v := nI 0) dX7_back_1 (by decide +kernel) ?_
  refine V_putI C fl_X7_1 (ob_K hM) rfl rfl dX7_back_2 ?_
  refine V_iconst C (v := nI 0) dX7_back_5 (by decide +kernel) ?_
  refine V_istore_n C dX7_back_6 (hn _ (by decide)) ?_
  refine V_iconst C (v := nI 0) dX7_back_7 (by decide +kernel) ?_
  refine V_istore_n C dX7_back_8 (hn _ (by decide)) ?_
  exact loop _ 0 _ _ (Nat.zero_add _) hR.zr
end M20
