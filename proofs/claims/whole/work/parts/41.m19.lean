/-! the reference's calls that ask -/
section M19
variable {l : Launch} {S : HS} {I I' : HI} {J J' : HJ} {z : SV}
theorem sw_lo {x : Int32} (h : x < 0) : x.toInt < 0 := Int32.lt_iff_toInt_lt.mp h
theorem sw_hi {x : Int32} {n : Nat} (h : nI (n + 1) ≤ x) (hn : n + 1 < 2 ^ 31) : (n : Int) < x.toInt := by
  have := Int32.le_iff_toInt_le.mp h
  rw [nI_toInt hn] at this
  omega
theorem isL_ex {D : DV} {r : Int32} (h : isL D r) (hD : rOk D) : ∃ k, k < cmD D ∧ k < 30 ∧ r = nI k := by
  obtain ⟨h1, h2⟩ := h
  rw [hD.2.2.2.1] at h2
  have := hD.2.2.2.2.1
  rcases pk_ix r (n := cmD D) (by omega) with q | q | ⟨j, h3, h4⟩
  · exact absurd q (Int32.not_lt.mpr h1)
  · exact absurd h2 (Int32.not_lt.mpr q)
  · exact ⟨j, h3, by omega, h4⟩
theorem wi1_ex {x : Int32} {n : Nat} (hn : n < 2 ^ 31) (h : wi x (nI 1) (nI n)) : ∃ k, 1 ≤ k ∧ k ≤ n ∧ x = nI k := by
  obtain ⟨k, h1, h2⟩ := wi_ex hn ⟨Int32.le_trans (by decide) h.1, h.2⟩
  refine ⟨k, ?_, h1, h2⟩
  have := h.1
  rw [h2] at this
  exact (nI_leI (by omega) (by omega)).mp this
theorem OkR.q {q : QV} (h : OkR z) (hq : okD q.1) : OkR (setQ z q) := ⟨hq, h.2⟩
set_option maxRecDepth 100000 in
theorem m_steps (hM : Ob S 7 1000) (hR : RefR z I J) (hO : OkR z) (n : Int32) : Mn l yX7_steps cX7_steps 3 (some .int) 6 [.ref 1000, .int n] S I J (fun v I' J' => v = some (.int (aSteps z n)) ∧ RefR (nSteps z n) I' J') := by
  refine Mn.of (by decide) (fun ad => by simp [lg_sl, vv, Value.category]) (fun X P hP hn C => ?_)
  have key : ∀ I0, RefR z I0 J → V X P 0 0 5 [some (.ref 1000), some (.int n), none] [] S I0 J := by
    intro I0 hR
    have es := hR.st0
    have last : okSteps z n → V X P 0 0 31 [some (.ref 1000), some (.int n), none] [] S I0 J := by
      intro ok
      obtain ⟨m, hm1, hm, em⟩ := wi1_ex (by omega) ok.1
      have ec : cl n = m := by rw [em]; exact nI_clamp (by omega)
      have loop : ∀ (c x : Nat) (In : HI) (Jn : HJ), x + c = m → RefR (setQ z (itN (stZ z z.2.2.1.2.1) x z.1)) In Jn → In 1000 25 = z.2.2.1.2.1 → V X P 0 0 41 [some (.ref 1000), some (.int n), some (.int (nI x))] [] S In Jn := by
        intro c
        induction c with
        | zero =>
          intro x In Jn hx h1 h2
          have hx : x = m := hx
          subst hx
          have e2 : nSteps z n = setQ z (itN (stZ z z.2.2.1.2.1) x z.1) := by rw [nSteps, if_pos ok, ec]
          refine V_iload_n C dX7_steps_41 rfl ?_
          refine V_iload_n C dX7_steps_42 rfl ?_
          refine V_icmp_ge C 57 dX7_steps_43 (by decide) (fun h43 => ?_) (fun h43 => absurd (by rw [em]; exact Int32.le_refl _) h43)
          refine V_aload_n C dX7_steps_57 rfl ?_
          refine V_getR C fl_X7_137 (ob_K hM) (ob_R hM 33 1034 rfl rfl) rfl dX7_steps_58 ?_
          refine V_iconst C (v := nI 0) dX7_steps_61 (by decide +kernel) ?_
          refine V_iald C (0) (ob_A hM 33 1034 rfl rfl) (by first | rfl | (simp only [nI_add, pk_mul]; done) | (simp only [nI_add, pk_mul]; congr 1; omega)) (by rw [ob_N hM 33 1034 rfl rfl]; omega) (by rw [ob_N hM 33 1034 rfl rfl]; decide) dX7_steps_62 ?_
          exact V_iret C (Nat.zero_le _) (Nat.zero_le _) dX7_steps_63 (hP _ _ _ ⟨by rw [aSteps, if_pos ok, e2, ← h1.st0], by rw [e2]; exact h1⟩)
        | succ c ih =>
          intro x In Jn hx h1 h2
          have hk : okD (itN (stZ z z.2.2.1.2.1) x z.1).1 := itN_ok hO x _ hO.1
          have hO2 := hO.q hk
          have hD2 := h1.ok hO2
          refine V_iload_n C dX7_steps_41 rfl ?_
          refine V_iload_n C dX7_steps_42 rfl ?_
          refine V_icmp_ge C 57 dX7_steps_43 (by decide) (fun h43 => absurd h43 (by rw [em]; exact nI_ge (by omega) (by omega))) (fun h43 => ?_)
          refine V_aload_n C dX7_steps_46 rfl ?_
          refine V_iconst C (v := nI 0) dX7_steps_47 (by decide +kernel) ?_
          refine V_callV (F := fun _ => True) C (m_steps1 (b := 0) hM (by omega) (h1.rG hO2 h2) (fun f => hO.2.2.1 _ f) h1.2.1 hD2) mi_X7_steps1 ml_X7_394 rfl (ob_K hM) (by decide) (by decide) (by decide) (Nat.le_of_ble_eq_true rfl) (fun _ _ => trivial) (fun v _ => clo_T v) rfl dX7_steps_48 ?_
          rintro v S' I2 J2 ⟨hS, rfl, e, f⟩
          obtain rfl := hS.symm
          rw [h1.1, h1.2.2.2.2.2.2.2.1] at e
          have e' : refQ I2 J2 0 = itN (stZ z z.2.2.1.2.1) (x + 1) z.1 := by rw [itN_s]; exact e
          have hk2 : okD (itN (stZ z z.2.2.1.2.1) (x + 1) z.1).1 := itN_ok hO (x + 1) _ hO.1
          refine V_iincU C dX7_steps_51 rfl (hn _ (by decide)) ?_
          refine V_goto C 41 dX7_steps_54 (by decide) ?_
          exact ih (x + 1) _ _ (by omega) (h1.fr0 f e' hk2.1.2.2.2.2.1) (by rw [f.1 1000 (by omega)]; exact h2)
      have e24 : I0 1000 24 = z.2.2.1.2.1 := hR.2.2.2.2.2.1
      refine V_aload_n C dX7_steps_31 rfl ?_
      refine V_aload_n C dX7_steps_32 rfl ?_
      refine V_getI C fl_X7_249 (ob_K hM) rfl dX7_steps_33 ?_
      refine V_putI C fl_X7_298 (ob_K hM) rfl rfl dX7_steps_36 ?_
      refine V_iconst C (v := nI 0) dX7_steps_39 (by decide +kernel) ?_
      refine V_istore_n C dX7_steps_40 (hn _ (by decide)) ?_
      rw [e24]
      exact loop m 0 _ _ (by omega) (hR.kp (Kp.o (Or.inr rfl))) o_at
    refine V_iload_n C dX7_steps_5 rfl ?_
    refine V_iconst C (v := nI 1) dX7_steps_6 (by decide +kernel) ?_
    refine V_bipush C (v := nI 100) dX7_steps_7 (by decide +kernel) ?_
    refine V_callS (F := fun _ => True) C (m_within _ _ _) ms_X7_within ml_X7_301 rfl (by decide) (by decide) (Nat.le_of_ble_eq_true rfl) (fun _ _ => trivial) (fun v _ => clo_T v) rfl dX7_steps_9 ?_
    rintro v S' I' J' ⟨hS, rfl, hI, hJ⟩
    obtain rfl := hS.symm
    obtain rfl := hI.symm
    obtain rfl := hJ.symm
    refine V_if_eq C 29 dX7_steps_12 (by decide) (fun h12 => ?_) (fun h12 => ?_)
    · refine V_iconst C (v := (-1)) dX7_steps_29 (by decide +kernel) ?_
      exact V_iret C (Nat.zero_le _) (Nat.zero_le _) dX7_steps_30 (hP _ _ _ (by have no : ¬ okSteps z n := (by first | exact fun q => (bI_0.mp h12) q.1 | exact fun q => h26 q.2); exact ⟨by rw [aSteps, if_neg no], by rw [nSteps, if_neg no]; exact hR⟩))
    · refine V_aload_n C dX7_steps_15 rfl ?_
      refine V_getR C fl_X7_137 (ob_K hM) (ob_R hM 33 1034 rfl rfl) rfl dX7_steps_16 ?_
      refine V_iconst C (v := nI 0) dX7_steps_19 (by decide +kernel) ?_
      refine V_iald C (0) (ob_A hM 33 1034 rfl rfl) (by first | rfl | (simp only [nI_add, pk_mul]; done) | (simp only [nI_add, pk_mul]; congr 1; omega)) (by rw [ob_N hM 33 1034 rfl rfl]; omega) (by rw [ob_N hM 33 1034 rfl rfl]; decide) dX7_steps_20 ?_
      rw [es]
      refine V_iload_n C dX7_steps_21 rfl ?_
      refine V_iadd C dX7_steps_22 ?_
      refine V_sipush C (v := nI 9999) dX7_steps_23 (by decide +kernel) ?_
      refine V_icmp_le C 31 dX7_steps_26 (by decide) (fun h26 => ?_) (fun h26 => ?_)
      · exact last ⟨Decidable.not_not.mp (fun q => h12 (bI_0.mpr q)), h26⟩
      · refine V_iconst C (v := (-1)) dX7_steps_29 (by decide +kernel) ?_
        exact V_iret C (Nat.zero_le _) (Nat.zero_le _) dX7_steps_30 (hP _ _ _ (by have no : ¬ okSteps z n := (by first | exact fun q => (bI_0.mp h12) q.1 | exact fun q => h26 q.2); exact ⟨by rw [aSteps, if_neg no], by rw [nSteps, if_neg no]; exact hR⟩))
  refine V_aload_n C dX7_steps_0 rfl ?_
  refine V_iconst C (v := nI 0) dX7_steps_1 (by decide +kernel) ?_
  refine V_putI C fl_X7_1 (ob_K hM) rfl rfl dX7_steps_2 ?_
  exact key _ hR.zr
abbrev okHas (z : SV) (r s : Int32) : Prop := isR z.1.1 r ∧ wi s (nI 0) (nI 7)
def hasV (D : DV) (r s : Int32) : Int32 := if nI 5 ≤ s then (if s = nI 5 then D 1 (cl r) else if s = nI 6 then aD D (cl r) else if wayD D (cl r) = 0 then nI 1 else nI 0) else D 4 (5 * cl r + cl s)
set_option maxRecDepth 100000 in
theorem m_has (hM : Ob S 7 1000) (hR : RefR z I J) (hO : OkR z) (r s : Int32) : Mn l yX7_has cX7_has 3 (some .int) 1 [.ref 1000, .int r, .int s] S I J (fun v I' J' => (∃ x, v = some (.int x) ∧ (okHas z r s → x = hasV z.1.1 r s)) ∧ I' 1000 0 = bI (¬ okHas z r s) ∧ RefR z I' J') := by
  refine Mn.of (by decide) (fun ad => by simp [lg_sl, vv, Value.category]) (fun X P hP hn C => ?_)
  by_cases ok : okHas z r s
  · obtain ⟨k, hk, hk2, ek⟩ := isR_ex ok.1 hO.1.1
    obtain ⟨m, hm, em⟩ := wi_ex (by omega) ok.2
    have ec : cl r = k := by rw [ek]; exact nI_clamp (by omega)
    have ec2 : cl s = m := by rw [em]; exact nI_clamp (by omega)
    have hR2 : RefR z (up2 I 1000 0 (nI 0)) J := hR.zr
    have e0 : bI (¬ okHas z r s) = 0 := bI_f (fun q => q ok)
    have e4 : ¬ nI 5 ≤ s → m < 5 ∧ I 1031 (5 * k + m) = z.1.1 4 (5 * k + m) := fun h => by
      rw [em] at h
      have hm5 : m < 5 := Nat.lt_of_not_le (fun q => h (nI_le q (by omega)))
      refine ⟨hm5, ?_⟩
      rw [← hR.d, rD4 (by omega), Nat.mul_zero, Nat.zero_add]
    have e1 : I 1028 k = z.1.1 1 k := by
      rw [← hR.d]
      simp only [refD, if_pos hk2, Nat.mul_zero, Nat.zero_add]
    refine V_aload_n C dX7_has_0 rfl ?_
    refine V_aload_n C dX7_has_1 rfl ?_
    refine V_iload_n C dX7_has_2 rfl ?_
    refine V_callV (F := fun _ => True) C (m_isRing hM hR r) mi_X7_isRing ml_X7_305 rfl (ob_K hM) (by decide) (by decide) (by decide) (Nat.le_of_ble_eq_true rfl) (fun _ _ => trivial) (fun v _ => clo_T v) rfl dX7_has_3 ?_
    rintro v S' I' J' ⟨hS, rfl, hI, hJ⟩
    obtain rfl := hS.symm
    obtain rfl := hI.symm
    obtain rfl := hJ.symm
    refine V_if_eq C 23 dX7_has_6 (by decide) (fun h6 => absurd h6 (by rw [bI_0]; exact fun q => q ok.1)) (fun h6 => ?_)
    refine V_iload_n C dX7_has_9 rfl ?_
    refine V_iconst C (v := nI 0) dX7_has_10 (by decide +kernel) ?_
    refine V_bipush C (v := nI 7) dX7_has_11 (by decide +kernel) ?_
    refine V_callS (F := fun _ => True) C (m_within _ _ _) ms_X7_within ml_X7_301 rfl (by decide) (by decide) (Nat.le_of_ble_eq_true rfl) (fun _ _ => trivial) (fun v _ => clo_T v) rfl dX7_has_13 ?_
    rintro v S' I' J' ⟨hS, rfl, hI, hJ⟩
    obtain rfl := hS.symm
    obtain rfl := hI.symm
    obtain rfl := hJ.symm
    refine V_if_eq C 23 dX7_has_16 (by decide) (fun h16 => absurd h16 (by rw [bI_0]; exact fun q => q ok.2)) (fun h16 => ?_)
    refine V_iconst C (v := nI 0) dX7_has_19 (by decide +kernel) ?_
    refine V_goto C 24 dX7_has_20 (by decide) ?_
    refine V_putI C fl_X7_1 (ob_K hM) rfl rfl dX7_has_24 ?_
    refine V_aload_n C dX7_has_27 rfl ?_
    refine V_getI C fl_X7_1 (ob_K hM) rfl dX7_has_28 ?_
    rw [o_at]
    refine V_if_le C 36 dX7_has_31 (by decide) (fun h31 => ?_) (fun h31 => absurd (by decide) h31)
    refine V_iload_n C dX7_has_36 rfl ?_
    refine V_iconst C (v := nI 5) dX7_has_37 (by decide +kernel) ?_
    refine V_icmp_ge C 54 dX7_has_38 (by decide) (fun h38 => ?_) (fun h38 => ?_)
    · refine V_iload_n C dX7_has_54 rfl ?_
      refine V_iconst C (v := nI 5) dX7_has_55 (by decide +kernel) ?_
      refine V_icmp_ne C 68 dX7_has_56 (by decide) (fun h56 => ?_) (fun h56 => ?_)
      · refine V_iload_n C dX7_has_68 rfl ?_
        refine V_bipush C (v := nI 6) dX7_has_69 (by decide +kernel) ?_
        refine V_icmp_ne C 83 dX7_has_71 (by decide) (fun h71 => ?_) (fun h71 => ?_)
        · refine V_aload_n C dX7_has_83 rfl ?_
          refine V_iconst C (v := nI 0) dX7_has_84 (by decide +kernel) ?_
          refine V_iload_n C dX7_has_85 rfl ?_
          rw [ek]
          refine V_callV (F := fun _ => True) C (m_wayOf (b := 0) hM (by omega) (by rw [hR2.d]; exact hO.1.1) (by rw [hR2.d]; exact hk)) mi_X7_wayOf ml_X7_382 rfl (ob_K hM) (by decide) (by decide) (by decide) (Nat.le_of_ble_eq_true rfl) (fun _ _ => trivial) (fun v _ => clo_T v) rfl dX7_has_86 ?_
          rintro v S' I' J' ⟨hS, rfl, hI, hJ⟩
          obtain rfl := hS.symm
          obtain rfl := hI.symm
          obtain rfl := hJ.symm
          rw [hR2.d]
          refine V_if_ne C 96 dX7_has_89 (by decide) (fun h89 => ?_) (fun h89 => ?_)
          · refine V_iconst C (v := nI 0) dX7_has_96 (by decide +kernel) ?_
            exact V_iret C (Nat.zero_le _) (Nat.zero_le _) dX7_has_97 (hP _ _ _ ⟨⟨_, rfl, fun _ => by unfold hasV; rw [ec, ec2]; first | (rw [if_neg h38]; exact (e4 h38).2) | (rw [if_pos h38, if_pos h56]; exact e1) | (rw [if_pos h38, if_neg h56, if_pos h71, r_aD (J := J) hk2, hR2.d]) | (rw [if_pos h38, if_neg h56, if_neg h71, if_pos h89]) | (rw [if_pos h38, if_neg h56, if_neg h71, if_neg h89])⟩, by rw [o_at, e0]; rfl, hR2⟩)
          · refine V_iconst C (v := nI 1) dX7_has_92 (by decide +kernel) ?_
            refine V_goto C 97 dX7_has_93 (by decide) ?_
            exact V_iret C (Nat.zero_le _) (Nat.zero_le _) dX7_has_97 (hP _ _ _ ⟨⟨_, rfl, fun _ => by unfold hasV; rw [ec, ec2]; first | (rw [if_neg h38]; exact (e4 h38).2) | (rw [if_pos h38, if_pos h56]; exact e1) | (rw [if_pos h38, if_neg h56, if_pos h71, r_aD (J := J) hk2, hR2.d]) | (rw [if_pos h38, if_neg h56, if_neg h71, if_pos h89]) | (rw [if_pos h38, if_neg h56, if_neg h71, if_neg h89])⟩, by rw [o_at, e0]; rfl, hR2⟩)
        · refine V_aload_n C dX7_has_74 rfl ?_
          refine V_iconst C (v := nI 0) dX7_has_75 (by decide +kernel) ?_
          refine V_iload_n C dX7_has_76 rfl ?_
          rw [ek]
          refine V_callV (F := fun _ => True) C (m_allDust (b := 0) hM (by omega) hk2) mi_X7_allDust ml_X7_314 rfl (ob_K hM) (by decide) (by decide) (by decide) (Nat.le_of_ble_eq_true rfl) (fun _ _ => trivial) (fun v _ => clo_T v) rfl dX7_has_77 ?_
          rintro v S' I' J' ⟨hS, rfl, hI, hJ⟩
          obtain rfl := hS.symm
          obtain rfl := hI.symm
          obtain rfl := hJ.symm
          refine V_goto C 97 dX7_has_80 (by decide) ?_
          exact V_iret C (Nat.zero_le _) (Nat.zero_le _) dX7_has_97 (hP _ _ _ ⟨⟨_, rfl, fun _ => by unfold hasV; rw [ec, ec2]; first | (rw [if_neg h38]; exact (e4 h38).2) | (rw [if_pos h38, if_pos h56]; exact e1) | (rw [if_pos h38, if_neg h56, if_pos h71, r_aD (J := J) hk2, hR2.d]) | (rw [if_pos h38, if_neg h56, if_neg h71, if_pos h89]) | (rw [if_pos h38, if_neg h56, if_neg h71, if_neg h89])⟩, by rw [o_at, e0]; rfl, hR2⟩)
      · refine V_aload_n C dX7_has_59 rfl ?_
        refine V_getR C fl_X7_119 (ob_K hM) (ob_R hM 27 1028 rfl rfl) rfl dX7_has_60 ?_
        refine V_iload_n C dX7_has_63 rfl ?_
        refine V_iald C (k) (ob_A hM 27 1028 rfl rfl) ek (by rw [ob_N hM 27 1028 rfl rfl]; omega) (by rw [ob_N hM 27 1028 rfl rfl]; decide) dX7_has_64 ?_
        refine V_goto C 97 dX7_has_65 (by decide) ?_
        exact V_iret C (Nat.zero_le _) (Nat.zero_le _) dX7_has_97 (hP _ _ _ ⟨⟨_, rfl, fun _ => by unfold hasV; rw [ec, ec2]; first | (rw [if_neg h38]; exact (e4 h38).2) | (rw [if_pos h38, if_pos h56]; exact e1) | (rw [if_pos h38, if_neg h56, if_pos h71, r_aD (J := J) hk2, hR2.d]) | (rw [if_pos h38, if_neg h56, if_neg h71, if_pos h89]) | (rw [if_pos h38, if_neg h56, if_neg h71, if_neg h89])⟩, by rw [o_at, e0]; rfl, hR2⟩)
    · refine V_aload_n C dX7_has_41 rfl ?_
      refine V_getR C fl_X7_128 (ob_K hM) (ob_R hM 30 1031 rfl rfl) rfl dX7_has_42 ?_
      refine V_iconst C (v := nI 5) dX7_has_45 (by decide +kernel) ?_
      refine V_iload_n C dX7_has_46 rfl ?_
      refine V_imul C dX7_has_47 ?_
      refine V_iload_n C dX7_has_48 rfl ?_
      refine V_iadd C dX7_has_49 ?_
      refine V_iald C (5 * k + m) (ob_A hM 30 1031 rfl rfl) (by rw [ek, em, pk_mul, nI_add]) (by rw [ob_N hM 30 1031 rfl rfl]; omega) (by rw [ob_N hM 30 1031 rfl rfl]; decide) dX7_has_50 ?_
      refine V_goto C 97 dX7_has_51 (by decide) ?_
      exact V_iret C (Nat.zero_le _) (Nat.zero_le _) dX7_has_97 (hP _ _ _ ⟨⟨_, rfl, fun _ => by unfold hasV; rw [ec, ec2]; first | (rw [if_neg h38]; exact (e4 h38).2) | (rw [if_pos h38, if_pos h56]; exact e1) | (rw [if_pos h38, if_neg h56, if_pos h71, r_aD (J := J) hk2, hR2.d]) | (rw [if_pos h38, if_neg h56, if_neg h71, if_pos h89]) | (rw [if_pos h38, if_neg h56, if_neg h71, if_neg h89])⟩, by rw [o_at, e0]; rfl, hR2⟩)
  · have e0 : bI (¬ okHas z r s) = 1 := bI_t ok
    have hR2 : RefR z (up2 I 1000 0 (nI 1)) J := hR.kp (Kp.o (Or.inl rfl))
    refine V_aload_n C dX7_has_0 rfl ?_
    refine V_aload_n C dX7_has_1 rfl ?_
    refine V_iload_n C dX7_has_2 rfl ?_
    refine V_callV (F := fun _ => True) C (m_isRing hM hR r) mi_X7_isRing ml_X7_305 rfl (ob_K hM) (by decide) (by decide) (by decide) (Nat.le_of_ble_eq_true rfl) (fun _ _ => trivial) (fun v _ => clo_T v) rfl dX7_has_3 ?_
    rintro v S' I' J' ⟨hS, rfl, hI, hJ⟩
    obtain rfl := hS.symm
    obtain rfl := hI.symm
    obtain rfl := hJ.symm
    refine V_if_eq C 23 dX7_has_6 (by decide) (fun h6 => ?_) (fun h6 => ?_)
    · refine V_iconst C (v := nI 1) dX7_has_23 (by decide +kernel) ?_
      refine V_putI C fl_X7_1 (ob_K hM) rfl rfl dX7_has_24 ?_
      refine V_aload_n C dX7_has_27 rfl ?_
      refine V_getI C fl_X7_1 (ob_K hM) rfl dX7_has_28 ?_
      rw [o_at]
      refine V_if_le C 36 dX7_has_31 (by decide) (fun h31 => absurd h31 (by decide)) (fun h31 => ?_)
      refine V_iconst C (v := nI 0) dX7_has_34 (by decide +kernel) ?_
      exact V_iret C (Nat.zero_le _) (Nat.zero_le _) dX7_has_35 (hP _ _ _ ⟨⟨_, rfl, fun q => absurd q ok⟩, by rw [o_at, e0]; rfl, hR2⟩)
    · refine V_iload_n C dX7_has_9 rfl ?_
      refine V_iconst C (v := nI 0) dX7_has_10 (by decide +kernel) ?_
      refine V_bipush C (v := nI 7) dX7_has_11 (by decide +kernel) ?_
      refine V_callS (F := fun _ => True) C (m_within _ _ _) ms_X7_within ml_X7_301 rfl (by decide) (by decide) (Nat.le_of_ble_eq_true rfl) (fun _ _ => trivial) (fun v _ => clo_T v) rfl dX7_has_13 ?_
      rintro v S' I' J' ⟨hS, rfl, hI, hJ⟩
      obtain rfl := hS.symm
      obtain rfl := hI.symm
      obtain rfl := hJ.symm
      refine V_if_eq C 23 dX7_has_16 (by decide) (fun h16 => ?_) (fun h16 => ?_)
      · refine V_iconst C (v := nI 1) dX7_has_23 (by decide +kernel) ?_
        refine V_putI C fl_X7_1 (ob_K hM) rfl rfl dX7_has_24 ?_
        refine V_aload_n C dX7_has_27 rfl ?_
        refine V_getI C fl_X7_1 (ob_K hM) rfl dX7_has_28 ?_
        rw [o_at]
        refine V_if_le C 36 dX7_has_31 (by decide) (fun h31 => absurd h31 (by decide)) (fun h31 => ?_)
        refine V_iconst C (v := nI 0) dX7_has_34 (by decide +kernel) ?_
        exact V_iret C (Nat.zero_le _) (Nat.zero_le _) dX7_has_35 (hP _ _ _ ⟨⟨_, rfl, fun q => absurd q ok⟩, by rw [o_at, e0]; rfl, hR2⟩)
      · exact absurd ⟨Decidable.not_not.mp (fun q => h6 (bI_0.mpr q)), Decidable.not_not.mp (fun q => h16 (bI_0.mpr q))⟩ ok
set_option maxRecDepth 100000 in
theorem m_thrown (hM : Ob S 7 1000) : Mn l yX7_thrown cX7_thrown 1 (some .int) 0 [.ref 1000] S I J (fun v I' J' => v = some (.int (I 1000 0)) ∧ I' = I ∧ J' = J) := by
  refine Mn.of (by decide) (fun ad => by simp [lg_sl, vv, Value.category]) (fun X P hP hn C => ?_)
  refine V_aload_n C dX7_thrown_0 rfl ?_
  refine V_getI C fl_X7_1 (ob_K hM) rfl dX7_thrown_1 ?_
  exact V_iret C (Nat.zero_le _) (Nat.zero_le _) dX7_thrown_4 (hP _ _ _ ⟨rfl, rfl, rfl⟩)
abbrev okMade (z : SV) (u r : Int32) : Prop := isL z.1.1 u ∧ isR z.1.1 r
def madeV (z : SV) (u r : Int32) : Int32 := if okMade z u r then z.1.1 11 (12 * cl u + cl r) else -1
set_option maxRecDepth 100000 in
theorem m_made (hM : Ob S 7 1000) (hR : RefR z I J) (hO : OkR z) (u r : Int32) : Mn l yX7_made cX7_made 3 (some .int) 1 [.ref 1000, .int u, .int r] S I J (fun v I' J' => v = some (.int (madeV z u r)) ∧ RefR z I' J') := by
  refine Mn.of (by decide) (fun ad => by simp [lg_sl, vv, Value.category]) (fun X P hP hn C => ?_)
  have key : ∀ I0, RefR z I0 J → V X P 0 0 5 [some (.ref 1000), some (.int u), some (.int r)] [] S I0 J := by
    intro I0 hR
    have last : okMade z u r → V X P 0 0 21 [some (.ref 1000), some (.int u), some (.int r)] [] S I0 J := by
      intro ok
      obtain ⟨k, hk, hk2, ek⟩ := isL_ex ok.1 hO.1.1
      obtain ⟨m, hm, hm2, em⟩ := isR_ex ok.2 hO.1.1
      have ec : cl u = k := by rw [ek]; exact nI_clamp (by omega)
      have ec2 : cl r = m := by rw [em]; exact nI_clamp (by omega)
      have e : I0 1044 (12 * k + m) = z.1.1 11 (12 * k + m) := by
        have hc : (I0 1037 0).toNatClampNeg = cmD z.1.1 := by rw [← hR.d]; rfl
        rw [← hR.d]
        have h : 12 * k + m < 12 * cmD z.1.1 := by omega
        simp only [refD, hc, if_pos h, Nat.mul_zero, Nat.zero_add]
      refine V_aload_n C dX7_made_21 rfl ?_
      refine V_getR C fl_X7_167 (ob_K hM) (ob_R hM 43 1044 rfl rfl) rfl dX7_made_22 ?_
      refine V_bipush C (v := nI 12) dX7_made_25 (by decide +kernel) ?_
      refine V_iload_n C dX7_made_27 rfl ?_
      refine V_imul C dX7_made_28 ?_
      refine V_iload_n C dX7_made_29 rfl ?_
      refine V_iadd C dX7_made_30 ?_
      refine V_iald C (12 * k + m) (ob_A hM 43 1044 rfl rfl) (by rw [ek, em, pk_mul, nI_add]) (by rw [ob_N hM 43 1044 rfl rfl]; omega) (by rw [ob_N hM 43 1044 rfl rfl]; decide) dX7_made_31 ?_
      refine V_goto C 36 dX7_made_32 (by decide) ?_
      exact V_iret C (Nat.zero_le _) (Nat.zero_le _) dX7_made_36 (hP _ _ _ ⟨by rw [madeV, if_pos ok, ec, ec2, e], hR⟩)
    refine V_aload_n C dX7_made_5 rfl ?_
    refine V_iload_n C dX7_made_6 rfl ?_
    refine V_callV (F := fun _ => True) C (m_isLump hM hR u) mi_X7_isLump ml_X7_397 rfl (ob_K hM) (by decide) (by decide) (by decide) (Nat.le_of_ble_eq_true rfl) (fun _ _ => trivial) (fun v _ => clo_T v) rfl dX7_made_7 ?_
    rintro v S' I' J' ⟨hS, rfl, hI, hJ⟩
    obtain rfl := hS.symm
    obtain rfl := hI.symm
    obtain rfl := hJ.symm
    refine V_if_eq C 35 dX7_made_10 (by decide) (fun h10 => ?_) (fun h10 => ?_)
    · refine V_iconst C (v := (-1)) dX7_made_35 (by decide +kernel) ?_
      exact V_iret C (Nat.zero_le _) (Nat.zero_le _) dX7_made_36 (hP _ _ _ (by have no : ¬ okMade z u r := (by first | exact fun q => (bI_0.mp h10) q.1 | exact fun q => (bI_0.mp h18) q.2); exact ⟨by rw [madeV, if_neg no], hR⟩))
    · refine V_aload_n C dX7_made_13 rfl ?_
      refine V_iload_n C dX7_made_14 rfl ?_
      refine V_callV (F := fun _ => True) C (m_isRing hM hR r) mi_X7_isRing ml_X7_305 rfl (ob_K hM) (by decide) (by decide) (by decide) (Nat.le_of_ble_eq_true rfl) (fun _ _ => trivial) (fun v _ => clo_T v) rfl dX7_made_15 ?_
      rintro v S' I' J' ⟨hS, rfl, hI, hJ⟩
      obtain rfl := hS.symm
      obtain rfl := hI.symm
      obtain rfl := hJ.symm
      refine V_if_eq C 35 dX7_made_18 (by decide) (fun h18 => ?_) (fun h18 => ?_)
      · refine V_iconst C (v := (-1)) dX7_made_35 (by decide +kernel) ?_
        exact V_iret C (Nat.zero_le _) (Nat.zero_le _) dX7_made_36 (hP _ _ _ (by have no : ¬ okMade z u r := (by first | exact fun q => (bI_0.mp h10) q.1 | exact fun q => (bI_0.mp h18) q.2); exact ⟨by rw [madeV, if_neg no], hR⟩))
      · exact last ⟨Decidable.not_not.mp (fun q => h10 (bI_0.mpr q)), Decidable.not_not.mp (fun q => h18 (bI_0.mpr q))⟩
  refine V_aload_n C dX7_made_0 rfl ?_
  refine V_iconst C (v := nI 0) dX7_made_1 (by decide +kernel) ?_
  refine V_putI C fl_X7_1 (ob_K hM) rfl rfl dX7_made_2 ?_
  exact key _ hR.zr
def partsV (z : SV) (w : Int32) : Int64 := if w = nI 0 then lrS z.1.1 12 else if w = nI 1 then llS z.1.1 (cmD z.1.1) else if w = nI 2 then z.1.2.1 else if w = nI 3 then z.1.2.2 else if w = nI 4 then lrS z.1.1 12 + llS z.1.1 (cmD z.1.1) + z.1.2.1 + z.1.2.2 else -1
set_option maxRecDepth 100000 in
theorem m_parts (hM : Ob S 7 1000) (hR : RefR z I J) (hO : OkR z) (w : Int32) : Mn l yX7_parts cX7_parts 2 (some .long) 3 [.ref 1000, .int w] S I J (fun v I' J' => v = some (.long (partsV z w)) ∧ RefR z I' J') := by
  refine Mn.of (by decide) (fun ad => by simp [lg_sl, vv, Value.category]) (fun X P hP hn C => ?_)
  have key : ∀ I0, RefR z I0 J → V X P 0 0 6 [some (.ref 1000), some (.int w)] [.int w] S I0 J := by
    intro I0 hR
    have e5 : J 1035 0 = z.1.2.1 := by rw [← hR.1]; rfl
    have e6 : J 1036 0 = z.1.2.2 := by rw [← hR.1]; rfl
    unfold partsV at hP
    rcases pk_ix w (n := 5) (by decide) with hw | hw | ⟨j, hj, hw⟩
    · refine V_swOut C 88 dX7_parts_6 (Or.inl (sw_lo hw)) (by decide) ?_
      refine V_ldc2 C dX7_parts_88 kl_X7_413 ?_
      exact V_lret C (Nat.zero_le _) (Nat.zero_le _) dX7_parts_91 (hP _ _ _ ⟨by first | (repeat (first | rw [if_pos rfl] | rw [if_neg (by decide)])); done | (repeat rw [if_neg (fun e => absurd (e ▸ hw) (by decide))]), hR⟩)
    · refine V_swOut C 88 dX7_parts_6 (Or.inr (sw_hi hw (by decide))) (by decide) ?_
      refine V_ldc2 C dX7_parts_88 kl_X7_413 ?_
      exact V_lret C (Nat.zero_le _) (Nat.zero_le _) dX7_parts_91 (hP _ _ _ ⟨by first | (repeat (first | rw [if_pos rfl] | rw [if_neg (by decide)])); done | (repeat rw [if_neg (fun e => absurd (e ▸ hw) (by decide))]), hR⟩)
    · match j, hj, hw with
      | 0, _, hw =>
        subst hw
        refine V_swIn C 40 dX7_parts_6 (by decide) (by decide) (off := 34) (by decide +kernel) (by decide) ?_
        refine V_aload_n C dX7_parts_40 rfl ?_
        refine V_callV (F := fun _ => True) C (m_inRings hM hR) mi_X7_inRings ml_X7_406 rfl (ob_K hM) (by decide) (by decide) (by decide) (Nat.le_of_ble_eq_true rfl) (fun _ _ => trivial) (fun v _ => clo_T v) rfl dX7_parts_41 ?_
        rintro v S' I' J' ⟨hS, rfl, hI, hJ⟩
        obtain rfl := hS.symm
        obtain rfl := hI.symm
        obtain rfl := hJ.symm
        exact V_lret C (Nat.zero_le _) (Nat.zero_le _) dX7_parts_44 (hP _ _ _ ⟨by first | (repeat (first | rw [if_pos rfl] | rw [if_neg (by decide)])); done | (repeat rw [if_neg (fun e => absurd (e ▸ hw) (by decide))]), hR⟩)
      | 1, _, hw =>
        subst hw
        refine V_swIn C 45 dX7_parts_6 (by decide) (by decide) (off := 39) (by decide +kernel) (by decide) ?_
        refine V_aload_n C dX7_parts_45 rfl ?_
        refine V_callV (F := fun _ => True) C (m_inLumps hM hR hO) mi_X7_inLumps ml_X7_410 rfl (ob_K hM) (by decide) (by decide) (by decide) (Nat.le_of_ble_eq_true rfl) (fun _ _ => trivial) (fun v _ => clo_T v) rfl dX7_parts_46 ?_
        rintro v S' I' J' ⟨hS, rfl, hI, hJ⟩
        obtain rfl := hS.symm
        obtain rfl := hI.symm
        obtain rfl := hJ.symm
        exact V_lret C (Nat.zero_le _) (Nat.zero_le _) dX7_parts_49 (hP _ _ _ ⟨by first | (repeat (first | rw [if_pos rfl] | rw [if_neg (by decide)])); done | (repeat rw [if_neg (fun e => absurd (e ▸ hw) (by decide))]), hR⟩)
      | 2, _, hw =>
        subst hw
        refine V_swIn C 50 dX7_parts_6 (by decide) (by decide) (off := 44) (by decide +kernel) (by decide) ?_
        refine V_aload_n C dX7_parts_50 rfl ?_
        refine V_getR C fl_X7_140 (ob_K hM) (ob_R hM 34 1035 rfl rfl) rfl dX7_parts_51 ?_
        refine V_iconst C (v := nI 0) dX7_parts_54 (by decide +kernel) ?_
        refine V_lald C (0) (ob_A hM 34 1035 rfl rfl) (by first | rfl | (simp only [nI_add, pk_mul]; done) | (simp only [nI_add, pk_mul]; congr 1; omega)) (by rw [ob_N hM 34 1035 rfl rfl]; omega) (by rw [ob_N hM 34 1035 rfl rfl]; decide) dX7_parts_55 ?_
        rw [e5]
        exact V_lret C (Nat.zero_le _) (Nat.zero_le _) dX7_parts_56 (hP _ _ _ ⟨by first | (repeat (first | rw [if_pos rfl] | rw [if_neg (by decide)])); done | (repeat rw [if_neg (fun e => absurd (e ▸ hw) (by decide))]), hR⟩)
      | 3, _, hw =>
        subst hw
        refine V_swIn C 57 dX7_parts_6 (by decide) (by decide) (off := 51) (by decide +kernel) (by decide) ?_
        refine V_aload_n C dX7_parts_57 rfl ?_
        refine V_getR C fl_X7_143 (ob_K hM) (ob_R hM 35 1036 rfl rfl) rfl dX7_parts_58 ?_
        refine V_iconst C (v := nI 0) dX7_parts_61 (by decide +kernel) ?_
        refine V_lald C (0) (ob_A hM 35 1036 rfl rfl) (by first | rfl | (simp only [nI_add, pk_mul]; done) | (simp only [nI_add, pk_mul]; congr 1; omega)) (by rw [ob_N hM 35 1036 rfl rfl]; omega) (by rw [ob_N hM 35 1036 rfl rfl]; decide) dX7_parts_62 ?_
        rw [e6]
        exact V_lret C (Nat.zero_le _) (Nat.zero_le _) dX7_parts_63 (hP _ _ _ ⟨by first | (repeat (first | rw [if_pos rfl] | rw [if_neg (by decide)])); done | (repeat rw [if_neg (fun e => absurd (e ▸ hw) (by decide))]), hR⟩)
      | 4, _, hw =>
        subst hw
        refine V_swIn C 64 dX7_parts_6 (by decide) (by decide) (off := 58) (by decide +kernel) (by decide) ?_
        refine V_aload_n C dX7_parts_64 rfl ?_
        refine V_callV (F := fun _ => True) C (m_inRings hM hR) mi_X7_inRings ml_X7_406 rfl (ob_K hM) (by decide) (by decide) (by decide) (Nat.le_of_ble_eq_true rfl) (fun _ _ => trivial) (fun v _ => clo_T v) rfl dX7_parts_65 ?_
        rintro v S' I' J' ⟨hS, rfl, hI, hJ⟩
        obtain rfl := hS.symm
        obtain rfl := hI.symm
        obtain rfl := hJ.symm
        refine V_aload_n C dX7_parts_68 rfl ?_
        refine V_callV (F := fun _ => True) C (m_inLumps hM hR hO) mi_X7_inLumps ml_X7_410 rfl (ob_K hM) (by decide) (by decide) (by decide) (Nat.le_of_ble_eq_true rfl) (fun _ _ => trivial) (fun v _ => clo_T v) rfl dX7_parts_69 ?_
        rintro v S' I' J' ⟨hS, rfl, hI, hJ⟩
        obtain rfl := hS.symm
        obtain rfl := hI.symm
        obtain rfl := hJ.symm
        refine V_ladd C dX7_parts_72 ?_
        refine V_aload_n C dX7_parts_73 rfl ?_
        refine V_getR C fl_X7_140 (ob_K hM) (ob_R hM 34 1035 rfl rfl) rfl dX7_parts_74 ?_
        refine V_iconst C (v := nI 0) dX7_parts_77 (by decide +kernel) ?_
        refine V_lald C (0) (ob_A hM 34 1035 rfl rfl) (by first | rfl | (simp only [nI_add, pk_mul]; done) | (simp only [nI_add, pk_mul]; congr 1; omega)) (by rw [ob_N hM 34 1035 rfl rfl]; omega) (by rw [ob_N hM 34 1035 rfl rfl]; decide) dX7_parts_78 ?_
        rw [e5]
        refine V_ladd C dX7_parts_79 ?_
        refine V_aload_n C dX7_parts_80 rfl ?_
        refine V_getR C fl_X7_143 (ob_K hM) (ob_R hM 35 1036 rfl rfl) rfl dX7_parts_81 ?_
        refine V_iconst C (v := nI 0) dX7_parts_84 (by decide +kernel) ?_
        refine V_lald C (0) (ob_A hM 35 1036 rfl rfl) (by first | rfl | (simp only [nI_add, pk_mul]; done) | (simp only [nI_add, pk_mul]; congr 1; omega)) (by rw [ob_N hM 35 1036 rfl rfl]; omega) (by rw [ob_N hM 35 1036 rfl rfl]; decide) dX7_parts_85 ?_
        rw [e6]
        refine V_ladd C dX7_parts_86 ?_
        exact V_lret C (Nat.zero_le _) (Nat.zero_le _) dX7_parts_87 (hP _ _ _ ⟨by first | (repeat (first | rw [if_pos rfl] | rw [if_neg (by decide)])); done | (repeat rw [if_neg (fun e => absurd (e ▸ hw) (by decide))]), hR⟩)
  refine V_aload_n C dX7_parts_0 rfl ?_
  refine V_iconst C (v := nI 0) dX7_parts_1 (by decide +kernel) ?_
  refine V_putI C fl_X7_1 (ob_K hM) rfl rfl dX7_parts_2 ?_
  refine V_iload_n C dX7_parts_5 rfl ?_
  exact key _ hR.zr
end M19
