/-! the class's face: look, back -/
section C20
variable {l : Launch} {S S' S0 : HS} {I I' Ic : HI} {J J' Jc : HJ} {z : SV} {la lb e : Nat} {q : QV}
def seV (z : SV) (u : Nat) : Int32 := if lawV z.2.2.1.1 z.2.2.1.2.1 8 (fLu z.1.1 u) = -1 then nI 0 else lawV z.2.2.1.1 z.2.2.1.2.1 8 (fLu z.1.1 u)
theorem se_sb (hO : OkC z) {u : Nat} : (if sbD z u < 0 then nI 0 else sbD z u) = seV z u ∧ (sbD z u ≤ 0 ↔ seV z u ≤ 0) ∧ (¬ seV z u ≤ 0 → sbD z u = seV z u) := by
  have h := hO.2.2.1 z.2.2.1.2.1 8 (fLu z.1.1 u) (by decide)
  unfold sbD seV
  unfold kcl at h
  generalize lawV z.2.2.1.1 z.2.2.1.2.1 8 (fLu z.1.1 u) = v at h
  rcases h with e | ⟨h1, -, -⟩
  · subst e; exact ⟨by decide, by decide, by decide⟩
  · have h0 : 0 ≤ v := i_nn.mpr h1
    have hne : ¬ v = -1 := fun q => absurd (q ▸ h0) (by decide)
    rw [if_neg hne]
    by_cases hv : v ≤ 0
    · have e0 : v = 0 := Int32.le_antisymm hv h0
      subst e0
      exact ⟨by decide, by decide, by decide⟩
    · rw [if_neg hv, if_neg (Int32.not_lt.mpr h0)]
      exact ⟨rfl, Iff.rfl, fun _ => rfl⟩
theorem CR.cls5 (hS : SS S la lb) (hO : OkC z) (hC : CR la z S I J) (k : Kc I J I' J') (hS0 : S0 = S ∨ S0 = enS S 1500) : ClsR z S0 I' J' := by
  have hla : la = 1160 ∨ la = 1180 := by have := hS.2.2.2.2.2.2.2.2.2.2; omega
  rcases hS0 with rfl | rfl
  · exact ⟨la, lb, hS, hC.ks hO hla k⟩
  · exact ⟨la, lb, hS.en, hC.ke hO hla k⟩
set_option maxRecDepth 100000 in
set_option maxHeartbeats 1000000 in
theorem f_seenOf (hS : SS S la lb) (hO : OkC z) (hC : CR la z S I J) (k0 : Kc I J Ic Jc) (hS0 : S0 = S ∨ S0 = enS S 1500) {u : Nat} (hu : u < cmD z.1.1) : Mf l yX6_seenOf cX6_seenOf 3 (some .int) 4 [.ref 1100, .ref (1500 + 20 + 10 * u)] S0 Ic Jc (fun r S' I' J' => r = some (.int (seV z u)) ∧ S' = enS S 1500 ∧ Kc I J I' J') := by
  refine Mf.of (by decide) (fun ad => by simp [lg_sl, vv, Value.category]) (fun X P hP hn C => ?_)
  have hla : la = 1160 ∨ la = 1180 := by have := hS.2.2.2.2.2.2.2.2.2.2; omega
  have hSS0 : SS S0 la lb := by rcases hS0 with rfl | rfl; exact hS; exact hS.en
  have eS0 : enS S0 1500 = enS S 1500 := by
    rcases hS0 with rfl | rfl
    · rfl
    · show (S.1, S.2.1, up2 (up2 S.2.2 1140 0 (some 1500)) 1140 0 (some 1500)) = _
      rw [up2_up2]
      rfl
  have cc := hC.ks hO hla k0
  obtain ⟨h1, ⟨r0, r1, r3, r4, r5, r6, r7⟩, hF, -, -, -, -, -, h9, h10, -⟩ := id hSS0
  have hK1 := h9.1
  have hS2 : SS (enS S 1500) la lb := hS.en
  have hX := hS.co (b := 1500) hS.2.2.2.2.2.2.2.2.1 (by omega)
  obtain ⟨k1, ⟨s0, s1, s3, s4, s5, s6, s7⟩, kF, -, -, -, -, -, k9, k10, -⟩ := id hS2
  obtain ⟨e, ee, he⟩ := hO.2.2.2.1
  have e9 : Ic 1100 8 = z.2.2.1.2.1 := cc.2.2.2.1
  obtain ⟨I1, hI1⟩ : ∃ I1, I1 = up2 Ic 1140 2 z.2.2.1.2.1 := ⟨_, rfl⟩
  have o1 : ∀ a, a ≠ 1140 → I1 a = Ic a := fun a ha => by rw [hI1, up2_ne _ _ _ ha]
  have hG : cG I1 la z.2.2.1.1 e z.2.2.1.2.2.1 := cG_of hla hO cc he I1 o1 (by rw [hI1]; exact ee) (by rw [hI1]; rfl)
  have q1 : CQ I1 Jc 1500 z.1 := cc.1.same (fun a g1 g2 => o1 a (by omega)) rfl hO.1.1.1.2.2.2.2.1
  have kk1 : Kc I J I1 Jc := by rw [hI1]; exact k0.tr Kc.en
  have el : lawV z.2.2.1.1 z.2.2.1.2.1 8 (fLu z.1.1 u) = kcl z.2.2.1.1 (nI e) 8 (fLu z.1.1 u) := by rw [← ee]; rfl
  unfold seV at hP
  rw [el] at hP
  have last : V X P 0 0 15 [some (.ref 1100), some (.ref (1500 + 20 + 10 * u)), none] [] (enS S 1500) I1 Jc := by
    refine V_aload_n C dX6_seenOf_15 rfl ?_
    refine V_getR C fl_X6_30 (ob_K k1) s5 rfl dX6_seenOf_16 ?_
    refine V_bipush C (v := nI 8) dX6_seenOf_19 (by decide +kernel) ?_
    refine V_aload_n C dX6_seenOf_21 rfl ?_
    refine V_callV (F := fun _ => True) C (c_lawForLump hX hG q1.1 hO.1.1.1 (k := 8) (by decide) hu) mi_X0_lawForLump ml_X6_253 rfl (ob_K kF) (by decide) (by decide) (by decide) (Nat.le_of_ble_eq_true rfl) (fun _ _ => trivial) (fun v _ => clo_T v) rfl dX6_seenOf_22 ?_
    rintro v S' I2 J2 ⟨hS9, rfl, s2, hJ9⟩
    obtain rfl := hS9.symm
    obtain rfl := hJ9.symm
    refine V_istore_n C dX6_seenOf_25 (hn _ (by decide)) ?_
    refine V_iload_n C dX6_seenOf_26 rfl ?_
    refine V_iconst C (v := (-1)) dX6_seenOf_27 (by decide +kernel) ?_
    refine V_icmp_ne C 35 dX6_seenOf_28 (by decide) (fun h28 => ?_) (fun h28 => ?_)
    · refine V_iload_n C dX6_seenOf_35 rfl ?_
      exact V_iret C (Nat.zero_le _) (Nat.zero_le _) dX6_seenOf_36 (hP _ _ _ _ ⟨by first | rw [if_neg h28] | rw [if_pos h28], rfl, kk1.tr (Kc.sk s2.k)⟩)
    · refine V_iconst C (v := nI 0) dX6_seenOf_31 (by decide +kernel) ?_
      refine V_goto C 36 dX6_seenOf_32 (by decide) ?_
      exact V_iret C (Nat.zero_le _) (Nat.zero_le _) dX6_seenOf_36 (hP _ _ _ _ ⟨by first | rw [if_neg h28] | rw [if_pos h28], rfl, kk1.tr (Kc.sk s2.k)⟩)
  refine V_aload_n C dX6_seenOf_0 rfl ?_
  refine V_getR C fl_X6_30 (ob_K h1) r5 rfl dX6_seenOf_1 ?_
  refine V_aload_n C dX6_seenOf_4 rfl ?_
  refine V_getR C fl_X6_10 (ob_K h1) r0 rfl dX6_seenOf_5 ?_
  refine V_aload_n C dX6_seenOf_8 rfl ?_
  refine V_getI C fl_X6_120 (ob_K h1) rfl dX6_seenOf_9 ?_
  rw [e9]
  refine V_callV (F := fun _ => True) C (f_enter hF _) mi_X0_enter ml_X6_126 rfl (ob_K hF) (by decide) (by decide) (by decide) (Nat.le_of_ble_eq_true rfl) (fun _ _ => trivial) (fun v _ => clo_T v) rfl dX6_seenOf_12 ?_
  rintro v S' I3 J3 ⟨rfl, hS9, hI9, hJ9⟩
  rw [eS0] at hS9
  subst hS9
  obtain rfl := hJ9.symm
  rw [← hI1] at hI9
  subst hI9
  exact last
set_option maxRecDepth 100000 in
set_option maxHeartbeats 1000000 in
theorem f_look (hR : ClsR z S I J) (hO : OkC z) (u w : Int32) : Mf l yX6_look cX6_look 4 (some .int) 5 [.ref 1100, .int u, .int w] S I J (fun v S' I' J' => v = some (.int (lookV z u w)) ∧ ClsR z S' I' J') := by
  refine Mf.of (by decide) (fun ad => by simp [lg_sl, vv, Value.category]) (fun X P hP hn C => ?_)
  have hR0 := hR
  obtain ⟨la, lb, hS, hC⟩ := hR
  obtain ⟨h1, ⟨r0, r1, r3, r4, r5, r6, r7⟩, hF, -, -, -, -, -, h9, h10, -⟩ := id hS
  have hK1 := h9.1
  have hrg : I 1500 0 = nI (rgD z.1.1) := hC.1.1.rg hO.1.1.1
  have good : isL z.1.1 u → V X P 0 0 13 [some (.ref 1100), some (.int u), some (.int w), none] [] S I J := by
    intro hl
    obtain ⟨k, hk, ek, ec⟩ := isLx hO.1.1 hl
    have h30 := hO.1.1.1.2.2.2.2.1
    have h12 := hO.1.1.1.2.2.1
    obtain ⟨hLk, hRk⟩ := h9.2 k (by omega)
    obtain ⟨l0, l1, l2, l3, l4, l5, l6⟩ := (hC.1.1.2.2.2 k hk).1
    have hfam := fam_c hC.1.1 hO.1.1.1 hO.1.1.2.2.1.2.2 hk
    have eA : ∀ w, wi w (nI 0) (nI 9) → lookV z u w = lookW z k w := fun w hw => by rw [lookV, if_pos ⟨hl, hw⟩, ec]
    obtain ⟨sb, -, -⟩ := se_sb hO (u := k)
    have last : V X P 0 0 24 [some (.ref 1100), some (.int u), some (.int w), some (.ref (1500 + 20 + 10 * k))] [.int w] S I J := by
      rcases pk_ix w (n := 10) (by decide) with hw | hw | ⟨j, hj, hw⟩
      · refine V_swOut C 172 dX6_look_24 (Or.inl (sw_lo hw)) (by decide) ?_
        refine V_iconst C (v := (-1)) dX6_look_172 (by decide +kernel) ?_
        exact V_iret C (Nat.zero_le _) (Nat.zero_le _) dX6_look_173 (hP _ _ _ _ ⟨by rw [lookV, if_neg (by first | exact fun q => absurd q.2.1 (Int32.not_le.mpr hw) | exact fun q => absurd (Int32.le_trans hw q.2.2) (by decide))], hR0⟩)
      · refine V_swOut C 172 dX6_look_24 (Or.inr (sw_hi hw (by decide))) (by decide) ?_
        refine V_iconst C (v := (-1)) dX6_look_172 (by decide +kernel) ?_
        exact V_iret C (Nat.zero_le _) (Nat.zero_le _) dX6_look_173 (hP _ _ _ _ ⟨by rw [lookV, if_neg (by first | exact fun q => absurd q.2.1 (Int32.not_le.mpr hw) | exact fun q => absurd (Int32.le_trans hw q.2.2) (by decide))], hR0⟩)
      · match j, hj, hw with
        | 0, _, hw =>
          subst hw
          refine V_swIn C 80 dX6_look_24 (by decide) (by decide) (off := 56) (by decide +kernel) (by decide) ?_
          refine V_aload_n C dX6_look_80 rfl ?_
          refine V_getI C fl_X6_150 (ob_K hLk) rfl dX6_look_81 ?_
          rw [l0]
          exact V_iret C (Nat.zero_le _) (Nat.zero_le _) dX6_look_84 (hP _ _ _ _ ⟨by rw [eA _ (by decide), lookW]; (repeat (first | rw [if_pos (rfl : nI _ = nI _)] | rw [if_neg (show ¬ nI _ = nI _ by decide)])); all_goals rfl, hR0⟩)
        | 1, _, hw =>
          subst hw
          refine V_swIn C 85 dX6_look_24 (by decide) (by decide) (off := 61) (by decide +kernel) (by decide) ?_
          refine V_aload_n C dX6_look_85 rfl ?_
          refine V_getI C fl_X6_155 (ob_K hLk) rfl dX6_look_86 ?_
          rw [l1]
          exact V_iret C (Nat.zero_le _) (Nat.zero_le _) dX6_look_89 (hP _ _ _ _ ⟨by rw [eA _ (by decide), lookW]; (repeat (first | rw [if_pos (rfl : nI _ = nI _)] | rw [if_neg (show ¬ nI _ = nI _ by decide)])); all_goals rfl, hR0⟩)
        | 2, _, hw =>
          subst hw
          refine V_swIn C 90 dX6_look_24 (by decide) (by decide) (off := 66) (by decide +kernel) (by decide) ?_
          refine V_aload_n C dX6_look_90 rfl ?_
          refine V_getI C fl_X6_158 (ob_K hLk) rfl dX6_look_91 ?_
          rw [l2]
          exact V_iret C (Nat.zero_le _) (Nat.zero_le _) dX6_look_94 (hP _ _ _ _ ⟨by rw [eA _ (by decide), lookW]; (repeat (first | rw [if_pos (rfl : nI _ = nI _)] | rw [if_neg (show ¬ nI _ = nI _ by decide)])); all_goals rfl, hR0⟩)
        | 3, _, hw =>
          subst hw
          refine V_swIn C 95 dX6_look_24 (by decide) (by decide) (off := 71) (by decide +kernel) (by decide) ?_
          refine V_aload_n C dX6_look_95 rfl ?_
          refine V_getI C fl_X6_161 (ob_K hLk) rfl dX6_look_96 ?_
          rw [l3]
          exact V_iret C (Nat.zero_le _) (Nat.zero_le _) dX6_look_99 (hP _ _ _ _ ⟨by rw [eA _ (by decide), lookW]; (repeat (first | rw [if_pos (rfl : nI _ = nI _)] | rw [if_neg (show ¬ nI _ = nI _ by decide)])); all_goals rfl, hR0⟩)
        | 4, _, hw =>
          subst hw
          refine V_swIn C 100 dX6_look_24 (by decide) (by decide) (off := 76) (by decide +kernel) (by decide) ?_
          refine V_aload_n C dX6_look_100 rfl ?_
          refine V_aload_n C dX6_look_101 rfl ?_
          refine V_getR C fl_X6_10 (ob_K h1) r0 rfl dX6_look_102 ?_
          refine V_getI C fl_X6_163 (ob_K hK1) rfl dX6_look_105 ?_
          rw [hrg]
          refine V_callV (F := fun _ => True) C (c_familyOf hLk (by omega)) mi_X3_familyOf ml_X6_166 rfl (ob_K hLk) (by decide) (by decide) (by decide) (Nat.le_of_ble_eq_true rfl) (fun _ _ => trivial) (fun v _ => clo_T v) rfl dX6_look_108 ?_
          rintro v S' I' J' ⟨hS9, rfl, hI9, hJ9⟩
          obtain rfl := hS9.symm
          obtain rfl := hI9.symm
          obtain rfl := hJ9.symm
          rw [hfam]
          exact V_iret C (Nat.zero_le _) (Nat.zero_le _) dX6_look_111 (hP _ _ _ _ ⟨by rw [eA _ (by decide), lookW]; (repeat (first | rw [if_pos (rfl : nI _ = nI _)] | rw [if_neg (show ¬ nI _ = nI _ by decide)])); all_goals rfl, hR0⟩)
        | 5, _, hw =>
          subst hw
          refine V_swIn C 112 dX6_look_24 (by decide) (by decide) (off := 88) (by decide +kernel) (by decide) ?_
          refine V_aload_n C dX6_look_112 rfl ?_
          refine V_getI C fl_X6_150 (ob_K hLk) rfl dX6_look_113 ?_
          rw [l0]
          refine V_if_eq C 123 dX6_look_116 (by decide) (fun h116 => ?_) (fun h116 => ?_)
          · refine V_aload_n C dX6_look_123 rfl ?_
            refine V_getR C fl_X6_10 (ob_K h1) r0 rfl dX6_look_124 ?_
            refine V_aload_n C dX6_look_127 rfl ?_
            refine V_callV (F := fun _ => True) C (c_isLocked h9 hC.1.1 hO.1.1.1 hk) mi_X1_isLocked ml_X6_169 rfl (ob_K hK1) (by decide) (by decide) (by decide) (Nat.le_of_ble_eq_true rfl) (fun _ _ => trivial) (fun v _ => clo_T v) rfl dX6_look_128 ?_
            rintro v S' I' J' ⟨hS9, rfl, hI9, hJ9⟩
            obtain rfl := hS9.symm
            obtain rfl := hI9.symm
            obtain rfl := hJ9.symm
            refine V_if_eq C 138 dX6_look_131 (by decide) (fun h131 => ?_) (fun h131 => ?_)
            · refine V_iconst C (v := nI 0) dX6_look_138 (by decide +kernel) ?_
              exact V_iret C (Nat.zero_le _) (Nat.zero_le _) dX6_look_139 (hP _ _ _ _ ⟨by rw [eA _ (by decide), lookW]; (repeat (first | rw [if_pos (rfl : nI _ = nI _)] | rw [if_neg (show ¬ nI _ = nI _ by decide)])); first | rw [if_neg h116] | rw [if_pos h116, if_pos h131] | rw [if_pos h116, if_neg h131], hR0⟩)
            · refine V_iconst C (v := nI 1) dX6_look_134 (by decide +kernel) ?_
              refine V_goto C 139 dX6_look_135 (by decide) ?_
              exact V_iret C (Nat.zero_le _) (Nat.zero_le _) dX6_look_139 (hP _ _ _ _ ⟨by rw [eA _ (by decide), lookW]; (repeat (first | rw [if_pos (rfl : nI _ = nI _)] | rw [if_neg (show ¬ nI _ = nI _ by decide)])); first | rw [if_neg h116] | rw [if_pos h116, if_pos h131] | rw [if_pos h116, if_neg h131], hR0⟩)
          · refine V_iconst C (v := (-1)) dX6_look_119 (by decide +kernel) ?_
            refine V_goto C 139 dX6_look_120 (by decide) ?_
            exact V_iret C (Nat.zero_le _) (Nat.zero_le _) dX6_look_139 (hP _ _ _ _ ⟨by rw [eA _ (by decide), lookW]; (repeat (first | rw [if_pos (rfl : nI _ = nI _)] | rw [if_neg (show ¬ nI _ = nI _ by decide)])); first | rw [if_neg h116] | rw [if_pos h116, if_pos h131] | rw [if_pos h116, if_neg h131], hR0⟩)
        | 6, _, hw =>
          subst hw
          refine V_swIn C 140 dX6_look_24 (by decide) (by decide) (off := 116) (by decide +kernel) (by decide) ?_
          refine V_aload_n C dX6_look_140 rfl ?_
          refine V_getI C fl_X6_173 (ob_K hLk) rfl dX6_look_141 ?_
          rw [l4]
          exact V_iret C (Nat.zero_le _) (Nat.zero_le _) dX6_look_144 (hP _ _ _ _ ⟨by rw [eA _ (by decide), lookW]; (repeat (first | rw [if_pos (rfl : nI _ = nI _)] | rw [if_neg (show ¬ nI _ = nI _ by decide)])); all_goals rfl, hR0⟩)
        | 7, _, hw =>
          subst hw
          refine V_swIn C 145 dX6_look_24 (by decide) (by decide) (off := 121) (by decide +kernel) (by decide) ?_
          refine V_aload_n C dX6_look_145 rfl ?_
          refine V_getI C fl_X6_150 (ob_K hLk) rfl dX6_look_146 ?_
          rw [l0]
          refine V_if_eq C 156 dX6_look_149 (by decide) (fun h149 => ?_) (fun h149 => ?_)
          · refine V_aload_n C dX6_look_156 rfl ?_
            refine V_aload_n C dX6_look_157 rfl ?_
            refine V_callV (F := fun _ => True) C (f_seenOf hS hO hC Kc.re (Or.inl rfl) hk) mi_X6_seenOf ml_X6_176 rfl (ob_K h1) (by decide) (by decide) (by decide) (Nat.le_of_ble_eq_true rfl) (fun _ _ => trivial) (fun v _ => clo_T v) rfl dX6_look_158 ?_
            rintro v S' I2 J2 ⟨rfl, hS9, k2⟩
            subst hS9
            have hR0 := hC.cls5 hS hO k2 (Or.inr rfl)
            exact V_iret C (Nat.zero_le _) (Nat.zero_le _) dX6_look_161 (hP _ _ _ _ ⟨by rw [eA _ (by decide), lookW]; (repeat (first | rw [if_pos (rfl : nI _ = nI _)] | rw [if_neg (show ¬ nI _ = nI _ by decide)])); first | rw [if_neg h149] | rw [if_pos h149, sb], hR0⟩)
          · refine V_iconst C (v := (-1)) dX6_look_152 (by decide +kernel) ?_
            refine V_goto C 161 dX6_look_153 (by decide) ?_
            exact V_iret C (Nat.zero_le _) (Nat.zero_le _) dX6_look_161 (hP _ _ _ _ ⟨by rw [eA _ (by decide), lookW]; (repeat (first | rw [if_pos (rfl : nI _ = nI _)] | rw [if_neg (show ¬ nI _ = nI _ by decide)])); first | rw [if_neg h149] | rw [if_pos h149, sb], hR0⟩)
        | 8, _, hw =>
          subst hw
          refine V_swIn C 162 dX6_look_24 (by decide) (by decide) (off := 138) (by decide +kernel) (by decide) ?_
          refine V_aload_n C dX6_look_162 rfl ?_
          refine V_getI C fl_X6_180 (ob_K hLk) rfl dX6_look_163 ?_
          rw [l5]
          exact V_iret C (Nat.zero_le _) (Nat.zero_le _) dX6_look_166 (hP _ _ _ _ ⟨by rw [eA _ (by decide), lookW]; (repeat (first | rw [if_pos (rfl : nI _ = nI _)] | rw [if_neg (show ¬ nI _ = nI _ by decide)])); all_goals rfl, hR0⟩)
        | 9, _, hw =>
          subst hw
          refine V_swIn C 167 dX6_look_24 (by decide) (by decide) (off := 143) (by decide +kernel) (by decide) ?_
          refine V_aload_n C dX6_look_167 rfl ?_
          refine V_getI C fl_X6_183 (ob_K hLk) rfl dX6_look_168 ?_
          rw [l6]
          exact V_iret C (Nat.zero_le _) (Nat.zero_le _) dX6_look_171 (hP _ _ _ _ ⟨by rw [eA _ (by decide), lookW]; (repeat (first | rw [if_pos (rfl : nI _ = nI _)] | rw [if_neg (show ¬ nI _ = nI _ by decide)])); all_goals rfl, hR0⟩)
    refine V_aload_n C dX6_look_13 rfl ?_
    refine V_getR C fl_X6_10 (ob_K h1) r0 rfl dX6_look_14 ?_
    refine V_getR C fl_X6_146 (ob_K hK1) (ob_R hK1 12 1513 rfl rfl) rfl dX6_look_17 ?_
    refine V_iload_n C dX6_look_20 rfl ?_
    refine V_aald C (k) (ob_A2 hK1 12 1513 rfl rfl) ek (by rw [ob_N hK1 12 1513 rfl rfl]; omega) (by rw [ob_N hK1 12 1513 rfl rfl]; decide) hRk dX6_look_21 ?_
    refine V_astore_n C dX6_look_22 (hn _ (by decide)) ?_
    refine V_iload_n C dX6_look_23 rfl ?_
    exact last
  refine V_aload_n C dX6_look_0 rfl ?_
  refine V_getR C fl_X6_10 (ob_K h1) r0 rfl dX6_look_1 ?_
  refine V_iload_n C dX6_look_4 rfl ?_
  refine V_callV (F := fun _ => True) C (c_isLump h9 hC.1.1 hO.1.1.1 u) mi_X1_isLump ml_X6_143 rfl (ob_K hK1) (by decide) (by decide) (by decide) (Nat.le_of_ble_eq_true rfl) (fun _ _ => trivial) (fun v _ => clo_T v) rfl dX6_look_5 ?_
  rintro v S' I' J' ⟨hS9, rfl, hI9, hJ9⟩
  obtain rfl := hS9.symm
  obtain rfl := hI9.symm
  obtain rfl := hJ9.symm
  refine V_if_ne C 13 dX6_look_8 (by decide) (fun h8 => ?_) (fun h8 => ?_)
  · exact good (Decidable.not_not.mp (fun q => h8 (bI_0.mpr q)))
  · refine V_iconst C (v := (-1)) dX6_look_11 (by decide +kernel) ?_
    exact V_iret C (Nat.zero_le _) (Nat.zero_le _) dX6_look_12 (hP _ _ _ _ ⟨by rw [lookV, if_neg (fun q => bI_0.mp h8 q.1)], hR0⟩)
set_option maxRecDepth 100000 in
set_option maxHeartbeats 1000000 in
theorem f_back (hR : ClsR z S I J) (hO : OkC z) : Mf l yX6_back cX6_back 5 (some .int) 5 [.ref 1100] S I J (fun v S' I' J' => v = some (.int (bkN z (cmD z.1.1))) ∧ ClsR z S' I' J') := by
  refine Mf.of (by decide) (fun ad => by simp [lg_sl, vv, Value.category]) (fun X P hP hn C => ?_)
  obtain ⟨la, lb, hS, hC⟩ := hR
  have hla : la = 1160 ∨ la = 1180 := by have := hS.2.2.2.2.2.2.2.2.2.2; omega
  have h30 := hO.1.1.1.2.2.2.2.1
  have h1 := hS.1
  have loop : ∀ (c x : Nat) (S0 : HS) (In : HI) (Jn : HJ) (x3 x4 : Option Value), x + c = cmD z.1.1 → (S0 = S ∨ S0 = enS S 1500) → Kc I J In Jn → V X P 0 0 4 [some (.ref 1100), some (.int (bkN z x)), some (.int (nI x)), x3, x4] [] S0 In Jn := by
    intro c
    induction c with
    | zero =>
      intro x S0 In Jn x3 x4 hx hS0 kk
      have hx : x = cmD z.1.1 := hx
      have hSS0 : SS S0 la lb := by rcases hS0 with rfl | rfl; exact hS; exact hS.en
      obtain ⟨j1, ⟨t0, -, -, -, -, -, -⟩, -, -, -, -, -, -, j9, -, -⟩ := id hSS0
      have hK1 := j9.1
      have hcl := hC.cls5 hS hO kk hS0
      have hcm : In 1500 6 = nI (cmD z.1.1) := (hC.ks hO hla kk).1.1.cm hO.1.1.1
      subst hx
      refine V_iload_n C dX6_back_4 rfl ?_
      refine V_aload_n C dX6_back_5 rfl ?_
      refine V_getR C fl_X6_10 (ob_K j1) t0 rfl dX6_back_6 ?_
      refine V_getI C fl_X6_221 (ob_K hK1) rfl dX6_back_9 ?_
      rw [hcm]
      refine V_icmp_ge C 63 dX6_back_12 (by decide) (fun h12 => ?_) (fun h12 => absurd (Int32.le_refl _) h12)
      refine V_iload_n C dX6_back_63 rfl ?_
      exact V_iret C (Nat.zero_le _) (Nat.zero_le _) dX6_back_64 (hP _ _ _ _ ⟨rfl, hcl⟩)
    | succ c ih =>
      intro x S0 In Jn x3 x4 hx hS0 kk
      have hSS0 : SS S0 la lb := by rcases hS0 with rfl | rfl; exact hS; exact hS.en
      obtain ⟨j1, ⟨t0, -, -, -, -, -, -⟩, -, -, -, -, -, -, j9, -, -⟩ := id hSS0
      have hK1 := j9.1
      have cc := hC.ks hO hla kk
      have hcm : In 1500 6 = nI (cmD z.1.1) := cc.1.1.cm hO.1.1.1
      obtain ⟨hLx, hRx⟩ := j9.2 x (by omega)
      have l0 := (cc.1.1.2.2.2 x (by omega)).1.1
      obtain ⟨sb, sb2, sb3⟩ := se_sb hO (u := x)
      have rest : ∀ (v : Int32) (S1 : HS) (I2 : HI) (J2 : HJ), v = (if z.1.1 5 x = 0 then seV z x else nI 0) → (S1 = S ∨ S1 = enS S 1500) → Kc I J I2 J2 → V X P 0 0 41 [some (.ref 1100), some (.int (bkN z x)), some (.int (nI x)), some (.ref (1500 + 20 + 10 * x)), x4] [.int v] S1 I2 J2 := by
        intro v S1 I2 J2 hv hS1 k2
        have e : bkN z (x + 1) = if v ≤ 0 then bkN z x else bkN z x + nI 10000 / v := by
          rw [bkN, hv]
          by_cases h5 : z.1.1 5 x = 0
          · rw [if_pos h5, if_pos h5]
            by_cases hs : seV z x ≤ 0
            · rw [if_pos hs, if_pos (sb2.mpr hs)]; exact Int32.add_zero _
            · rw [if_neg hs, if_neg (fun q => hs (sb2.mp q)), sb3 hs]
          · rw [if_neg h5, if_neg h5, if_pos (by decide), if_pos (by decide)]; exact Int32.add_zero _
        have nx := fun x4 => ih (x + 1) S1 I2 J2 (some (.ref (1500 + 20 + 10 * x))) x4 (by omega) hS1 k2
        rw [e] at nx
        refine V_istore C dX6_back_41 (hn _ (by decide)) ?_
        refine V_iload C dX6_back_43 rfl ?_
        refine V_if_le C 57 dX6_back_45 (by decide) (fun h45 => ?_) (fun h45 => ?_)
        · refine V_iincU C dX6_back_57 rfl (hn _ (by decide)) ?_
          refine V_goto C 4 dX6_back_60 (by decide) ?_
          first | (rw [if_pos h45] at nx; exact nx _) | (rw [if_neg h45] at nx; exact nx _)
        · refine V_iload_n C dX6_back_48 rfl ?_
          refine V_sipush C (v := nI 10000) dX6_back_49 (by decide +kernel) ?_
          refine V_iload C dX6_back_52 rfl ?_
          refine V_idiv C dX6_back_54 (fun q => h45 (by rw [q]; decide)) ?_
          refine V_iadd C dX6_back_55 ?_
          refine V_istore_n C dX6_back_56 (hn _ (by decide)) ?_
          refine V_iincU C dX6_back_57 rfl (hn _ (by decide)) ?_
          refine V_goto C 4 dX6_back_60 (by decide) ?_
          first | (rw [if_pos h45] at nx; exact nx _) | (rw [if_neg h45] at nx; exact nx _)
      refine V_iload_n C dX6_back_4 rfl ?_
      refine V_aload_n C dX6_back_5 rfl ?_
      refine V_getR C fl_X6_10 (ob_K j1) t0 rfl dX6_back_6 ?_
      refine V_getI C fl_X6_221 (ob_K hK1) rfl dX6_back_9 ?_
      rw [hcm]
      refine V_icmp_ge C 63 dX6_back_12 (by decide) (fun h12 => absurd h12 (nI_ge (by omega) (by omega))) (fun h12 => ?_)
      refine V_aload_n C dX6_back_15 rfl ?_
      refine V_getR C fl_X6_10 (ob_K j1) t0 rfl dX6_back_16 ?_
      refine V_getR C fl_X6_146 (ob_K hK1) (ob_R hK1 12 1513 rfl rfl) rfl dX6_back_19 ?_
      refine V_iload_n C dX6_back_22 rfl ?_
      refine V_aald C (x) (ob_A2 hK1 12 1513 rfl rfl) (by first | rfl | (simp only [nI_add, pk_mul]; done) | (simp only [nI_add, pk_mul]; congr 1; omega)) (by rw [ob_N hK1 12 1513 rfl rfl]; omega) (by rw [ob_N hK1 12 1513 rfl rfl]; decide) hRx dX6_back_23 ?_
      refine V_astore_n C dX6_back_24 (hn _ (by decide)) ?_
      refine V_aload_n C dX6_back_25 rfl ?_
      refine V_getI C fl_X6_150 (ob_K hLx) rfl dX6_back_26 ?_
      rw [l0]
      refine V_if_ne C 40 dX6_back_29 (by decide) (fun h29 => ?_) (fun h29 => ?_)
      · refine V_iconst C (v := nI 0) dX6_back_40 (by decide +kernel) ?_
        first | exact rest _ _ _ _ (by rw [if_neg h29]) hS0 kk | exact rest _ _ _ _ (by rw [if_pos h29]) (Or.inr rfl) k2
      · refine V_aload_n C dX6_back_32 rfl ?_
        refine V_aload_n C dX6_back_33 rfl ?_
        refine V_callV (F := fun _ => True) C (f_seenOf hS hO hC kk hS0 (u := x) (by omega)) mi_X6_seenOf ml_X6_176 rfl (ob_K j1) (by decide) (by decide) (by decide) (Nat.le_of_ble_eq_true rfl) (fun _ _ => trivial) (fun v _ => clo_T v) rfl dX6_back_34 ?_
        rintro v S' I2 J2 ⟨rfl, hS9, k2⟩
        subst hS9
        refine V_goto C 41 dX6_back_37 (by decide) ?_
        first | exact rest _ _ _ _ (by rw [if_neg h29]) hS0 kk | exact rest _ _ _ _ (by rw [if_pos h29]) (Or.inr rfl) k2
  refine V_iconst C (v := nI 0) dX6_back_0 (by decide +kernel) ?_
  refine V_istore_n C dX6_back_1 (hn _ (by decide)) ?_
  refine V_iconst C (v := nI 0) dX6_back_2 (by decide +kernel) ?_
  refine V_istore_n C dX6_back_3 (hn _ (by decide)) ?_
  exact loop _ 0 _ _ _ _ _ (Nat.zero_add _) (Or.inl rfl) Kc.re
end C20
