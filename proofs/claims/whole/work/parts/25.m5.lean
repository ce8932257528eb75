/-! the reference: sticks -/
section M5
variable {l : Launch} {S : HS} {I : HI} {J : HJ}
theorem lk_ne {lk : Nat} (h : lk ≤ 20) : ¬ nI 2 * nI lk + nI 1 = 0 := by
  rw [pk_mul, nI_add]
  exact nI_ne0 (by omega) (by omega)
set_option maxRecDepth 100000 in
set_option maxHeartbeats 4000000 in
theorem m_sticks (hM : Ob S 7 1000) {b : Nat} (hb : b < 8) {L : List Law} {g : Int32} {lk : Nat} (hG : rG I L g lk) (hD : rOk (refD I J b)) : Mn l yX7_sticks cX7_sticks 7 none 3 [.ref 1000, .int (nI b)] S I J (fun v I' J' => v = none ∧ refD I' J b = stickN (kcl L g) (nI lk) (rgD (refD I J b)) 0 (refD I J b) ∧ Fr b I J I' J ∧ J' = J) := by
  refine Mn.of (by decide) (fun ad => by simp [lg_sl, vv, Value.category]) (fun X P hP hn C => ?_)
  generalize hnn : rgD (refD I J b) = n at hP
  have hn0 : refD I J b 0 0 = nI n := by rw [← hnn]; exact hD.1
  have hn12 : n ≤ 12 := by rw [← hnn]; exact hD.2.2.1
  have hlk := lk_ne hG.2.2.2
  have outer : ∀ (c r : Nat) (Ic : HI) (x3 x4 x5 x6 : Option Value), r + c = n → Fr b I J Ic J → kpD (refD I J b) (refD Ic J b) → stickN (kcl L g) (nI lk) c r (refD Ic J b) = stickN (kcl L g) (nI lk) n 0 (refD I J b) → V X P 0 0 2 [some (.ref 1000), some (.int (nI b)), some (.int (nI r)), x3, x4, x5, x6] [] S Ic J := by
    intro c
    induction c with
    | zero =>
      intro r Ic x3 x4 x5 x6 hr hF hk he
      have hr : r = n := hr
      subst hr
      have c9 : Ic 1027 b ≤ nI r := by rw [show Ic 1027 b = nI r from hk.1.trans hn0]; exact Int32.le_refl _
      refine V_iload_n C dX7_sticks_2 rfl ?_
      refine V_aload_n C dX7_sticks_3 rfl ?_
      refine V_getR C fl_X7_116 (ob_K hM) (ob_R hM 26 1027 rfl rfl) rfl dX7_sticks_4 ?_
      refine V_iload_n C dX7_sticks_7 rfl ?_
      refine V_iald C (b) (ob_A hM 26 1027 rfl rfl) (by first | rfl | (simp only [nI_add, pk_mul]; done) | (simp only [nI_add, pk_mul]; congr 1; omega)) (by rw [ob_N hM 26 1027 rfl rfl]; omega) (by rw [ob_N hM 26 1027 rfl rfl]; decide) dX7_sticks_8 ?_
      refine V_icmp_ge C 193 dX7_sticks_9 (by decide) (fun h9 => ?_) (fun h9 => absurd (c9) h9)
      exact V_vret C (Nat.zero_le _) (Nat.zero_le _) dX7_sticks_193 (hP _ _ _ ⟨rfl, he, hF, rfl⟩)
    | succ c ih =>
      intro r Ic x3 x4 x5 x6 hr hF hk he
      have c9 : ¬ Ic 1027 b ≤ nI r := by rw [show Ic 1027 b = nI n from hk.1.trans hn0]; exact nI_ge (by omega) (by omega)
      have inner : ∀ (m : Nat) (Ic : HI) (x4 x5 x6 : Option Value), m ≤ 4 → Fr b I J Ic J → kpD (refD I J b) (refD Ic J b) → stickN (kcl L g) (nI lk) c (r + 1) (stickR (kcl L g) (nI lk) r m (refD Ic J b)) = stickN (kcl L g) (nI lk) n 0 (refD I J b) → V X P 0 0 14 [some (.ref 1000), some (.int (nI b)), some (.int (nI r)), some (.int (dn m)), x4, x5, x6] [] S Ic J := by
        intro m
        induction m with
        | zero =>
          intro Ic x4 x5 x6 hm hF hk he
          refine V_iload_n C dX7_sticks_14 rfl ?_
          refine V_if_lt C 187 dX7_sticks_15 (by decide) (fun h15 => ?_) (fun h15 => absurd (by decide) h15)
          refine V_iincU C dX7_sticks_187 rfl (hn _ (by decide)) ?_
          refine V_goto C 2 dX7_sticks_190 (by decide) ?_
          exact ih (r + 1) Ic _ _ _ _ (by omega) hF hk he
        | succ s ih2 =>
          intro Ic x4 x5 x6 hs hF hk he
          have hDc := hk.ok hD
          have hGc := hG.fr hF
          have h60 : 5 * r + s < 60 := by omega
          have h61 : 5 * r + s + 1 < 60 := by omega
          have fin : ∀ (In : HI) (x4 x5 x6 : Option Value), Fr b I J In J → refD In J b = stickAt (kcl L g) (nI lk) (refD Ic J b) r s → V X P 0 0 14 [some (.ref 1000), some (.int (nI b)), some (.int (nI r)), some (.int (nI s + Int32.ofInt (-1))), x4, x5, x6] [] S In J := by
            intro In x4 x5 x6 hF3 eN
            rw [dn_dec]
            refine ih2 In x4 x5 x6 (by omega) hF3 ?_ ?_
            · rw [eN]; exact hk.tr stickAt_kp
            · rw [eN]; exact he
          show V X P 0 0 14 [some (.ref 1000), some (.int (nI b)), some (.int (nI r)), some (.int (nI s)), x4, x5, x6] [] S Ic J
          refine V_iload_n C dX7_sticks_14 rfl ?_
          refine V_if_lt C 187 dX7_sticks_15 (by decide) (fun h15 => absurd h15 (nI_pos (by omega))) (fun h15 => ?_)
          refine V_aload_n C dX7_sticks_18 rfl ?_
          refine V_iload_n C dX7_sticks_19 rfl ?_
          refine V_iload_n C dX7_sticks_20 rfl ?_
          refine V_iload_n C dX7_sticks_21 rfl ?_
          refine V_callV (F := fun _ => True) C (m_knowsDust hM hb hDc (by omega) (by omega)) mi_X7_knowsDust ml_X7_355 rfl (ob_K hM) (by decide) (by decide) (by decide) (Nat.le_of_ble_eq_true rfl) (fun _ _ => trivial) (fun v _ => clo_T v) rfl dX7_sticks_22 ?_
          rintro v S' I' J' ⟨hS, rfl, hI, hJ⟩
          obtain rfl := hS.symm
          obtain rfl := hI.symm
          obtain rfl := hJ.symm
          refine V_aload_n C dX7_sticks_25 rfl ?_
          refine V_iconst C (v := nI 0) dX7_sticks_26 (by decide +kernel) ?_
          refine V_callV (F := fun _ => True) C (m_lawK hM hGc (by omega)) mi_X7_lawFor ml_X7_359 rfl (ob_K hM) (by decide) (by decide) (by decide) (Nat.le_of_ble_eq_true rfl) (fun _ _ => trivial) (fun v _ => clo_T v) rfl dX7_sticks_27 ?_
          rintro v S' I' J' ⟨hS, rfl, ⟨p2, hI⟩, hJ⟩
          obtain rfl := hS.symm
          obtain rfl := hJ.symm
          have hF2 := (hF.tr (Fr.kn (kn (Ic 1023) (fDu (refD Ic J b) r s)))).tr (Fr.pl p2)
          have eD : refD (va_up (va_up Ic 1023 (kn (Ic 1023) (fDu (refD Ic J b) r s))) 1024 p2) J b = refD Ic J b := by rw [refD_p, refD_kv]
          rw [← hI] at hF2 eD
          clear hI
          have e44 : I' 1000 44 = nI lk := (hG.fr hF2).2.2.1
          have e33 : I' 1033 b = refD Ic J b 0 3 := by rw [← eD]; rfl
          have e31 : I' 1031 (60 * b + (5 * r + s)) = refD Ic J b 4 (5 * r + s) := by rw [← eD, rD4 h60]
          refine V_istore C dX7_sticks_30 (hn _ (by decide)) ?_
          refine V_iload C dX7_sticks_32 rfl ?_
          refine V_if_lt C 124 dX7_sticks_34 (by decide) (fun h34 => ?_) (fun h34 => ?_)
          · refine V_iload C dX7_sticks_124 rfl ?_
            refine V_if_le C 181 dX7_sticks_126 (by decide) (fun h126 => ?_) (fun h126 => ?_)
            · refine V_iinc C dX7_sticks_181 rfl (hn _ (by decide)) ?_
              refine V_goto C 14 dX7_sticks_184 (by decide) ?_
              first
                | exact fin _ _ _ _ hF2 (by rw [eD, stickAt, if_pos (show kcl L g 0 (fDu (refD Ic J b) r s) < 0 from h34)])
                | exact absurd (Int32.le_of_lt h34) h126
                | exact fin _ _ _ _ hF2 (by rw [eD, stickAt, if_neg (show ¬ kcl L g 0 (fDu (refD Ic J b) r s) < 0 from h34), if_pos (show nI lk ≤ 0 by rw [← e44]; exact h41), if_pos (show kcl L g 0 (fDu (refD Ic J b) r s) ≤ 0 from h126)])
                | exact fin _ _ _ _ (hF2.tr (Fr.mv h60 h61)) (by rw [← e31, rMv h60 h61, e31, eD, stickAt, if_neg (show ¬ kcl L g 0 (fDu (refD Ic J b) r s) < 0 from h34), if_pos (show nI lk ≤ 0 by rw [← e44]; exact h41), if_neg (show ¬ kcl L g 0 (fDu (refD Ic J b) r s) ≤ 0 from h126)]; rfl)
                | exact fin _ _ _ _ (hF2.tr Fr.seed) (by rw [rSeed, eD, stickAt, if_neg (show ¬ kcl L g 0 (fDu (refD Ic J b) r s) < 0 from h34), if_neg (show ¬ nI lk ≤ 0 by rw [← e44]; exact h41), if_pos (show clN (lkN (sdN (refD Ic J b 0 3)) (kcl L g 0 (fDu (refD Ic J b) r s)) (nI lk)) ≤ 0 from h126)])
                | exact fin _ _ _ _ ((hF2.tr Fr.seed).tr (Fr.mv h60 h61)) (by rw [rMv h60 h61, rSeed, eD, stickAt, if_neg (show ¬ kcl L g 0 (fDu (refD Ic J b) r s) < 0 from h34), if_neg (show ¬ nI lk ≤ 0 by rw [← e44]; exact h41), if_neg (show ¬ clN (lkN (sdN (refD Ic J b 0 3)) (kcl L g 0 (fDu (refD Ic J b) r s)) (nI lk)) ≤ 0 from h126)]; rfl)
            · refine V_bipush C (v := nI 60) dX7_sticks_129 (by decide +kernel) ?_
              refine V_iload_n C dX7_sticks_131 rfl ?_
              refine V_imul C dX7_sticks_132 ?_
              refine V_iconst C (v := nI 5) dX7_sticks_133 (by decide +kernel) ?_
              refine V_iload_n C dX7_sticks_134 rfl ?_
              refine V_imul C dX7_sticks_135 ?_
              refine V_iadd C dX7_sticks_136 ?_
              refine V_iload_n C dX7_sticks_137 rfl ?_
              refine V_iadd C dX7_sticks_138 ?_
              refine V_istore C dX7_sticks_139 (hn _ (by decide)) ?_
              refine V_aload_n C dX7_sticks_141 rfl ?_
              refine V_getR C fl_X7_128 (ob_K hM) (ob_R hM 30 1031 rfl rfl) rfl dX7_sticks_142 ?_
              refine V_iload C dX7_sticks_145 rfl ?_
              refine V_iald C (60 * b + (5 * r + s)) (ob_A hM 30 1031 rfl rfl) (by first | rfl | (simp only [nI_add, pk_mul]; done) | (simp only [nI_add, pk_mul]; congr 1; omega)) (by rw [ob_N hM 30 1031 rfl rfl]; omega) (by rw [ob_N hM 30 1031 rfl rfl]; decide) dX7_sticks_147 ?_
              refine V_top (w := .int (refD Ic J b 4 (5 * r + s))) (congrArg Value.int e31) ?_
              refine V_iload C dX7_sticks_148 rfl ?_
              refine V_callS (F := fun _ => True) C (m_part _ _) ms_X7_part ml_X7_369 rfl (by decide) (by decide) (Nat.le_of_ble_eq_true rfl) (fun _ _ => trivial) (fun v _ => clo_T v) rfl dX7_sticks_150 ?_
              rintro v S' I' J' ⟨hS, rfl, hI, hJ⟩
              obtain rfl := hS.symm
              obtain rfl := hI.symm
              obtain rfl := hJ.symm
              refine V_istore C dX7_sticks_153 (hn _ (by decide)) ?_
              refine V_aload_n C dX7_sticks_155 rfl ?_
              refine V_getR C fl_X7_128 (ob_K hM) (ob_R hM 30 1031 rfl rfl) rfl dX7_sticks_156 ?_
              refine V_iload C dX7_sticks_159 rfl ?_
              refine V_dup2 C dX7_sticks_161 rfl rfl ?_
              refine V_iald C (60 * b + (5 * r + s)) (ob_A hM 30 1031 rfl rfl) (by first | rfl | (simp only [nI_add, pk_mul]; done) | (simp only [nI_add, pk_mul]; congr 1; omega)) (by rw [ob_N hM 30 1031 rfl rfl]; omega) (by rw [ob_N hM 30 1031 rfl rfl]; decide) dX7_sticks_162 ?_
              refine V_iload C dX7_sticks_163 rfl ?_
              refine V_isub C dX7_sticks_165 ?_
              refine V_iast C (60 * b + (5 * r + s)) (ob_A hM 30 1031 rfl rfl) (by first | rfl | (simp only [nI_add, pk_mul]; done) | (simp only [nI_add, pk_mul]; congr 1; omega)) (by rw [ob_N hM 30 1031 rfl rfl]; omega) (by rw [ob_N hM 30 1031 rfl rfl]; decide) dX7_sticks_166 ?_
              refine V_aload_n C dX7_sticks_167 rfl ?_
              refine V_getR C fl_X7_128 (ob_K hM) (ob_R hM 30 1031 rfl rfl) rfl dX7_sticks_168 ?_
              refine V_iload C dX7_sticks_171 rfl ?_
              refine V_iconst C (v := nI 1) dX7_sticks_173 (by decide +kernel) ?_
              refine V_iadd C dX7_sticks_174 ?_
              refine V_dup2 C dX7_sticks_175 rfl rfl ?_
              refine V_iald C (60 * b + (5 * r + s + 1)) (ob_A hM 30 1031 rfl rfl) (by first | rfl | (simp only [nI_add, pk_mul]; done) | (simp only [nI_add, pk_mul]; congr 1; omega)) (by rw [ob_N hM 30 1031 rfl rfl]; omega) (by rw [ob_N hM 30 1031 rfl rfl]; decide) dX7_sticks_176 ?_
              refine V_iload C dX7_sticks_177 rfl ?_
              refine V_iadd C dX7_sticks_179 ?_
              refine V_iast C (60 * b + (5 * r + s + 1)) (ob_A hM 30 1031 rfl rfl) (by first | rfl | (simp only [nI_add, pk_mul]; done) | (simp only [nI_add, pk_mul]; congr 1; omega)) (by rw [ob_N hM 30 1031 rfl rfl]; omega) (by rw [ob_N hM 30 1031 rfl rfl]; decide) dX7_sticks_180 ?_
              refine V_iinc C dX7_sticks_181 rfl (hn _ (by decide)) ?_
              refine V_goto C 14 dX7_sticks_184 (by decide) ?_
              first
                | exact fin _ _ _ _ hF2 (by rw [eD, stickAt, if_pos (show kcl L g 0 (fDu (refD Ic J b) r s) < 0 from h34)])
                | exact absurd (Int32.le_of_lt h34) h126
                | exact fin _ _ _ _ hF2 (by rw [eD, stickAt, if_neg (show ¬ kcl L g 0 (fDu (refD Ic J b) r s) < 0 from h34), if_pos (show nI lk ≤ 0 by rw [← e44]; exact h41), if_pos (show kcl L g 0 (fDu (refD Ic J b) r s) ≤ 0 from h126)])
                | exact fin _ _ _ _ (hF2.tr (Fr.mv h60 h61)) (by rw [← e31, rMv h60 h61, e31, eD, stickAt, if_neg (show ¬ kcl L g 0 (fDu (refD Ic J b) r s) < 0 from h34), if_pos (show nI lk ≤ 0 by rw [← e44]; exact h41), if_neg (show ¬ kcl L g 0 (fDu (refD Ic J b) r s) ≤ 0 from h126)]; rfl)
                | exact fin _ _ _ _ (hF2.tr Fr.seed) (by rw [rSeed, eD, stickAt, if_neg (show ¬ kcl L g 0 (fDu (refD Ic J b) r s) < 0 from h34), if_neg (show ¬ nI lk ≤ 0 by rw [← e44]; exact h41), if_pos (show clN (lkN (sdN (refD Ic J b 0 3)) (kcl L g 0 (fDu (refD Ic J b) r s)) (nI lk)) ≤ 0 from h126)])
                | exact fin _ _ _ _ ((hF2.tr Fr.seed).tr (Fr.mv h60 h61)) (by rw [rMv h60 h61, rSeed, eD, stickAt, if_neg (show ¬ kcl L g 0 (fDu (refD Ic J b) r s) < 0 from h34), if_neg (show ¬ nI lk ≤ 0 by rw [← e44]; exact h41), if_neg (show ¬ clN (lkN (sdN (refD Ic J b 0 3)) (kcl L g 0 (fDu (refD Ic J b) r s)) (nI lk)) ≤ 0 from h126)]; rfl)
          · refine V_aload_n C dX7_sticks_37 rfl ?_
            refine V_getI C fl_X7_308 (ob_K hM) rfl dX7_sticks_38 ?_
            refine V_if_le C 124 dX7_sticks_41 (by decide) (fun h41 => ?_) (fun h41 => ?_)
            · refine V_iload C dX7_sticks_124 rfl ?_
              refine V_if_le C 181 dX7_sticks_126 (by decide) (fun h126 => ?_) (fun h126 => ?_)
              · refine V_iinc C dX7_sticks_181 rfl (hn _ (by decide)) ?_
                refine V_goto C 14 dX7_sticks_184 (by decide) ?_
                first
                  | exact fin _ _ _ _ hF2 (by rw [eD, stickAt, if_pos (show kcl L g 0 (fDu (refD Ic J b) r s) < 0 from h34)])
                  | exact absurd (Int32.le_of_lt h34) h126
                  | exact fin _ _ _ _ hF2 (by rw [eD, stickAt, if_neg (show ¬ kcl L g 0 (fDu (refD Ic J b) r s) < 0 from h34), if_pos (show nI lk ≤ 0 by rw [← e44]; exact h41), if_pos (show kcl L g 0 (fDu (refD Ic J b) r s) ≤ 0 from h126)])
                  | exact fin _ _ _ _ (hF2.tr (Fr.mv h60 h61)) (by rw [← e31, rMv h60 h61, e31, eD, stickAt, if_neg (show ¬ kcl L g 0 (fDu (refD Ic J b) r s) < 0 from h34), if_pos (show nI lk ≤ 0 by rw [← e44]; exact h41), if_neg (show ¬ kcl L g 0 (fDu (refD Ic J b) r s) ≤ 0 from h126)]; rfl)
                  | exact fin _ _ _ _ (hF2.tr Fr.seed) (by rw [rSeed, eD, stickAt, if_neg (show ¬ kcl L g 0 (fDu (refD Ic J b) r s) < 0 from h34), if_neg (show ¬ nI lk ≤ 0 by rw [← e44]; exact h41), if_pos (show clN (lkN (sdN (refD Ic J b 0 3)) (kcl L g 0 (fDu (refD Ic J b) r s)) (nI lk)) ≤ 0 from h126)])
                  | exact fin _ _ _ _ ((hF2.tr Fr.seed).tr (Fr.mv h60 h61)) (by rw [rMv h60 h61, rSeed, eD, stickAt, if_neg (show ¬ kcl L g 0 (fDu (refD Ic J b) r s) < 0 from h34), if_neg (show ¬ nI lk ≤ 0 by rw [← e44]; exact h41), if_neg (show ¬ clN (lkN (sdN (refD Ic J b 0 3)) (kcl L g 0 (fDu (refD Ic J b) r s)) (nI lk)) ≤ 0 from h126)]; rfl)
              · refine V_bipush C (v := nI 60) dX7_sticks_129 (by decide +kernel) ?_
                refine V_iload_n C dX7_sticks_131 rfl ?_
                refine V_imul C dX7_sticks_132 ?_
                refine V_iconst C (v := nI 5) dX7_sticks_133 (by decide +kernel) ?_
                refine V_iload_n C dX7_sticks_134 rfl ?_
                refine V_imul C dX7_sticks_135 ?_
                refine V_iadd C dX7_sticks_136 ?_
                refine V_iload_n C dX7_sticks_137 rfl ?_
                refine V_iadd C dX7_sticks_138 ?_
                refine V_istore C dX7_sticks_139 (hn _ (by decide)) ?_
                refine V_aload_n C dX7_sticks_141 rfl ?_
                refine V_getR C fl_X7_128 (ob_K hM) (ob_R hM 30 1031 rfl rfl) rfl dX7_sticks_142 ?_
                refine V_iload C dX7_sticks_145 rfl ?_
                refine V_iald C (60 * b + (5 * r + s)) (ob_A hM 30 1031 rfl rfl) (by first | rfl | (simp only [nI_add, pk_mul]; done) | (simp only [nI_add, pk_mul]; congr 1; omega)) (by rw [ob_N hM 30 1031 rfl rfl]; omega) (by rw [ob_N hM 30 1031 rfl rfl]; decide) dX7_sticks_147 ?_
                refine V_top (w := .int (refD Ic J b 4 (5 * r + s))) (congrArg Value.int e31) ?_
                refine V_iload C dX7_sticks_148 rfl ?_
                refine V_callS (F := fun _ => True) C (m_part _ _) ms_X7_part ml_X7_369 rfl (by decide) (by decide) (Nat.le_of_ble_eq_true rfl) (fun _ _ => trivial) (fun v _ => clo_T v) rfl dX7_sticks_150 ?_
                rintro v S' I' J' ⟨hS, rfl, hI, hJ⟩
                obtain rfl := hS.symm
                obtain rfl := hI.symm
                obtain rfl := hJ.symm
                refine V_istore C dX7_sticks_153 (hn _ (by decide)) ?_
                refine V_aload_n C dX7_sticks_155 rfl ?_
                refine V_getR C fl_X7_128 (ob_K hM) (ob_R hM 30 1031 rfl rfl) rfl dX7_sticks_156 ?_
                refine V_iload C dX7_sticks_159 rfl ?_
                refine V_dup2 C dX7_sticks_161 rfl rfl ?_
                refine V_iald C (60 * b + (5 * r + s)) (ob_A hM 30 1031 rfl rfl) (by first | rfl | (simp only [nI_add, pk_mul]; done) | (simp only [nI_add, pk_mul]; congr 1; omega)) (by rw [ob_N hM 30 1031 rfl rfl]; omega) (by rw [ob_N hM 30 1031 rfl rfl]; decide) dX7_sticks_162 ?_
                refine V_iload C dX7_sticks_163 rfl ?_
                refine V_isub C dX7_sticks_165 ?_
                refine V_iast C (60 * b + (5 * r + s)) (ob_A hM 30 1031 rfl rfl) (by first | rfl | (simp only [nI_add, pk_mul]; done) | (simp only [nI_add, pk_mul]; congr 1; omega)) (by rw [ob_N hM 30 1031 rfl rfl]; omega) (by rw [ob_N hM 30 1031 rfl rfl]; decide) dX7_sticks_166 ?_
                refine V_aload_n C dX7_sticks_167 rfl ?_
                refine V_getR C fl_X7_128 (ob_K hM) (ob_R hM 30 1031 rfl rfl) rfl dX7_sticks_168 ?_
                refine V_iload C dX7_sticks_171 rfl ?_
                refine V_iconst C (v := nI 1) dX7_sticks_173 (by decide +kernel) ?_
                refine V_iadd C dX7_sticks_174 ?_
                refine V_dup2 C dX7_sticks_175 rfl rfl ?_
                refine V_iald C (60 * b + (5 * r + s + 1)) (ob_A hM 30 1031 rfl rfl) (by first | rfl | (simp only [nI_add, pk_mul]; done) | (simp only [nI_add, pk_mul]; congr 1; omega)) (by rw [ob_N hM 30 1031 rfl rfl]; omega) (by rw [ob_N hM 30 1031 rfl rfl]; decide) dX7_sticks_176 ?_
                refine V_iload C dX7_sticks_177 rfl ?_
                refine V_iadd C dX7_sticks_179 ?_
                refine V_iast C (60 * b + (5 * r + s + 1)) (ob_A hM 30 1031 rfl rfl) (by first | rfl | (simp only [nI_add, pk_mul]; done) | (simp only [nI_add, pk_mul]; congr 1; omega)) (by rw [ob_N hM 30 1031 rfl rfl]; omega) (by rw [ob_N hM 30 1031 rfl rfl]; decide) dX7_sticks_180 ?_
                refine V_iinc C dX7_sticks_181 rfl (hn _ (by decide)) ?_
                refine V_goto C 14 dX7_sticks_184 (by decide) ?_
                first
                  | exact fin _ _ _ _ hF2 (by rw [eD, stickAt, if_pos (show kcl L g 0 (fDu (refD Ic J b) r s) < 0 from h34)])
                  | exact absurd (Int32.le_of_lt h34) h126
                  | exact fin _ _ _ _ hF2 (by rw [eD, stickAt, if_neg (show ¬ kcl L g 0 (fDu (refD Ic J b) r s) < 0 from h34), if_pos (show nI lk ≤ 0 by rw [← e44]; exact h41), if_pos (show kcl L g 0 (fDu (refD Ic J b) r s) ≤ 0 from h126)])
                  | exact fin _ _ _ _ (hF2.tr (Fr.mv h60 h61)) (by rw [← e31, rMv h60 h61, e31, eD, stickAt, if_neg (show ¬ kcl L g 0 (fDu (refD Ic J b) r s) < 0 from h34), if_pos (show nI lk ≤ 0 by rw [← e44]; exact h41), if_neg (show ¬ kcl L g 0 (fDu (refD Ic J b) r s) ≤ 0 from h126)]; rfl)
                  | exact fin _ _ _ _ (hF2.tr Fr.seed) (by rw [rSeed, eD, stickAt, if_neg (show ¬ kcl L g 0 (fDu (refD Ic J b) r s) < 0 from h34), if_neg (show ¬ nI lk ≤ 0 by rw [← e44]; exact h41), if_pos (show clN (lkN (sdN (refD Ic J b 0 3)) (kcl L g 0 (fDu (refD Ic J b) r s)) (nI lk)) ≤ 0 from h126)])
                  | exact fin _ _ _ _ ((hF2.tr Fr.seed).tr (Fr.mv h60 h61)) (by rw [rMv h60 h61, rSeed, eD, stickAt, if_neg (show ¬ kcl L g 0 (fDu (refD Ic J b) r s) < 0 from h34), if_neg (show ¬ nI lk ≤ 0 by rw [← e44]; exact h41), if_neg (show ¬ clN (lkN (sdN (refD Ic J b 0 3)) (kcl L g 0 (fDu (refD Ic J b) r s)) (nI lk)) ≤ 0 from h126)]; rfl)
            · refine V_aload_n C dX7_sticks_44 rfl ?_
              refine V_getR C fl_X7_134 (ob_K hM) (ob_R hM 32 1033 rfl rfl) rfl dX7_sticks_45 ?_
              refine V_iload_n C dX7_sticks_48 rfl ?_
              refine V_aload_n C dX7_sticks_49 rfl ?_
              refine V_getR C fl_X7_134 (ob_K hM) (ob_R hM 32 1033 rfl rfl) rfl dX7_sticks_50 ?_
              refine V_iload_n C dX7_sticks_53 rfl ?_
              refine V_iald C (b) (ob_A hM 32 1033 rfl rfl) (by first | rfl | (simp only [nI_add, pk_mul]; done) | (simp only [nI_add, pk_mul]; congr 1; omega)) (by rw [ob_N hM 32 1033 rfl rfl]; omega) (by rw [ob_N hM 32 1033 rfl rfl]; decide) dX7_sticks_54 ?_
              refine V_i2l C dX7_sticks_55 ?_
              refine V_ldc2 C dX7_sticks_56 kl_X7_362 ?_
              refine V_lmul C dX7_sticks_59 ?_
              refine V_ldc2 C dX7_sticks_60 kl_X7_364 ?_
              refine V_ladd C dX7_sticks_63 ?_
              refine V_ldc2 C dX7_sticks_64 kl_X7_366 ?_
              refine V_lrem C dX7_sticks_67 (by decide) ?_
              refine V_l2i C dX7_sticks_68 ?_
              refine V_top (w := .int (sdN (refD Ic J b 0 3))) (by rw [← e33]; rfl) ?_
              refine V_iast C (b) (ob_A hM 32 1033 rfl rfl) (by first | rfl | (simp only [nI_add, pk_mul]; done) | (simp only [nI_add, pk_mul]; congr 1; omega)) (by rw [ob_N hM 32 1033 rfl rfl]; omega) (by rw [ob_N hM 32 1033 rfl rfl]; decide) dX7_sticks_69 ?_
              refine V_iload C dX7_sticks_70 rfl ?_
              refine V_aload_n C dX7_sticks_72 rfl ?_
              refine V_getR C fl_X7_134 (ob_K hM) (ob_R hM 32 1033 rfl rfl) rfl dX7_sticks_73 ?_
              refine V_iload_n C dX7_sticks_76 rfl ?_
              refine V_iald C (b) (ob_A hM 32 1033 rfl rfl) (by first | rfl | (simp only [nI_add, pk_mul]; done) | (simp only [nI_add, pk_mul]; congr 1; omega)) (by rw [ob_N hM 32 1033 rfl rfl]; omega) (by rw [ob_N hM 32 1033 rfl rfl]; decide) dX7_sticks_77 ?_
              refine V_ldcw C dX7_sticks_78 kc_X7_368 ?_
              refine V_idiv C dX7_sticks_81 (by decide) ?_
              refine V_iconst C (v := nI 2) dX7_sticks_82 (by decide +kernel) ?_
              refine V_aload_n C dX7_sticks_83 rfl ?_
              refine V_getI C fl_X7_308 (ob_K hM) rfl dX7_sticks_84 ?_
              refine V_imul C dX7_sticks_87 ?_
              refine V_iconst C (v := nI 1) dX7_sticks_88 (by decide +kernel) ?_
              refine V_iadd C dX7_sticks_89 ?_
              rw [up2_ne I' _ _ (show (1000 : Nat) ≠ 1033 by decide), e44]
              refine V_irem C dX7_sticks_90 hlk ?_
              refine V_iadd C dX7_sticks_91 ?_
              refine V_aload_n C dX7_sticks_92 rfl ?_
              refine V_getI C fl_X7_308 (ob_K hM) rfl dX7_sticks_93 ?_
              rw [up2_ne I' _ _ (show (1000 : Nat) ≠ 1033 by decide), e44]
              refine V_isub C dX7_sticks_96 ?_
              refine V_top (w := .int (lkN (sdN (refD Ic J b 0 3)) (kcl L g 0 (fDu (refD Ic J b) r s)) (nI lk))) (by rw [up2_row, va_up_self]; rfl) ?_
              refine V_istore C dX7_sticks_97 (hn _ (by decide)) ?_
              refine V_iload C dX7_sticks_99 rfl ?_
              refine V_tern_if_ge (vt := if lkN (sdN (refD Ic J b 0 3)) (kcl L g 0 (fDu (refD Ic J b) r s)) (nI lk) ≤ nI 100 then lkN (sdN (refD Ic J b 0 3)) (kcl L g 0 (fDu (refD Ic J b) r s)) (nI lk) else nI 100) (vf := nI 0) (pm := 122) C 108 dX7_sticks_101 (by decide) (fun h101 k => ?_) (fun h101 k => ?_) ?_
              · refine V_iload C dX7_sticks_108 rfl ?_
                refine V_bipush C (v := nI 100) dX7_sticks_110 (by decide +kernel) ?_
                refine V_tern_icmp_le (vt := lkN (sdN (refD Ic J b 0 3)) (kcl L g 0 (fDu (refD Ic J b) r s)) (nI lk)) (vf := nI 100) (pm := 122) C 120 dX7_sticks_112 (by decide) (fun h112 k => ?_) (fun h112 k => ?_) ?_
                · refine V_iload C dX7_sticks_120 rfl ?_
                  exact k
                · refine V_bipush C (v := nI 100) dX7_sticks_115 (by decide +kernel) ?_
                  refine V_goto C 122 dX7_sticks_117 (by decide) ?_
                  exact k
                exact k
              · refine V_iconst C (v := nI 0) dX7_sticks_104 (by decide +kernel) ?_
                refine V_goto C 122 dX7_sticks_105 (by decide) ?_
                exact k
              refine V_istore C dX7_sticks_122 (hn _ (by decide)) ?_
              refine V_iload C dX7_sticks_124 rfl ?_
              refine V_if_le C 181 dX7_sticks_126 (by decide) (fun h126 => ?_) (fun h126 => ?_)
              · refine V_iinc C dX7_sticks_181 rfl (hn _ (by decide)) ?_
                refine V_goto C 14 dX7_sticks_184 (by decide) ?_
                first
                  | exact fin _ _ _ _ hF2 (by rw [eD, stickAt, if_pos (show kcl L g 0 (fDu (refD Ic J b) r s) < 0 from h34)])
                  | exact absurd (Int32.le_of_lt h34) h126
                  | exact fin _ _ _ _ hF2 (by rw [eD, stickAt, if_neg (show ¬ kcl L g 0 (fDu (refD Ic J b) r s) < 0 from h34), if_pos (show nI lk ≤ 0 by rw [← e44]; exact h41), if_pos (show kcl L g 0 (fDu (refD Ic J b) r s) ≤ 0 from h126)])
                  | exact fin _ _ _ _ (hF2.tr (Fr.mv h60 h61)) (by rw [← e31, rMv h60 h61, e31, eD, stickAt, if_neg (show ¬ kcl L g 0 (fDu (refD Ic J b) r s) < 0 from h34), if_pos (show nI lk ≤ 0 by rw [← e44]; exact h41), if_neg (show ¬ kcl L g 0 (fDu (refD Ic J b) r s) ≤ 0 from h126)]; rfl)
                  | exact fin _ _ _ _ (hF2.tr Fr.seed) (by rw [rSeed, eD, stickAt, if_neg (show ¬ kcl L g 0 (fDu (refD Ic J b) r s) < 0 from h34), if_neg (show ¬ nI lk ≤ 0 by rw [← e44]; exact h41), if_pos (show clN (lkN (sdN (refD Ic J b 0 3)) (kcl L g 0 (fDu (refD Ic J b) r s)) (nI lk)) ≤ 0 from h126)])
                  | exact fin _ _ _ _ ((hF2.tr Fr.seed).tr (Fr.mv h60 h61)) (by rw [rMv h60 h61, rSeed, eD, stickAt, if_neg (show ¬ kcl L g 0 (fDu (refD Ic J b) r s) < 0 from h34), if_neg (show ¬ nI lk ≤ 0 by rw [← e44]; exact h41), if_neg (show ¬ clN (lkN (sdN (refD Ic J b 0 3)) (kcl L g 0 (fDu (refD Ic J b) r s)) (nI lk)) ≤ 0 from h126)]; rfl)
              · refine V_bipush C (v := nI 60) dX7_sticks_129 (by decide +kernel) ?_
                refine V_iload_n C dX7_sticks_131 rfl ?_
                refine V_imul C dX7_sticks_132 ?_
                refine V_iconst C (v := nI 5) dX7_sticks_133 (by decide +kernel) ?_
                refine V_iload_n C dX7_sticks_134 rfl ?_
                refine V_imul C dX7_sticks_135 ?_
                refine V_iadd C dX7_sticks_136 ?_
                refine V_iload_n C dX7_sticks_137 rfl ?_
                refine V_iadd C dX7_sticks_138 ?_
                refine V_istore C dX7_sticks_139 (hn _ (by decide)) ?_
                refine V_aload_n C dX7_sticks_141 rfl ?_
                refine V_getR C fl_X7_128 (ob_K hM) (ob_R hM 30 1031 rfl rfl) rfl dX7_sticks_142 ?_
                refine V_iload C dX7_sticks_145 rfl ?_
                refine V_iald C (60 * b + (5 * r + s)) (ob_A hM 30 1031 rfl rfl) (by first | rfl | (simp only [nI_add, pk_mul]; done) | (simp only [nI_add, pk_mul]; congr 1; omega)) (by rw [ob_N hM 30 1031 rfl rfl]; omega) (by rw [ob_N hM 30 1031 rfl rfl]; decide) dX7_sticks_147 ?_
                refine V_top (w := .int (refD Ic J b 4 (5 * r + s))) (congrArg Value.int e31) ?_
                refine V_iload C dX7_sticks_148 rfl ?_
                refine V_callS (F := fun _ => True) C (m_part _ _) ms_X7_part ml_X7_369 rfl (by decide) (by decide) (Nat.le_of_ble_eq_true rfl) (fun _ _ => trivial) (fun v _ => clo_T v) rfl dX7_sticks_150 ?_
                rintro v S' I' J' ⟨hS, rfl, hI, hJ⟩
                obtain rfl := hS.symm
                obtain rfl := hI.symm
                obtain rfl := hJ.symm
                refine V_istore C dX7_sticks_153 (hn _ (by decide)) ?_
                refine V_aload_n C dX7_sticks_155 rfl ?_
                refine V_getR C fl_X7_128 (ob_K hM) (ob_R hM 30 1031 rfl rfl) rfl dX7_sticks_156 ?_
                refine V_iload C dX7_sticks_159 rfl ?_
                refine V_dup2 C dX7_sticks_161 rfl rfl ?_
                refine V_iald C (60 * b + (5 * r + s)) (ob_A hM 30 1031 rfl rfl) (by first | rfl | (simp only [nI_add, pk_mul]; done) | (simp only [nI_add, pk_mul]; congr 1; omega)) (by rw [ob_N hM 30 1031 rfl rfl]; omega) (by rw [ob_N hM 30 1031 rfl rfl]; decide) dX7_sticks_162 ?_
                refine V_iload C dX7_sticks_163 rfl ?_
                refine V_isub C dX7_sticks_165 ?_
                refine V_iast C (60 * b + (5 * r + s)) (ob_A hM 30 1031 rfl rfl) (by first | rfl | (simp only [nI_add, pk_mul]; done) | (simp only [nI_add, pk_mul]; congr 1; omega)) (by rw [ob_N hM 30 1031 rfl rfl]; omega) (by rw [ob_N hM 30 1031 rfl rfl]; decide) dX7_sticks_166 ?_
                refine V_aload_n C dX7_sticks_167 rfl ?_
                refine V_getR C fl_X7_128 (ob_K hM) (ob_R hM 30 1031 rfl rfl) rfl dX7_sticks_168 ?_
                refine V_iload C dX7_sticks_171 rfl ?_
                refine V_iconst C (v := nI 1) dX7_sticks_173 (by decide +kernel) ?_
                refine V_iadd C dX7_sticks_174 ?_
                refine V_dup2 C dX7_sticks_175 rfl rfl ?_
                refine V_iald C (60 * b + (5 * r + s + 1)) (ob_A hM 30 1031 rfl rfl) (by first | rfl | (simp only [nI_add, pk_mul]; done) | (simp only [nI_add, pk_mul]; congr 1; omega)) (by rw [ob_N hM 30 1031 rfl rfl]; omega) (by rw [ob_N hM 30 1031 rfl rfl]; decide) dX7_sticks_176 ?_
                refine V_iload C dX7_sticks_177 rfl ?_
                refine V_iadd C dX7_sticks_179 ?_
                refine V_iast C (60 * b + (5 * r + s + 1)) (ob_A hM 30 1031 rfl rfl) (by first | rfl | (simp only [nI_add, pk_mul]; done) | (simp only [nI_add, pk_mul]; congr 1; omega)) (by rw [ob_N hM 30 1031 rfl rfl]; omega) (by rw [ob_N hM 30 1031 rfl rfl]; decide) dX7_sticks_180 ?_
                refine V_iinc C dX7_sticks_181 rfl (hn _ (by decide)) ?_
                refine V_goto C 14 dX7_sticks_184 (by decide) ?_
                first
                  | exact fin _ _ _ _ hF2 (by rw [eD, stickAt, if_pos (show kcl L g 0 (fDu (refD Ic J b) r s) < 0 from h34)])
                  | exact absurd (Int32.le_of_lt h34) h126
                  | exact fin _ _ _ _ hF2 (by rw [eD, stickAt, if_neg (show ¬ kcl L g 0 (fDu (refD Ic J b) r s) < 0 from h34), if_pos (show nI lk ≤ 0 by rw [← e44]; exact h41), if_pos (show kcl L g 0 (fDu (refD Ic J b) r s) ≤ 0 from h126)])
                  | exact fin _ _ _ _ (hF2.tr (Fr.mv h60 h61)) (by rw [← e31, rMv h60 h61, e31, eD, stickAt, if_neg (show ¬ kcl L g 0 (fDu (refD Ic J b) r s) < 0 from h34), if_pos (show nI lk ≤ 0 by rw [← e44]; exact h41), if_neg (show ¬ kcl L g 0 (fDu (refD Ic J b) r s) ≤ 0 from h126)]; rfl)
                  | exact fin _ _ _ _ (hF2.tr Fr.seed) (by rw [rSeed, eD, stickAt, if_neg (show ¬ kcl L g 0 (fDu (refD Ic J b) r s) < 0 from h34), if_neg (show ¬ nI lk ≤ 0 by rw [← e44]; exact h41), if_pos (show clN (lkN (sdN (refD Ic J b 0 3)) (kcl L g 0 (fDu (refD Ic J b) r s)) (nI lk)) ≤ 0 from h126)])
                  | exact fin _ _ _ _ ((hF2.tr Fr.seed).tr (Fr.mv h60 h61)) (by rw [rMv h60 h61, rSeed, eD, stickAt, if_neg (show ¬ kcl L g 0 (fDu (refD Ic J b) r s) < 0 from h34), if_neg (show ¬ nI lk ≤ 0 by rw [← e44]; exact h41), if_neg (show ¬ clN (lkN (sdN (refD Ic J b 0 3)) (kcl L g 0 (fDu (refD Ic J b) r s)) (nI lk)) ≤ 0 from h126)]; rfl)
      refine V_iload_n C dX7_sticks_2 rfl ?_
      refine V_aload_n C dX7_sticks_3 rfl ?_
      refine V_getR C fl_X7_116 (ob_K hM) (ob_R hM 26 1027 rfl rfl) rfl dX7_sticks_4 ?_
      refine V_iload_n C dX7_sticks_7 rfl ?_
      refine V_iald C (b) (ob_A hM 26 1027 rfl rfl) (by first | rfl | (simp only [nI_add, pk_mul]; done) | (simp only [nI_add, pk_mul]; congr 1; omega)) (by rw [ob_N hM 26 1027 rfl rfl]; omega) (by rw [ob_N hM 26 1027 rfl rfl]; decide) dX7_sticks_8 ?_
      refine V_icmp_ge C 193 dX7_sticks_9 (by decide) (fun h9 => absurd h9 (c9)) (fun h9 => ?_)
      refine V_iconst C (v := nI 3) dX7_sticks_12 (by decide +kernel) ?_
      refine V_istore_n C dX7_sticks_13 (hn _ (by decide)) ?_
      exact inner 4 Ic _ _ _ (by omega) hF hk he
  refine V_iconst C (v := nI 0) dX7_sticks_0 (by decide +kernel) ?_
  refine V_istore_n C dX7_sticks_1 (hn _ (by decide)) ?_
  exact outer n 0 I _ _ _ _ (by omega) Fr.re kpD.re rfl
end M5
