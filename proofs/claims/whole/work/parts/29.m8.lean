/-! the reference: eats, feeds -/
section M8
variable {l : Launch} {S : HS} {I : HI} {J : HJ}
def eatAt (lw : LW) (D : DV) (u : Nat) : DV := if D 5 u = 0 then
    up2 (up2 D 1 (rg D u) (D 1 (rg D u) - (if lw 5 (fLu D u) ≤ 0 then nI 0 else prt (D 1 (rg D u)) (lw 5 (fLu D u))))) 7 u (D 7 u + (if lw 5 (fLu D u) ≤ 0 then nI 0 else prt (D 1 (rg D u)) (lw 5 (fLu D u)))) else D
def eatN (lw : LW) : Nat → Nat → DV → DV
  | 0, _, D => D
  | c + 1, u, D => eatN lw c (u + 1) (eatAt lw D u)
theorem eatAt_kp {lw : LW} {D : DV} {u : Nat} : kpD D (eatAt lw D u) := by
  unfold eatAt
  split
  · exact ⟨rfl, rfl, rfl⟩
  · exact kpD.re
theorem eatN_kp {lw : LW} : ∀ (c u : Nat) (D : DV), kpD D (eatN lw c u D)
  | 0, _, _ => kpD.re
  | c + 1, u, D => eatAt_kp.tr (eatN_kp c (u + 1) _)
def fdAt (r u : Nat) (n : Int32) (s : Nat) (D : DV) : DV := up2 (up2 D 4 (5 * r + s) (D 4 (5 * r + s) - prt (D 4 (5 * r + s)) n)) 11 (12 * u + r) (D 11 (12 * u + r) + prt (D 4 (5 * r + s)) n)
def fdR (r u : Nat) (n : Int32) : Nat → Nat → DV → DV
  | 0, _, D => D
  | c + 1, s, D => fdR r u n c (s + 1) (fdAt r u n s D)
def feedAt (lw : LW) (D : DV) (u : Nat) : DV := if D 5 u = 0 then (if lw 4 (fLu D u) ≤ 0 then D else fdR (rg D u) u (lw 4 (fLu D u)) 5 0 D) else D
def feedN (lw : LW) : Nat → Nat → DV → DV
  | 0, _, D => D
  | c + 1, u, D => feedN lw c (u + 1) (feedAt lw D u)
theorem fdR_kp {r u : Nat} {n : Int32} : ∀ (c s : Nat) (D : DV), kpD D (fdR r u n c s D)
  | 0, _, _ => kpD.re
  | c + 1, s, D => (show kpD D (fdAt r u n s D) from ⟨rfl, rfl, rfl⟩).tr (fdR_kp c (s + 1) _)
theorem feedAt_kp {lw : LW} {D : DV} {u : Nat} : kpD D (feedAt lw D u) := by
  unfold feedAt
  split
  · split
    · exact kpD.re
    · exact fdR_kp _ _ _
  · exact kpD.re
theorem feedN_kp {lw : LW} : ∀ (c u : Nat) (D : DV), kpD D (feedN lw c u D)
  | 0, _, _ => kpD.re
  | c + 1, u, D => feedAt_kp.tr (feedN_kp c (u + 1) _)
theorem kpD.cm {D D' : DV} (h : kpD D D') : cmD D' = cmD D := by unfold cmD; rw [h.2.1]
set_option maxRecDepth 100000 in
set_option maxHeartbeats 4000000 in
theorem m_eats (hM : Ob S 7 1000) {b : Nat} (hb : b < 8) {L : List Law} {g : Int32} {lk : Nat} (hG : rG I L g lk) (hC : cAll I J) (hD : rOk (refD I J b)) : Mn l yX7_eats cX7_eats 6 none 3 [.ref 1000, .int (nI b)] S I J (fun v I' J' => v = none ∧ refD I' J b = eatN (kcl L g) (cmD (refD I J b)) 0 (refD I J b) ∧ Fr b I J I' J ∧ J' = J) := by
  refine Mn.of (by decide) (fun ad => by simp [lg_sl, vv, Value.category]) (fun X P hP hn C => ?_)
  generalize hcm : cmD (refD I J b) = n at hP
  have hn0 : refD I J b 0 6 = nI n := by rw [← hcm]; exact r_cm hD
  have hn30 : n ≤ 30 := by rw [← hcm]; exact hD.2.2.2.2.1
  have loop : ∀ (c u : Nat) (Ic : HI) (x3 x4 x5 : Option Value), u + c = n → Fr b I J Ic J → kpD (refD I J b) (refD Ic J b) → eatN (kcl L g) c u (refD Ic J b) = eatN (kcl L g) n 0 (refD I J b) → V X P 0 0 2 [some (.ref 1000), some (.int (nI b)), some (.int (nI u)), x3, x4, x5] [] S Ic J := by
    intro c
    induction c with
    | zero =>
      intro u Ic x3 x4 x5 hu hF hk he
      have hu : u = n := hu
      subst hu
      have c9 : Ic 1037 b ≤ nI u := by rw [show Ic 1037 b = nI u from hk.2.1.trans hn0]; exact Int32.le_refl _
      refine V_iload_n C dX7_eats_2 rfl ?_
      refine V_aload_n C dX7_eats_3 rfl ?_
      refine V_getR C fl_X7_146 (ob_K hM) (ob_R hM 36 1037 rfl rfl) rfl dX7_eats_4 ?_
      refine V_iload_n C dX7_eats_7 rfl ?_
      refine V_iald C (b) (ob_A hM 36 1037 rfl rfl) (by first | rfl | (simp only [nI_add, pk_mul]; done) | (simp only [nI_add, pk_mul]; congr 1; omega)) (by rw [ob_N hM 36 1037 rfl rfl]; omega) (by rw [ob_N hM 36 1037 rfl rfl]; decide) dX7_eats_8 ?_
      refine V_icmp_ge C 106 dX7_eats_9 (by decide) (fun h9 => ?_) (fun h9 => absurd (c9) h9)
      exact V_vret C (Nat.zero_le _) (Nat.zero_le _) dX7_eats_106 (hP _ _ _ ⟨rfl, he, hF, rfl⟩)
    | succ c ih =>
      intro u Ic x3 x4 x5 hu hF hk he
      have c9 : ¬ Ic 1037 b ≤ nI u := by rw [show Ic 1037 b = nI n from hk.2.1.trans hn0]; exact nI_ge (by omega) (by omega)
      have hDc := hk.ok hD
      have hGc := hG.fr hF
      have hcc : cmD (refD Ic J b) = n := hk.cm.trans hcm
      have huc : u < cmD (refD Ic J b) := by rw [hcc]; omega
      have hCc := hF.cm hC (by rw [hcc]; exact hn30)
      have hr6 := hDc.2.2.2.2.2 u huc
      have hrg : rg (refD Ic J b) u < 12 := Nat.lt_of_lt_of_le hr6.2 hDc.2.2.1
      have fin : ∀ (In : HI) (x3 x4 x5 : Option Value), Fr b I J In J → refD In J b = eatAt (kcl L g) (refD Ic J b) u → V X P 0 0 2 [some (.ref 1000), some (.int (nI b)), some (.int (nI (u + 1))), x3, x4, x5] [] S In J := by
        intro In x3 x4 x5 hF3 eN
        refine ih (u + 1) In x3 x4 x5 (by omega) hF3 ?_ ?_
        · rw [eN]; exact hk.tr eatAt_kp
        · rw [eN]; exact he
      by_cases h5 : refD Ic J b 5 u = 0
      · have b1 : ¬ bI (refD Ic J b 5 u = 0) = 0 := by rw [bI_0]; exact fun h => h h5
        refine V_iload_n C dX7_eats_2 rfl ?_
        refine V_aload_n C dX7_eats_3 rfl ?_
        refine V_getR C fl_X7_146 (ob_K hM) (ob_R hM 36 1037 rfl rfl) rfl dX7_eats_4 ?_
        refine V_iload_n C dX7_eats_7 rfl ?_
        refine V_iald C (b) (ob_A hM 36 1037 rfl rfl) (by first | rfl | (simp only [nI_add, pk_mul]; done) | (simp only [nI_add, pk_mul]; congr 1; omega)) (by rw [ob_N hM 36 1037 rfl rfl]; omega) (by rw [ob_N hM 36 1037 rfl rfl]; decide) dX7_eats_8 ?_
        refine V_icmp_ge C 106 dX7_eats_9 (by decide) (fun h9 => absurd h9 (c9)) (fun h9 => ?_)
        refine V_aload_n C dX7_eats_12 rfl ?_
        refine V_iload_n C dX7_eats_13 rfl ?_
        refine V_iload_n C dX7_eats_14 rfl ?_
        refine V_callV (F := fun _ => True) C (m_isThere hM hb hDc huc) mi_X7_isThere ml_X7_372 rfl (ob_K hM) (by decide) (by decide) (by decide) (Nat.le_of_ble_eq_true rfl) (fun _ _ => trivial) (fun v _ => clo_T v) rfl dX7_eats_15 ?_
        rintro v S' I' J' ⟨hS, rfl, hI, hJ⟩
        obtain rfl := hS.symm
        obtain rfl := hI.symm
        obtain rfl := hJ.symm
        refine V_if_eq C 100 dX7_eats_18 (by decide) (fun h18 => absurd h18 (b1)) (fun h18 => ?_)
        refine V_aload_n C dX7_eats_21 rfl ?_
        refine V_iload_n C dX7_eats_22 rfl ?_
        refine V_iload_n C dX7_eats_23 rfl ?_
        refine V_callV (F := fun _ => True) C (m_knowsLump hM hb hDc huc) mi_X7_knowsLump ml_X7_376 rfl (ob_K hM) (by decide) (by decide) (by decide) (Nat.le_of_ble_eq_true rfl) (fun _ _ => trivial) (fun v _ => clo_T v) rfl dX7_eats_24 ?_
        rintro v S' I' J' ⟨hS, rfl, hI, hJ⟩
        obtain rfl := hS.symm
        obtain rfl := hI.symm
        obtain rfl := hJ.symm
        refine V_aload_n C dX7_eats_27 rfl ?_
        refine V_iconst C (v := nI 5) dX7_eats_28 (by decide +kernel) ?_
        refine V_callV (F := fun _ => True) C (m_lawK hM hGc (by omega)) mi_X7_lawFor ml_X7_359 rfl (ob_K hM) (by decide) (by decide) (by decide) (Nat.le_of_ble_eq_true rfl) (fun _ _ => trivial) (fun v _ => clo_T v) rfl dX7_eats_29 ?_
        rintro v S' I' J' ⟨hS, rfl, ⟨p2, hI⟩, hJ⟩
        obtain rfl := hS.symm
        obtain rfl := hJ.symm
        have hS2 := (Sc.kn (I := Ic) (kn (Ic 1023) (fLu (refD Ic J b) u))).tr (Sc.pl p2)
        rw [← hI] at hS2
        clear hI
        have hF2 := hF.tr (hS2.fr (J := J) (b := b))
        have eD : refD I' J b = refD Ic J b := hS2.eq b
        have huc2 : u < cmD (refD I' J b) := by rw [eD]; exact huc
        have e39 : I' 1039 (30 * b + u) = nI (rg (refD Ic J b) u) := by rw [hS2 1039 (by decide) (by decide) (by decide) (by decide), ← (r_lump hDc huc).2.1]; exact hr6.1
        have e28 : I' 1028 (12 * b + rg (refD Ic J b) u) = refD Ic J b 1 (rg (refD Ic J b) u) := (show I' 1028 (12 * b + rg (refD Ic J b) u) = refD I' J b 1 (rg (refD Ic J b) u) from (if_pos hrg).symm).trans (congrFun (congrFun eD 1) _)
        have e40 : I' 1040 (30 * b + u) = refD Ic J b 7 u := by rw [hS2 1040 (by decide) (by decide) (by decide) (by decide), ← (r_lump hDc huc).2.2.1]
        refine V_istore_n C dX7_eats_32 (hn _ (by decide)) ?_
        refine V_bipush C (v := nI 12) dX7_eats_33 (by decide +kernel) ?_
        refine V_iload_n C dX7_eats_35 rfl ?_
        refine V_imul C dX7_eats_36 ?_
        refine V_aload_n C dX7_eats_37 rfl ?_
        refine V_getR C fl_X7_152 (ob_K hM) (ob_R hM 38 1039 rfl rfl) rfl dX7_eats_38 ?_
        refine V_bipush C (v := nI 30) dX7_eats_41 (by decide +kernel) ?_
        refine V_iload_n C dX7_eats_43 rfl ?_
        refine V_imul C dX7_eats_44 ?_
        refine V_iload_n C dX7_eats_45 rfl ?_
        refine V_iadd C dX7_eats_46 ?_
        refine V_iald C (30 * b + u) (ob_A hM 38 1039 rfl rfl) (by first | rfl | (simp only [nI_add, pk_mul]; done) | (simp only [nI_add, pk_mul]; congr 1; omega)) (by rw [ob_N hM 38 1039 rfl rfl]; omega) (by rw [ob_N hM 38 1039 rfl rfl]; decide) dX7_eats_47 ?_
        rw [e39]
        refine V_iadd C dX7_eats_48 ?_
        refine V_istore C dX7_eats_49 (hn _ (by decide)) ?_
        refine V_iload_n C dX7_eats_51 rfl ?_
        refine V_tern_if_le (vt := nI 0) (vf := prt (refD Ic J b 1 (rg (refD Ic J b) u)) (lawV L g 5 (fLu (refD Ic J b) u))) (pm := 70) C 69 dX7_eats_52 (by decide) (fun h52 k => ?_) (fun h52 k => ?_) ?_
        · refine V_iconst C (v := nI 0) dX7_eats_69 (by decide +kernel) ?_
          exact k
        · refine V_aload_n C dX7_eats_55 rfl ?_
          refine V_getR C fl_X7_119 (ob_K hM) (ob_R hM 27 1028 rfl rfl) rfl dX7_eats_56 ?_
          refine V_iload C dX7_eats_59 rfl ?_
          refine V_iald C (12 * b + rg (refD Ic J b) u) (ob_A hM 27 1028 rfl rfl) (by first | rfl | (simp only [nI_add, pk_mul]; done) | (simp only [nI_add, pk_mul]; congr 1; omega)) (by rw [ob_N hM 27 1028 rfl rfl]; omega) (by rw [ob_N hM 27 1028 rfl rfl]; decide) dX7_eats_61 ?_
          rw [e28]
          refine V_iload_n C dX7_eats_62 rfl ?_
          refine V_callS (F := fun _ => True) C (m_part _ _) ms_X7_part ml_X7_369 rfl (by decide) (by decide) (Nat.le_of_ble_eq_true rfl) (fun _ _ => trivial) (fun v _ => clo_T v) rfl dX7_eats_63 ?_
          rintro v S' I' J' ⟨hS, rfl, hI, hJ⟩
          obtain rfl := hS.symm
          obtain rfl := hI.symm
          obtain rfl := hJ.symm
          refine V_goto C 70 dX7_eats_66 (by decide) ?_
          exact k
        refine V_istore C dX7_eats_70 (hn _ (by decide)) ?_
        refine V_aload_n C dX7_eats_72 rfl ?_
        refine V_getR C fl_X7_119 (ob_K hM) (ob_R hM 27 1028 rfl rfl) rfl dX7_eats_73 ?_
        refine V_iload C dX7_eats_76 rfl ?_
        refine V_dup2 C dX7_eats_78 rfl rfl ?_
        refine V_iald C (12 * b + rg (refD Ic J b) u) (ob_A hM 27 1028 rfl rfl) (by first | rfl | (simp only [nI_add, pk_mul]; done) | (simp only [nI_add, pk_mul]; congr 1; omega)) (by rw [ob_N hM 27 1028 rfl rfl]; omega) (by rw [ob_N hM 27 1028 rfl rfl]; decide) dX7_eats_79 ?_
        rw [e28]
        refine V_iload C dX7_eats_80 rfl ?_
        refine V_isub C dX7_eats_82 ?_
        refine V_iast C (12 * b + rg (refD Ic J b) u) (ob_A hM 27 1028 rfl rfl) (by first | rfl | (simp only [nI_add, pk_mul]; done) | (simp only [nI_add, pk_mul]; congr 1; omega)) (by rw [ob_N hM 27 1028 rfl rfl]; omega) (by rw [ob_N hM 27 1028 rfl rfl]; decide) dX7_eats_83 ?_
        refine V_aload_n C dX7_eats_84 rfl ?_
        refine V_getR C fl_X7_155 (ob_K hM) (ob_R hM 39 1040 rfl rfl) rfl dX7_eats_85 ?_
        refine V_bipush C (v := nI 30) dX7_eats_88 (by decide +kernel) ?_
        refine V_iload_n C dX7_eats_90 rfl ?_
        refine V_imul C dX7_eats_91 ?_
        refine V_iload_n C dX7_eats_92 rfl ?_
        refine V_iadd C dX7_eats_93 ?_
        refine V_dup2 C dX7_eats_94 rfl rfl ?_
        refine V_iald C (30 * b + u) (ob_A hM 39 1040 rfl rfl) (by first | rfl | (simp only [nI_add, pk_mul]; done) | (simp only [nI_add, pk_mul]; congr 1; omega)) (by rw [ob_N hM 39 1040 rfl rfl]; omega) (by rw [ob_N hM 39 1040 rfl rfl]; decide) dX7_eats_95 ?_
        rw [up2_ne I' _ _ (show (1040 : Nat) ≠ 1028 by decide), e40]
        refine V_iload C dX7_eats_96 rfl ?_
        refine V_iadd C dX7_eats_98 ?_
        refine V_iast C (30 * b + u) (ob_A hM 39 1040 rfl rfl) (by first | rfl | (simp only [nI_add, pk_mul]; done) | (simp only [nI_add, pk_mul]; congr 1; omega)) (by rw [ob_N hM 39 1040 rfl rfl]; omega) (by rw [ob_N hM 39 1040 rfl rfl]; decide) dX7_eats_99 ?_
        refine V_iincU C dX7_eats_100 rfl (hn _ (by decide)) ?_
        refine V_goto C 2 dX7_eats_103 (by decide) ?_
        exact fin _ _ _ _ ((hF2.tr (Fr.Gas hrg)).tr (Fr.Ga ((hF2.tr (Fr.Gas hrg)).cm hC (by rw [rGas hrg, eD]; exact hcc ▸ hn30)) (by omega))) (by rw [rGa (by rw [rGas hrg]; exact huc2), rGas hrg, eD, eatAt, if_pos h5]; rfl)
      · have b1 : bI (refD Ic J b 5 u = 0) = 0 := by rw [bI_0]; exact h5
        refine V_iload_n C dX7_eats_2 rfl ?_
        refine V_aload_n C dX7_eats_3 rfl ?_
        refine V_getR C fl_X7_146 (ob_K hM) (ob_R hM 36 1037 rfl rfl) rfl dX7_eats_4 ?_
        refine V_iload_n C dX7_eats_7 rfl ?_
        refine V_iald C (b) (ob_A hM 36 1037 rfl rfl) (by first | rfl | (simp only [nI_add, pk_mul]; done) | (simp only [nI_add, pk_mul]; congr 1; omega)) (by rw [ob_N hM 36 1037 rfl rfl]; omega) (by rw [ob_N hM 36 1037 rfl rfl]; decide) dX7_eats_8 ?_
        refine V_icmp_ge C 106 dX7_eats_9 (by decide) (fun h9 => absurd h9 (c9)) (fun h9 => ?_)
        refine V_aload_n C dX7_eats_12 rfl ?_
        refine V_iload_n C dX7_eats_13 rfl ?_
        refine V_iload_n C dX7_eats_14 rfl ?_
        refine V_callV (F := fun _ => True) C (m_isThere hM hb hDc huc) mi_X7_isThere ml_X7_372 rfl (ob_K hM) (by decide) (by decide) (by decide) (Nat.le_of_ble_eq_true rfl) (fun _ _ => trivial) (fun v _ => clo_T v) rfl dX7_eats_15 ?_
        rintro v S' I' J' ⟨hS, rfl, hI, hJ⟩
        obtain rfl := hS.symm
        obtain rfl := hI.symm
        obtain rfl := hJ.symm
        refine V_if_eq C 100 dX7_eats_18 (by decide) (fun h18 => ?_) (fun h18 => absurd (b1) h18)
        refine V_iincU C dX7_eats_100 rfl (hn _ (by decide)) ?_
        refine V_goto C 2 dX7_eats_103 (by decide) ?_
        exact fin _ _ _ _ hF (by rw [eatAt, if_neg h5])
  refine V_iconst C (v := nI 0) dX7_eats_0 (by decide +kernel) ?_
  refine V_istore_n C dX7_eats_1 (hn _ (by decide)) ?_
  exact loop n 0 I _ _ _ (by omega) Fr.re kpD.re rfl
set_option maxRecDepth 100000 in
set_option maxHeartbeats 4000000 in
theorem m_feeds (hM : Ob S 7 1000) {b : Nat} (hb : b < 8) {L : List Law} {g : Int32} {lk : Nat} (hG : rG I L g lk) (hC : cAll I J) (hD : rOk (refD I J b)) : Mn l yX7_feeds cX7_feeds 8 none 3 [.ref 1000, .int (nI b)] S I J (fun v I' J' => v = none ∧ refD I' J b = feedN (kcl L g) (cmD (refD I J b)) 0 (refD I J b) ∧ Fr b I J I' J ∧ J' = J) := by
  refine Mn.of (by decide) (fun ad => by simp [lg_sl, vv, Value.category]) (fun X P hP hn C => ?_)
  generalize hcm : cmD (refD I J b) = n at hP
  have hn0 : refD I J b 0 6 = nI n := by rw [← hcm]; exact r_cm hD
  have hn30 : n ≤ 30 := by rw [← hcm]; exact hD.2.2.2.2.1
  have loop : ∀ (c u : Nat) (Ic : HI) (x3 x4 x5 x6 x7 : Option Value), u + c = n → Fr b I J Ic J → kpD (refD I J b) (refD Ic J b) → feedN (kcl L g) c u (refD Ic J b) = feedN (kcl L g) n 0 (refD I J b) → V X P 0 0 2 [some (.ref 1000), some (.int (nI b)), some (.int (nI u)), x3, x4, x5, x6, x7] [] S Ic J := by
    intro c
    induction c with
    | zero =>
      intro u Ic x3 x4 x5 x6 x7 hu hF hk he
      have hu : u = n := hu
      subst hu
      have c9 : Ic 1037 b ≤ nI u := by rw [show Ic 1037 b = nI u from hk.2.1.trans hn0]; exact Int32.le_refl _
      refine V_iload_n C dX7_feeds_2 rfl ?_
      refine V_aload_n C dX7_feeds_3 rfl ?_
      refine V_getR C fl_X7_146 (ob_K hM) (ob_R hM 36 1037 rfl rfl) rfl dX7_feeds_4 ?_
      refine V_iload_n C dX7_feeds_7 rfl ?_
      refine V_iald C (b) (ob_A hM 36 1037 rfl rfl) (by first | rfl | (simp only [nI_add, pk_mul]; done) | (simp only [nI_add, pk_mul]; congr 1; omega)) (by rw [ob_N hM 36 1037 rfl rfl]; omega) (by rw [ob_N hM 36 1037 rfl rfl]; decide) dX7_feeds_8 ?_
      refine V_icmp_ge C 132 dX7_feeds_9 (by decide) (fun h9 => ?_) (fun h9 => absurd (c9) h9)
      exact V_vret C (Nat.zero_le _) (Nat.zero_le _) dX7_feeds_132 (hP _ _ _ ⟨rfl, he, hF, rfl⟩)
    | succ c ih =>
      intro u Ic x3 x4 x5 x6 x7 hu hF hk he
      have c9 : ¬ Ic 1037 b ≤ nI u := by rw [show Ic 1037 b = nI n from hk.2.1.trans hn0]; exact nI_ge (by omega) (by omega)
      have hDc := hk.ok hD
      have hGc := hG.fr hF
      have hcc : cmD (refD Ic J b) = n := hk.cm.trans hcm
      have huc : u < cmD (refD Ic J b) := by rw [hcc]; omega
      have hr6 := hDc.2.2.2.2.2 u huc
      have hrg : rg (refD Ic J b) u < 12 := Nat.lt_of_lt_of_le hr6.2 hDc.2.2.1
      generalize hr : rg (refD Ic J b) u = r at *
      have fin : ∀ (In : HI) (x3 x4 x5 x6 x7 : Option Value), Fr b I J In J → refD In J b = feedAt (kcl L g) (refD Ic J b) u → V X P 0 0 2 [some (.ref 1000), some (.int (nI b)), some (.int (nI (u + 1))), x3, x4, x5, x6, x7] [] S In J := by
        intro In x3 x4 x5 x6 x7 hF3 eN
        refine ih (u + 1) In x3 x4 x5 x6 x7 (by omega) hF3 ?_ ?_
        · rw [eN]; exact hk.tr feedAt_kp
        · rw [eN]; exact he
      by_cases h5 : refD Ic J b 5 u = 0
      · have b1 : ¬ bI (refD Ic J b 5 u = 0) = 0 := by rw [bI_0]; exact fun h => h h5
        have inner : ∀ (m s : Nat) (In : HI) (x6 x7 : Option Value), s + m = 5 → ¬ lawV L g 4 (fLu (refD Ic J b) u) ≤ 0 → Fr b I J In J → kpD (refD I J b) (refD In J b) → fdR r u (lawV L g 4 (fLu (refD Ic J b) u)) m s (refD In J b) = feedAt (kcl L g) (refD Ic J b) u → V X P 0 0 49 [some (.ref 1000), some (.int (nI b)), some (.int (nI u)), some (.int (lawV L g 4 (fLu (refD Ic J b) u))), some (.int (nI r)), some (.int (nI s)), x6, x7] [] S In J := by
          intro m
          induction m with
          | zero =>
            intro s In x6 x7 hs hn0 hF3 hk3 he3
            have hs : s = 5 := hs
            subst hs
            refine V_iload C dX7_feeds_49 rfl ?_
            refine V_iconst C (v := nI 5) dX7_feeds_51 (by decide +kernel) ?_
            refine V_icmp_ge C 126 dX7_feeds_52 (by decide) (fun h52 => ?_) (fun h52 => absurd (by decide) h52)
            refine V_iincU C dX7_feeds_126 rfl (hn _ (by decide)) ?_
            refine V_goto C 2 dX7_feeds_129 (by decide) ?_
            exact fin _ _ _ _ _ _ hF3 he3
          | succ m ih2 =>
            intro s In x6 x7 hs hn0 hF3 hk3 he3
            have h60 : 5 * r + s < 60 := by omega
            have hcn : cmD (refD In J b) = n := hk3.cm.trans hcm
            have h44 : 12 * u + r < 12 * cmD (refD In J b) := by rw [hcn]; omega
            have e44 : In 1044 (360 * b + (12 * u + r)) = refD In J b 11 (12 * u + r) := (if_pos h44).symm
            have e31 : In 1031 (60 * b + (5 * r + s)) = refD In J b 4 (5 * r + s) := (rD4 h60).symm
            refine V_iload C dX7_feeds_49 rfl ?_
            refine V_iconst C (v := nI 5) dX7_feeds_51 (by decide +kernel) ?_
            refine V_icmp_ge C 126 dX7_feeds_52 (by decide) (fun h52 => absurd h52 (nI_ge (by omega) (by omega))) (fun h52 => ?_)
            refine V_iload_n C dX7_feeds_55 rfl ?_
            refine V_if_le C 126 dX7_feeds_56 (by decide) (fun h56 => absurd h56 (hn0)) (fun h56 => ?_)
            refine V_bipush C (v := nI 60) dX7_feeds_59 (by decide +kernel) ?_
            refine V_iload_n C dX7_feeds_61 rfl ?_
            refine V_imul C dX7_feeds_62 ?_
            refine V_iconst C (v := nI 5) dX7_feeds_63 (by decide +kernel) ?_
            refine V_iload C dX7_feeds_64 rfl ?_
            refine V_imul C dX7_feeds_66 ?_
            refine V_iadd C dX7_feeds_67 ?_
            refine V_iload C dX7_feeds_68 rfl ?_
            refine V_iadd C dX7_feeds_70 ?_
            refine V_istore C dX7_feeds_71 (hn _ (by decide)) ?_
            refine V_aload_n C dX7_feeds_73 rfl ?_
            refine V_getR C fl_X7_128 (ob_K hM) (ob_R hM 30 1031 rfl rfl) rfl dX7_feeds_74 ?_
            refine V_iload C dX7_feeds_77 rfl ?_
            refine V_iald C (60 * b + (5 * r + s)) (ob_A hM 30 1031 rfl rfl) (by first | rfl | (simp only [nI_add, pk_mul]; done) | (simp only [nI_add, pk_mul]; congr 1; omega)) (by rw [ob_N hM 30 1031 rfl rfl]; omega) (by rw [ob_N hM 30 1031 rfl rfl]; decide) dX7_feeds_79 ?_
            rw [e31]
            refine V_iload_n C dX7_feeds_80 rfl ?_
            refine V_callS (F := fun _ => True) C (m_part _ _) ms_X7_part ml_X7_369 rfl (by decide) (by decide) (Nat.le_of_ble_eq_true rfl) (fun _ _ => trivial) (fun v _ => clo_T v) rfl dX7_feeds_81 ?_
            rintro v S' I' J' ⟨hS, rfl, hI, hJ⟩
            obtain rfl := hS.symm
            obtain rfl := hI.symm
            obtain rfl := hJ.symm
            refine V_istore C dX7_feeds_84 (hn _ (by decide)) ?_
            refine V_aload_n C dX7_feeds_86 rfl ?_
            refine V_getR C fl_X7_128 (ob_K hM) (ob_R hM 30 1031 rfl rfl) rfl dX7_feeds_87 ?_
            refine V_iload C dX7_feeds_90 rfl ?_
            refine V_dup2 C dX7_feeds_92 rfl rfl ?_
            refine V_iald C (60 * b + (5 * r + s)) (ob_A hM 30 1031 rfl rfl) (by first | rfl | (simp only [nI_add, pk_mul]; done) | (simp only [nI_add, pk_mul]; congr 1; omega)) (by rw [ob_N hM 30 1031 rfl rfl]; omega) (by rw [ob_N hM 30 1031 rfl rfl]; decide) dX7_feeds_93 ?_
            rw [e31]
            refine V_iload C dX7_feeds_94 rfl ?_
            refine V_isub C dX7_feeds_96 ?_
            refine V_iast C (60 * b + (5 * r + s)) (ob_A hM 30 1031 rfl rfl) (by first | rfl | (simp only [nI_add, pk_mul]; done) | (simp only [nI_add, pk_mul]; congr 1; omega)) (by rw [ob_N hM 30 1031 rfl rfl]; omega) (by rw [ob_N hM 30 1031 rfl rfl]; decide) dX7_feeds_97 ?_
            refine V_aload_n C dX7_feeds_98 rfl ?_
            refine V_getR C fl_X7_167 (ob_K hM) (ob_R hM 43 1044 rfl rfl) rfl dX7_feeds_99 ?_
            refine V_bipush C (v := nI 12) dX7_feeds_102 (by decide +kernel) ?_
            refine V_bipush C (v := nI 30) dX7_feeds_104 (by decide +kernel) ?_
            refine V_iload_n C dX7_feeds_106 rfl ?_
            refine V_imul C dX7_feeds_107 ?_
            refine V_iload_n C dX7_feeds_108 rfl ?_
            refine V_iadd C dX7_feeds_109 ?_
            refine V_imul C dX7_feeds_110 ?_
            refine V_iload C dX7_feeds_111 rfl ?_
            refine V_iadd C dX7_feeds_113 ?_
            refine V_dup2 C dX7_feeds_114 rfl rfl ?_
            refine V_iald C (360 * b + (12 * u + r)) (ob_A hM 43 1044 rfl rfl) (by first | rfl | (simp only [nI_add, pk_mul]; done) | (simp only [nI_add, pk_mul]; congr 1; omega)) (by rw [ob_N hM 43 1044 rfl rfl]; omega) (by rw [ob_N hM 43 1044 rfl rfl]; decide) dX7_feeds_115 ?_
            rw [up2_ne In _ _ (show (1044 : Nat) ≠ 1031 by decide), e44]
            refine V_iload C dX7_feeds_116 rfl ?_
            refine V_iadd C dX7_feeds_118 ?_
            refine V_iast C (360 * b + (12 * u + r)) (ob_A hM 43 1044 rfl rfl) (by first | rfl | (simp only [nI_add, pk_mul]; done) | (simp only [nI_add, pk_mul]; congr 1; omega)) (by rw [ob_N hM 43 1044 rfl rfl]; omega) (by rw [ob_N hM 43 1044 rfl rfl]; decide) dX7_feeds_119 ?_
            refine V_iincU C dX7_feeds_120 rfl (hn _ (by decide)) ?_
            refine V_goto C 49 dX7_feeds_123 (by decide) ?_
            refine ih2 (s + 1) _ _ _ (by omega) hn0 ((hF3.tr (Fr.dust h60)).tr (Fr.Ma ((hF3.tr (Fr.dust h60)).cm hC (by rw [rDust h60]; exact hcn ▸ hn30)) (by omega))) ?_ ?_
            · rw [rMa (by rw [rDust h60]; exact h44), rDust h60]; exact hk3.tr ⟨rfl, rfl, rfl⟩
            · rw [rMa (by rw [rDust h60]; exact h44), rDust h60]; exact he3
        refine V_iload_n C dX7_feeds_2 rfl ?_
        refine V_aload_n C dX7_feeds_3 rfl ?_
        refine V_getR C fl_X7_146 (ob_K hM) (ob_R hM 36 1037 rfl rfl) rfl dX7_feeds_4 ?_
        refine V_iload_n C dX7_feeds_7 rfl ?_
        refine V_iald C (b) (ob_A hM 36 1037 rfl rfl) (by first | rfl | (simp only [nI_add, pk_mul]; done) | (simp only [nI_add, pk_mul]; congr 1; omega)) (by rw [ob_N hM 36 1037 rfl rfl]; omega) (by rw [ob_N hM 36 1037 rfl rfl]; decide) dX7_feeds_8 ?_
        refine V_icmp_ge C 132 dX7_feeds_9 (by decide) (fun h9 => absurd h9 (c9)) (fun h9 => ?_)
        refine V_aload_n C dX7_feeds_12 rfl ?_
        refine V_iload_n C dX7_feeds_13 rfl ?_
        refine V_iload_n C dX7_feeds_14 rfl ?_
        refine V_callV (F := fun _ => True) C (m_isThere hM hb hDc huc) mi_X7_isThere ml_X7_372 rfl (ob_K hM) (by decide) (by decide) (by decide) (Nat.le_of_ble_eq_true rfl) (fun _ _ => trivial) (fun v _ => clo_T v) rfl dX7_feeds_15 ?_
        rintro v S' I' J' ⟨hS, rfl, hI, hJ⟩
        obtain rfl := hS.symm
        obtain rfl := hI.symm
        obtain rfl := hJ.symm
        refine V_if_eq C 126 dX7_feeds_18 (by decide) (fun h18 => absurd h18 (b1)) (fun h18 => ?_)
        refine V_aload_n C dX7_feeds_21 rfl ?_
        refine V_iload_n C dX7_feeds_22 rfl ?_
        refine V_iload_n C dX7_feeds_23 rfl ?_
        refine V_callV (F := fun _ => True) C (m_knowsLump hM hb hDc huc) mi_X7_knowsLump ml_X7_376 rfl (ob_K hM) (by decide) (by decide) (by decide) (Nat.le_of_ble_eq_true rfl) (fun _ _ => trivial) (fun v _ => clo_T v) rfl dX7_feeds_24 ?_
        rintro v S' I' J' ⟨hS, rfl, hI, hJ⟩
        obtain rfl := hS.symm
        obtain rfl := hI.symm
        obtain rfl := hJ.symm
        refine V_aload_n C dX7_feeds_27 rfl ?_
        refine V_iconst C (v := nI 4) dX7_feeds_28 (by decide +kernel) ?_
        refine V_callV (F := fun _ => True) C (m_lawK hM hGc (by omega)) mi_X7_lawFor ml_X7_359 rfl (ob_K hM) (by decide) (by decide) (by decide) (Nat.le_of_ble_eq_true rfl) (fun _ _ => trivial) (fun v _ => clo_T v) rfl dX7_feeds_29 ?_
        rintro v S' I' J' ⟨hS, rfl, ⟨p2, hI⟩, hJ⟩
        obtain rfl := hS.symm
        obtain rfl := hJ.symm
        have hS2 := (Sc.kn (I := Ic) (kn (Ic 1023) (fLu (refD Ic J b) u))).tr (Sc.pl p2)
        rw [← hI] at hS2
        clear hI
        have hF2 := hF.tr (hS2.fr (J := J) (b := b))
        have eD : refD I' J b = refD Ic J b := hS2.eq b
        have e39 : I' 1039 (30 * b + u) = nI r := by rw [hS2 1039 (by decide) (by decide) (by decide) (by decide), ← (r_lump hDc huc).2.1]; exact hr6.1
        refine V_istore_n C dX7_feeds_32 (hn _ (by decide)) ?_
        refine V_aload_n C dX7_feeds_33 rfl ?_
        refine V_getR C fl_X7_152 (ob_K hM) (ob_R hM 38 1039 rfl rfl) rfl dX7_feeds_34 ?_
        refine V_bipush C (v := nI 30) dX7_feeds_37 (by decide +kernel) ?_
        refine V_iload_n C dX7_feeds_39 rfl ?_
        refine V_imul C dX7_feeds_40 ?_
        refine V_iload_n C dX7_feeds_41 rfl ?_
        refine V_iadd C dX7_feeds_42 ?_
        refine V_iald C (30 * b + u) (ob_A hM 38 1039 rfl rfl) (by first | rfl | (simp only [nI_add, pk_mul]; done) | (simp only [nI_add, pk_mul]; congr 1; omega)) (by rw [ob_N hM 38 1039 rfl rfl]; omega) (by rw [ob_N hM 38 1039 rfl rfl]; decide) dX7_feeds_43 ?_
        rw [e39]
        refine V_istore C dX7_feeds_44 (hn _ (by decide)) ?_
        refine V_iconst C (v := nI 0) dX7_feeds_46 (by decide +kernel) ?_
        refine V_istore C dX7_feeds_47 (hn _ (by decide)) ?_
        by_cases hn0 : lawV L g 4 (fLu (refD Ic J b) u) ≤ 0
        · refine V_iload C dX7_feeds_49 rfl ?_
          refine V_iconst C (v := nI 5) dX7_feeds_51 (by decide +kernel) ?_
          refine V_icmp_ge C 126 dX7_feeds_52 (by decide) (fun h52 => absurd h52 (by decide)) (fun h52 => ?_)
          refine V_iload_n C dX7_feeds_55 rfl ?_
          refine V_if_le C 126 dX7_feeds_56 (by decide) (fun h56 => ?_) (fun h56 => absurd (hn0) h56)
          refine V_iincU C dX7_feeds_126 rfl (hn _ (by decide)) ?_
          refine V_goto C 2 dX7_feeds_129 (by decide) ?_
          exact fin _ _ _ _ _ _ hF2 (by rw [eD, feedAt, if_pos h5, if_pos (show kcl L g 4 (fLu (refD Ic J b) u) ≤ 0 from hn0)])
        · exact inner 5 0 _ _ _ rfl hn0 hF2 (by rw [eD]; exact hk) (by rw [eD, feedAt, if_pos h5, if_neg (show ¬ kcl L g 4 (fLu (refD Ic J b) u) ≤ 0 from hn0), hr]; rfl)
      · have b1 : bI (refD Ic J b 5 u = 0) = 0 := by rw [bI_0]; exact h5
        refine V_iload_n C dX7_feeds_2 rfl ?_
        refine V_aload_n C dX7_feeds_3 rfl ?_
        refine V_getR C fl_X7_146 (ob_K hM) (ob_R hM 36 1037 rfl rfl) rfl dX7_feeds_4 ?_
        refine V_iload_n C dX7_feeds_7 rfl ?_
        refine V_iald C (b) (ob_A hM 36 1037 rfl rfl) (by first | rfl | (simp only [nI_add, pk_mul]; done) | (simp only [nI_add, pk_mul]; congr 1; omega)) (by rw [ob_N hM 36 1037 rfl rfl]; omega) (by rw [ob_N hM 36 1037 rfl rfl]; decide) dX7_feeds_8 ?_
        refine V_icmp_ge C 132 dX7_feeds_9 (by decide) (fun h9 => absurd h9 (c9)) (fun h9 => ?_)
        refine V_aload_n C dX7_feeds_12 rfl ?_
        refine V_iload_n C dX7_feeds_13 rfl ?_
        refine V_iload_n C dX7_feeds_14 rfl ?_
        refine V_callV (F := fun _ => True) C (m_isThere hM hb hDc huc) mi_X7_isThere ml_X7_372 rfl (ob_K hM) (by decide) (by decide) (by decide) (Nat.le_of_ble_eq_true rfl) (fun _ _ => trivial) (fun v _ => clo_T v) rfl dX7_feeds_15 ?_
        rintro v S' I' J' ⟨hS, rfl, hI, hJ⟩
        obtain rfl := hS.symm
        obtain rfl := hI.symm
        obtain rfl := hJ.symm
        refine V_if_eq C 126 dX7_feeds_18 (by decide) (fun h18 => ?_) (fun h18 => absurd (b1) h18)
        refine V_iincU C dX7_feeds_126 rfl (hn _ (by decide)) ?_
        refine V_goto C 2 dX7_feeds_129 (by decide) ?_
        exact fin _ _ _ _ _ _ hF (by rw [feedAt, if_neg h5])
  refine V_iconst C (v := nI 0) dX7_feeds_0 (by decide +kernel) ?_
  refine V_istore_n C dX7_feeds_1 (hn _ (by decide)) ?_
  exact loop n 0 I _ _ _ _ _ (by omega) Fr.re kpD.re rfl
end M8
