/-! the reference: sticks, breaks -/
section M4
variable {l : Launch} {S : HS} {I : HI} {J : HJ}
def kcl (L : List Law) (g : Int32) : LW := lawV L g
/-- what a step's part needs of the reference: its laws, its luck -/
def rG (I : HI) (L : List Law) (g : Int32) (lk : Nat) : Prop := RL_ I L ∧ I 1000 25 = g ∧ I 1000 44 = nI lk ∧ lk ≤ 20
theorem rG.fr {I I' : HI} {J J' : HJ} {L : List Law} {g : Int32} {lk b : Nat} (h : Fr b I J I' J') (hG : rG I L g lk) : rG I' L g lk := ⟨h.laws hG.1, by rw [h.1 1000 (by omega)]; exact hG.2.1, by rw [h.1 1000 (by omega)]; exact hG.2.2.1, hG.2.2.2⟩
theorem rG_ag {L : List Law} {g : Int32} {lk k : Nat} {o f : Nat → Int32} (hG : rG I L g lk) : lawV L g k (kn o f) = lawV L g k f := by
  obtain ⟨⟨h, -, -, -, -, hl⟩, -⟩ := hG
  exact lawV_ag (rLaws_wf hl) (fun j hj => by unfold kn; rw [if_pos hj])
/-- the law of a kind for what was just told -/
theorem m_lawK (hM : Ob S 7 1000) {L : List Law} {g : Int32} {lk : Nat} {o f : Nat → Int32} (hG : rG I L g lk) {k : Nat} (hk : k < 9) : Mn l yX7_lawFor cX7_lawFor 3 (some .int) 2 [.ref 1000, .int (nI k)] S (va_up I 1023 (kn o f)) J (fun v I' J' => v = some (.int (lawV L g k f)) ∧ (∃ p, I' = va_up (va_up I 1023 (kn o f)) 1024 p) ∧ J' = J) := by
  have h := m_lawFor (l := l) (S := S) (I := va_up I 1023 (kn o f)) (J := J) hM ((Fr.kn (b := 0) (J := J) (kn o f)).laws hG.1) hk
  rw [show va_up I 1023 (kn o f) 1000 25 = g from hG.2.1, show va_up I 1023 (kn o f) 1023 = kn o f from rfl, rG_ag hG] at h
  exact h
set_option maxRecDepth 100000 in
set_option maxHeartbeats 4000000 in
theorem m_breaks (hM : Ob S 7 1000) {b : Nat} (hb : b < 8) {L : List Law} {g : Int32} {lk : Nat} (hG : rG I L g lk) (hD : rOk (refD I J b)) : Mn l yX7_breaks cX7_breaks 7 none 3 [.ref 1000, .int (nI b)] S I J (fun v I' J' => v = none ∧ refD I' J b = breakN (kcl L g) (rgD (refD I J b)) 0 (refD I J b) ∧ Fr b I J I' J ∧ J' = J) := by
  refine Mn.of (by decide) (fun ad => by simp [lg_sl, vv, Value.category]) (fun X P hP hn C => ?_)
  generalize hnn : rgD (refD I J b) = n at hP
  have hn0 : refD I J b 0 0 = nI n := by rw [← hnn]; exact hD.1
  have hn12 : n ≤ 12 := by rw [← hnn]; exact hD.2.2.1
  have outer : ∀ (c r : Nat) (Ic : HI) (x3 x4 x5 x6 : Option Value), r + c = n → Fr b I J Ic J → kpD (refD I J b) (refD Ic J b) → breakN (kcl L g) c r (refD Ic J b) = breakN (kcl L g) n 0 (refD I J b) → V X P 0 0 2 [some (.ref 1000), some (.int (nI b)), some (.int (nI r)), x3, x4, x5, x6] [] S Ic J := by
    intro c
    induction c with
    | zero =>
      intro r Ic x3 x4 x5 x6 hr hF hk he
      have hr : r = n := hr
      subst hr
      have c9 : Ic 1027 b ≤ nI r := by rw [show Ic 1027 b = nI r from hk.1.trans hn0]; exact Int32.le_refl _
      refine V_iload_n C dX7_breaks_2 rfl ?_
      refine V_aload_n C dX7_breaks_3 rfl ?_
      refine V_getR C fl_X7_116 (ob_K hM) (ob_R hM 26 1027 rfl rfl) rfl dX7_breaks_4 ?_
      refine V_iload_n C dX7_breaks_7 rfl ?_
      refine V_iald C (b) (ob_A hM 26 1027 rfl rfl) (by first | rfl | (simp only [nI_add, pk_mul]; done) | (simp only [nI_add, pk_mul]; congr 1; omega)) (by rw [ob_N hM 26 1027 rfl rfl]; omega) (by rw [ob_N hM 26 1027 rfl rfl]; decide) dX7_breaks_8 ?_
      refine V_icmp_ge C 102 dX7_breaks_9 (by decide) (fun h9 => ?_) (fun h9 => absurd (c9) h9)
      exact V_vret C (Nat.zero_le _) (Nat.zero_le _) dX7_breaks_102 (hP _ _ _ ⟨rfl, he, hF, rfl⟩)
    | succ c ih =>
      intro r Ic x3 x4 x5 x6 hr hF hk he
      have c9 : ¬ Ic 1027 b ≤ nI r := by rw [show Ic 1027 b = nI n from hk.1.trans hn0]; exact nI_ge (by omega) (by omega)
      have inner : ∀ (m s : Nat) (Ic : HI) (x4 x5 x6 : Option Value), s + m = 5 → 1 ≤ s → Fr b I J Ic J → kpD (refD I J b) (refD Ic J b) → breakN (kcl L g) c (r + 1) (breakR (kcl L g) r m s (refD Ic J b)) = breakN (kcl L g) n 0 (refD I J b) → V X P 0 0 14 [some (.ref 1000), some (.int (nI b)), some (.int (nI r)), some (.int (nI s)), x4, x5, x6] [] S Ic J := by
        intro m
        induction m with
        | zero =>
          intro s Ic x4 x5 x6 hs h1 hF hk he
          have hs : s = 5 := hs
          subst hs
          refine V_iload_n C dX7_breaks_14 rfl ?_
          refine V_iconst C (v := nI 5) dX7_breaks_15 (by decide +kernel) ?_
          refine V_icmp_ge C 96 dX7_breaks_16 (by decide) (fun h16 => ?_) (fun h16 => absurd (by decide) h16)
          refine V_iincU C dX7_breaks_96 rfl (hn _ (by decide)) ?_
          refine V_goto C 2 dX7_breaks_99 (by decide) ?_
          exact ih (r + 1) Ic _ _ _ _ (by omega) hF hk he
        | succ m ih2 =>
          intro s Ic x4 x5 x6 hs h1 hF hk he
          have hDc := hk.ok hD
          have hGc := hG.fr hF
          have h60 : 5 * r + s < 60 := by omega
          have fin : ∀ (In : HI) (x4 x5 x6 : Option Value), Fr b I J In J → refD In J b = breakAt (kcl L g) (refD Ic J b) r s → V X P 0 0 14 [some (.ref 1000), some (.int (nI b)), some (.int (nI r)), some (.int (nI (s + 1))), x4, x5, x6] [] S In J := by
            intro In x4 x5 x6 hF3 eN
            refine ih2 (s + 1) In x4 x5 x6 (by omega) (by omega) hF3 ?_ ?_
            · rw [eN]; exact hk.tr breakAt_kp
            · rw [eN]; exact he
          refine V_iload_n C dX7_breaks_14 rfl ?_
          refine V_iconst C (v := nI 5) dX7_breaks_15 (by decide +kernel) ?_
          refine V_icmp_ge C 96 dX7_breaks_16 (by decide) (fun h16 => absurd h16 (nI_ge (by omega) (by omega))) (fun h16 => ?_)
          refine V_aload_n C dX7_breaks_19 rfl ?_
          refine V_iload_n C dX7_breaks_20 rfl ?_
          refine V_iload_n C dX7_breaks_21 rfl ?_
          refine V_iload_n C dX7_breaks_22 rfl ?_
          refine V_callV (F := fun _ => True) C (m_knowsDust hM hb hDc (by omega) (by omega)) mi_X7_knowsDust ml_X7_355 rfl (ob_K hM) (by decide) (by decide) (by decide) (Nat.le_of_ble_eq_true rfl) (fun _ _ => trivial) (fun v _ => clo_T v) rfl dX7_breaks_23 ?_
          rintro v S' I' J' ⟨hS, rfl, hI, hJ⟩
          obtain rfl := hS.symm
          obtain rfl := hI.symm
          obtain rfl := hJ.symm
          refine V_aload_n C dX7_breaks_26 rfl ?_
          refine V_iconst C (v := nI 1) dX7_breaks_27 (by decide +kernel) ?_
          refine V_callV (F := fun _ => True) C (m_lawK hM hGc (by omega)) mi_X7_lawFor ml_X7_359 rfl (ob_K hM) (by decide) (by decide) (by decide) (Nat.le_of_ble_eq_true rfl) (fun _ _ => trivial) (fun v _ => clo_T v) rfl dX7_breaks_28 ?_
          rintro v S' I' J' ⟨hS, rfl, ⟨p2, hI⟩, hJ⟩
          obtain rfl := hS.symm
          obtain rfl := hJ.symm
          subst hI
          have hF2 := (hF.tr (Fr.kn (kn (Ic 1023) (fDu (refD Ic J b) r s)))).tr (Fr.pl p2)
          have eD : refD (va_up (va_up Ic 1023 (kn (Ic 1023) (fDu (refD Ic J b) r s))) 1024 p2) J b = refD Ic J b := by rw [refD_p, refD_kv]
          refine V_istore C dX7_breaks_31 (hn _ (by decide)) ?_
          refine V_iload C dX7_breaks_33 rfl ?_
          refine V_if_le C 90 dX7_breaks_35 (by decide) (fun h35 => ?_) (fun h35 => ?_)
          · refine V_iincU C dX7_breaks_90 rfl (hn _ (by decide)) ?_
            refine V_goto C 14 dX7_breaks_93 (by decide) ?_
            first | exact fin _ _ _ _ hF2 (by rw [eD, breakAt, if_pos (show kcl L g 1 (fDu (refD Ic J b) r s) ≤ 0 from h35)]) | exact fin _ _ _ _ (hF2.tr (Fr.mv h60 (show 5 * r < 60 by omega))) (by rw [rMv h60 (show 5 * r < 60 by omega), eD, breakAt, if_neg (show ¬ kcl L g 1 (fDu (refD Ic J b) r s) ≤ 0 from h35), rD4 h60]; rfl)
          · refine V_bipush C (v := nI 60) dX7_breaks_38 (by decide +kernel) ?_
            refine V_iload_n C dX7_breaks_40 rfl ?_
            refine V_imul C dX7_breaks_41 ?_
            refine V_iconst C (v := nI 5) dX7_breaks_42 (by decide +kernel) ?_
            refine V_iload_n C dX7_breaks_43 rfl ?_
            refine V_imul C dX7_breaks_44 ?_
            refine V_iadd C dX7_breaks_45 ?_
            refine V_iload_n C dX7_breaks_46 rfl ?_
            refine V_iadd C dX7_breaks_47 ?_
            refine V_istore C dX7_breaks_48 (hn _ (by decide)) ?_
            refine V_aload_n C dX7_breaks_50 rfl ?_
            refine V_getR C fl_X7_128 (ob_K hM) (ob_R hM 30 1031 rfl rfl) rfl dX7_breaks_51 ?_
            refine V_iload C dX7_breaks_54 rfl ?_
            refine V_iald C (60 * b + (5 * r + s)) (ob_A hM 30 1031 rfl rfl) (by first | rfl | (simp only [nI_add, pk_mul]; done) | (simp only [nI_add, pk_mul]; congr 1; omega)) (by rw [ob_N hM 30 1031 rfl rfl]; omega) (by rw [ob_N hM 30 1031 rfl rfl]; decide) dX7_breaks_56 ?_
            refine V_iload C dX7_breaks_57 rfl ?_
            refine V_callS (F := fun _ => True) C (m_part _ _) ms_X7_part ml_X7_369 rfl (by decide) (by decide) (Nat.le_of_ble_eq_true rfl) (fun _ _ => trivial) (fun v _ => clo_T v) rfl dX7_breaks_59 ?_
            rintro v S' I' J' ⟨hS, rfl, hI, hJ⟩
            obtain rfl := hS.symm
            obtain rfl := hI.symm
            obtain rfl := hJ.symm
            refine V_istore C dX7_breaks_62 (hn _ (by decide)) ?_
            refine V_aload_n C dX7_breaks_64 rfl ?_
            refine V_getR C fl_X7_128 (ob_K hM) (ob_R hM 30 1031 rfl rfl) rfl dX7_breaks_65 ?_
            refine V_iload C dX7_breaks_68 rfl ?_
            refine V_dup2 C dX7_breaks_70 rfl rfl ?_
            refine V_iald C (60 * b + (5 * r + s)) (ob_A hM 30 1031 rfl rfl) (by first | rfl | (simp only [nI_add, pk_mul]; done) | (simp only [nI_add, pk_mul]; congr 1; omega)) (by rw [ob_N hM 30 1031 rfl rfl]; omega) (by rw [ob_N hM 30 1031 rfl rfl]; decide) dX7_breaks_71 ?_
            refine V_iload C dX7_breaks_72 rfl ?_
            refine V_isub C dX7_breaks_74 ?_
            refine V_iast C (60 * b + (5 * r + s)) (ob_A hM 30 1031 rfl rfl) (by first | rfl | (simp only [nI_add, pk_mul]; done) | (simp only [nI_add, pk_mul]; congr 1; omega)) (by rw [ob_N hM 30 1031 rfl rfl]; omega) (by rw [ob_N hM 30 1031 rfl rfl]; decide) dX7_breaks_75 ?_
            refine V_aload_n C dX7_breaks_76 rfl ?_
            refine V_getR C fl_X7_128 (ob_K hM) (ob_R hM 30 1031 rfl rfl) rfl dX7_breaks_77 ?_
            refine V_iload C dX7_breaks_80 rfl ?_
            refine V_iload_n C dX7_breaks_82 rfl ?_
            refine V_isub C dX7_breaks_83 ?_
            refine V_dup2 C dX7_breaks_84 rfl rfl ?_
            refine V_iald C (60 * b + 5 * r) (ob_A hM 30 1031 rfl rfl) (by simp only [nI_add, pk_mul]; rw [pk_sub (by omega)]; congr 1; omega) (by rw [ob_N hM 30 1031 rfl rfl]; omega) (by rw [ob_N hM 30 1031 rfl rfl]; decide) dX7_breaks_85 ?_
            refine V_iload C dX7_breaks_86 rfl ?_
            refine V_iadd C dX7_breaks_88 ?_
            refine V_iast C (60 * b + 5 * r) (ob_A hM 30 1031 rfl rfl) (by simp only [nI_add, pk_mul]; rw [pk_sub (by omega)]; congr 1; omega) (by rw [ob_N hM 30 1031 rfl rfl]; omega) (by rw [ob_N hM 30 1031 rfl rfl]; decide) dX7_breaks_89 ?_
            refine V_iincU C dX7_breaks_90 rfl (hn _ (by decide)) ?_
            refine V_goto C 14 dX7_breaks_93 (by decide) ?_
            first | exact fin _ _ _ _ hF2 (by rw [eD, breakAt, if_pos (show kcl L g 1 (fDu (refD Ic J b) r s) ≤ 0 from h35)]) | exact fin _ _ _ _ (hF2.tr (Fr.mv h60 (show 5 * r < 60 by omega))) (by rw [rMv h60 (show 5 * r < 60 by omega), eD, breakAt, if_neg (show ¬ kcl L g 1 (fDu (refD Ic J b) r s) ≤ 0 from h35), rD4 h60]; rfl)
      refine V_iload_n C dX7_breaks_2 rfl ?_
      refine V_aload_n C dX7_breaks_3 rfl ?_
      refine V_getR C fl_X7_116 (ob_K hM) (ob_R hM 26 1027 rfl rfl) rfl dX7_breaks_4 ?_
      refine V_iload_n C dX7_breaks_7 rfl ?_
      refine V_iald C (b) (ob_A hM 26 1027 rfl rfl) (by first | rfl | (simp only [nI_add, pk_mul]; done) | (simp only [nI_add, pk_mul]; congr 1; omega)) (by rw [ob_N hM 26 1027 rfl rfl]; omega) (by rw [ob_N hM 26 1027 rfl rfl]; decide) dX7_breaks_8 ?_
      refine V_icmp_ge C 102 dX7_breaks_9 (by decide) (fun h9 => absurd h9 (c9)) (fun h9 => ?_)
      refine V_iconst C (v := nI 1) dX7_breaks_12 (by decide +kernel) ?_
      refine V_istore_n C dX7_breaks_13 (hn _ (by decide)) ?_
      exact inner 4 1 Ic _ _ _ rfl (by omega) hF hk he
  refine V_iconst C (v := nI 0) dX7_breaks_0 (by decide +kernel) ?_
  refine V_istore_n C dX7_breaks_1 (hn _ (by decide)) ?_
  exact outer n 0 I _ _ _ _ (by omega) Fr.re kpD.re rfl
end M4
