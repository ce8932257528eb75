/-! the reference: findHeld, drifts -/
section M6
variable {l : Launch} {S : HS} {I : HI} {J : HJ}
def gapAt (lw : LW) (D : DV) (G : Nat → Int32) (u : Nat) : Nat → Int32 := if D 5 u = 0 then va_up G (rg D u) (if lw 7 (fLu D u) < 0 then G (rg D u) else if G (rg D u) ≤ lw 7 (fLu D u) then G (rg D u) else lw 7 (fLu D u)) else G
/-- of each ring the least size that its first u lumps hold back -/
def gapN (lw : LW) (D : DV) : Nat → (Nat → Int32)
  | 0 => fun _ => nI 5
  | u + 1 => gapAt lw D (gapN lw D u) u
theorem bI_0 {c : Prop} [Decidable c] : bI c = 0 ↔ ¬ c := by
  unfold bI
  split <;> simp_all
set_option maxRecDepth 100000 in
set_option maxHeartbeats 4000000 in
theorem m_findHeld (hM : Ob S 7 1000) {b : Nat} (hb : b < 8) {L : List Law} {g : Int32} {lk : Nat} (hG : rG I L g lk) (hD : rOk (refD I J b)) : Mn l yX7_findHeld cX7_findHeld 5 none 3 [.ref 1000, .int (nI b)] S I J (fun v I' J' => v = none ∧ Sc I I' ∧ (∀ j, j < 12 → I' 1048 j = gapN (kcl L g) (refD I J b) (cmD (refD I J b)) j) ∧ J' = J) := by
  refine Mn.of (by decide) (fun ad => by simp [lg_sl, vv, Value.category]) (fun X P hP hn C => ?_)
  generalize hcm : cmD (refD I J b) = n at hP
  have hn0 : I 1037 b = nI n := by rw [← hcm]; exact r_cm hD
  have hn30 : n ≤ 30 := by rw [← hcm]; exact hD.2.2.2.2.1
  have loop2 : ∀ (c u : Nat) (Ic : HI) (x3 x4 : Option Value), u + c = n → Sc I Ic → (∀ j, j < 12 → Ic 1048 j = gapN (kcl L g) (refD I J b) u j) → V X P 0 0 23 [some (.ref 1000), some (.int (nI b)), some (.int (nI u)), x3, x4] [] S Ic J := by
    intro c
    induction c with
    | zero =>
      intro u Ic x3 x4 hu hF hg
      have hu : u = n := hu
      subst hu
      have c9 : Ic 1037 b ≤ nI u := by rw [hF 1037 (by decide) (by decide) (by decide) (by decide), hn0]; exact Int32.le_refl _
      refine V_iload_n C dX7_findHeld_23 rfl ?_
      refine V_aload_n C dX7_findHeld_24 rfl ?_
      refine V_getR C fl_X7_146 (ob_K hM) (ob_R hM 36 1037 rfl rfl) rfl dX7_findHeld_25 ?_
      refine V_iload_n C dX7_findHeld_28 rfl ?_
      refine V_iald C (b) (ob_A hM 36 1037 rfl rfl) (by first | rfl | (simp only [nI_add, pk_mul]; done) | (simp only [nI_add, pk_mul]; congr 1; omega)) (by rw [ob_N hM 36 1037 rfl rfl]; omega) (by rw [ob_N hM 36 1037 rfl rfl]; decide) dX7_findHeld_29 ?_
      refine V_icmp_ge C 107 dX7_findHeld_30 (by decide) (fun h30 => ?_) (fun h30 => absurd (c9) h30)
      exact V_vret C (Nat.zero_le _) (Nat.zero_le _) dX7_findHeld_107 (hP _ _ _ ⟨rfl, hF, hg, rfl⟩)
    | succ c ih =>
      intro u Ic x3 x4 hu hF hg
      have c9 : ¬ Ic 1037 b ≤ nI u := by rw [hF 1037 (by decide) (by decide) (by decide) (by decide), hn0]; exact nI_ge (by omega) (by omega)
      have eD : refD Ic J b = refD I J b := hF.eq b
      have hDc : rOk (refD Ic J b) := by rw [eD]; exact hD
      have hGc := hG.fr (J := J) (J' := J) (b := b) hF.fr
      have huc : u < cmD (refD Ic J b) := by rw [eD, hcm]; omega
      have hr6 := hD.2.2.2.2.2 u (by rw [hcm]; omega)
      have hrg : rg (refD I J b) u < 12 := Nat.lt_of_lt_of_le hr6.2 hD.2.2.1
      by_cases h5 : refD I J b 5 u = 0
      · have b1 : ¬ bI (refD Ic J b 5 u = 0) = 0 := by rw [bI_0, eD]; exact fun h => h h5
        refine V_iload_n C dX7_findHeld_23 rfl ?_
        refine V_aload_n C dX7_findHeld_24 rfl ?_
        refine V_getR C fl_X7_146 (ob_K hM) (ob_R hM 36 1037 rfl rfl) rfl dX7_findHeld_25 ?_
        refine V_iload_n C dX7_findHeld_28 rfl ?_
        refine V_iald C (b) (ob_A hM 36 1037 rfl rfl) (by first | rfl | (simp only [nI_add, pk_mul]; done) | (simp only [nI_add, pk_mul]; congr 1; omega)) (by rw [ob_N hM 36 1037 rfl rfl]; omega) (by rw [ob_N hM 36 1037 rfl rfl]; decide) dX7_findHeld_29 ?_
        refine V_icmp_ge C 107 dX7_findHeld_30 (by decide) (fun h30 => absurd h30 (c9)) (fun h30 => ?_)
        refine V_aload_n C dX7_findHeld_33 rfl ?_
        refine V_iload_n C dX7_findHeld_34 rfl ?_
        refine V_iload_n C dX7_findHeld_35 rfl ?_
        refine V_callV (F := fun _ => True) C (m_isThere hM hb hDc huc) mi_X7_isThere ml_X7_372 rfl (ob_K hM) (by decide) (by decide) (by decide) (Nat.le_of_ble_eq_true rfl) (fun _ _ => trivial) (fun v _ => clo_T v) rfl dX7_findHeld_36 ?_
        rintro v S' I' J' ⟨hS, rfl, hI, hJ⟩
        obtain rfl := hS.symm
        obtain rfl := hI.symm
        obtain rfl := hJ.symm
        refine V_if_eq C 101 dX7_findHeld_39 (by decide) (fun h39 => absurd h39 (b1)) (fun h39 => ?_)
        refine V_aload_n C dX7_findHeld_42 rfl ?_
        refine V_iload_n C dX7_findHeld_43 rfl ?_
        refine V_iload_n C dX7_findHeld_44 rfl ?_
        refine V_callV (F := fun _ => True) C (m_knowsLump hM hb hDc huc) mi_X7_knowsLump ml_X7_376 rfl (ob_K hM) (by decide) (by decide) (by decide) (Nat.le_of_ble_eq_true rfl) (fun _ _ => trivial) (fun v _ => clo_T v) rfl dX7_findHeld_45 ?_
        rintro v S' I' J' ⟨hS, rfl, hI, hJ⟩
        obtain rfl := hS.symm
        obtain rfl := hI.symm
        obtain rfl := hJ.symm
        refine V_aload_n C dX7_findHeld_48 rfl ?_
        refine V_bipush C (v := nI 7) dX7_findHeld_49 (by decide +kernel) ?_
        refine V_callV (F := fun _ => True) C (m_lawK hM hGc (by omega)) mi_X7_lawFor ml_X7_359 rfl (ob_K hM) (by decide) (by decide) (by decide) (Nat.le_of_ble_eq_true rfl) (fun _ _ => trivial) (fun v _ => clo_T v) rfl dX7_findHeld_51 ?_
        rintro v S' I' J' ⟨hS, rfl, ⟨p2, hI⟩, hJ⟩
        obtain rfl := hS.symm
        obtain rfl := hJ.symm
        have hF2 := (hF.tr (Sc.kn (kn (Ic 1023) (fLu (refD Ic J b) u)))).tr (Sc.pl p2)
        have e48 : (va_up (va_up Ic 1023 (kn (Ic 1023) (fLu (refD Ic J b) u))) 1024 p2) 1048 = Ic 1048 := rfl
        have e39 : (va_up (va_up Ic 1023 (kn (Ic 1023) (fLu (refD Ic J b) u))) 1024 p2) 1039 (30 * b + u) = nI (rg (refD I J b) u) := by rw [hF2 1039 (by decide) (by decide) (by decide) (by decide), ← (r_lump hD (by rw [hcm]; omega)).2.1]; exact hr6.1
        rw [← hI] at hF2 e48 e39
        clear hI
        rw [eD]
        refine V_istore_n C dX7_findHeld_54 (hn _ (by decide)) ?_
        refine V_aload_n C dX7_findHeld_55 rfl ?_
        refine V_getR C fl_X7_152 (ob_K hM) (ob_R hM 38 1039 rfl rfl) rfl dX7_findHeld_56 ?_
        refine V_bipush C (v := nI 30) dX7_findHeld_59 (by decide +kernel) ?_
        refine V_iload_n C dX7_findHeld_61 rfl ?_
        refine V_imul C dX7_findHeld_62 ?_
        refine V_iload_n C dX7_findHeld_63 rfl ?_
        refine V_iadd C dX7_findHeld_64 ?_
        refine V_iald C (30 * b + u) (ob_A hM 38 1039 rfl rfl) (by first | rfl | (simp only [nI_add, pk_mul]; done) | (simp only [nI_add, pk_mul]; congr 1; omega)) (by rw [ob_N hM 38 1039 rfl rfl]; omega) (by rw [ob_N hM 38 1039 rfl rfl]; decide) dX7_findHeld_65 ?_
        rw [e39]
        refine V_istore C dX7_findHeld_66 (hn _ (by decide)) ?_
        refine V_aload_n C dX7_findHeld_68 rfl ?_
        refine V_getR C fl_X7_173 (ob_K hM) (ob_R hM 47 1048 rfl rfl) rfl dX7_findHeld_69 ?_
        refine V_iload C dX7_findHeld_72 rfl ?_
        refine V_iload_n C dX7_findHeld_74 rfl ?_
        refine V_tern_if_lt (vt := I' 1048 (rg (refD I J b) u)) (vf := if I' 1048 (rg (refD I J b) u) ≤ lawV L g 7 (fLu (refD I J b) u) then I' 1048 (rg (refD I J b) u) else lawV L g 7 (fLu (refD I J b) u)) (pm := 100) C 93 dX7_findHeld_75 (by decide) (fun h75 k => ?_) (fun h75 k => ?_) ?_
        · refine V_aload_n C dX7_findHeld_93 rfl ?_
          refine V_getR C fl_X7_173 (ob_K hM) (ob_R hM 47 1048 rfl rfl) rfl dX7_findHeld_94 ?_
          refine V_iload C dX7_findHeld_97 rfl ?_
          refine V_iald C (rg (refD I J b) u) (ob_A hM 47 1048 rfl rfl) (by first | rfl | (simp only [nI_add, pk_mul]; done) | (simp only [nI_add, pk_mul]; congr 1; omega)) (by rw [ob_N hM 47 1048 rfl rfl]; omega) (by rw [ob_N hM 47 1048 rfl rfl]; decide) dX7_findHeld_99 ?_
          exact k
        · refine V_iload_n C dX7_findHeld_78 rfl ?_
          refine V_aload_n C dX7_findHeld_79 rfl ?_
          refine V_getR C fl_X7_173 (ob_K hM) (ob_R hM 47 1048 rfl rfl) rfl dX7_findHeld_80 ?_
          refine V_iload C dX7_findHeld_83 rfl ?_
          refine V_iald C (rg (refD I J b) u) (ob_A hM 47 1048 rfl rfl) (by first | rfl | (simp only [nI_add, pk_mul]; done) | (simp only [nI_add, pk_mul]; congr 1; omega)) (by rw [ob_N hM 47 1048 rfl rfl]; omega) (by rw [ob_N hM 47 1048 rfl rfl]; decide) dX7_findHeld_85 ?_
          refine V_tern_icmp_ge (vt := I' 1048 (rg (refD I J b) u)) (vf := lawV L g 7 (fLu (refD I J b) u)) (pm := 100) C 93 dX7_findHeld_86 (by decide) (fun h86 k => ?_) (fun h86 k => ?_) ?_
          · refine V_aload_n C dX7_findHeld_93 rfl ?_
            refine V_getR C fl_X7_173 (ob_K hM) (ob_R hM 47 1048 rfl rfl) rfl dX7_findHeld_94 ?_
            refine V_iload C dX7_findHeld_97 rfl ?_
            refine V_iald C (rg (refD I J b) u) (ob_A hM 47 1048 rfl rfl) (by first | rfl | (simp only [nI_add, pk_mul]; done) | (simp only [nI_add, pk_mul]; congr 1; omega)) (by rw [ob_N hM 47 1048 rfl rfl]; omega) (by rw [ob_N hM 47 1048 rfl rfl]; decide) dX7_findHeld_99 ?_
            exact k
          · refine V_iload_n C dX7_findHeld_89 rfl ?_
            refine V_goto C 100 dX7_findHeld_90 (by decide) ?_
            exact k
          exact k
        refine V_iast C (rg (refD I J b) u) (ob_A hM 47 1048 rfl rfl) (by first | rfl | (simp only [nI_add, pk_mul]; done) | (simp only [nI_add, pk_mul]; congr 1; omega)) (by rw [ob_N hM 47 1048 rfl rfl]; omega) (by rw [ob_N hM 47 1048 rfl rfl]; decide) dX7_findHeld_100 ?_
        refine V_iincU C dX7_findHeld_101 rfl (hn _ (by decide)) ?_
        refine V_goto C 23 dX7_findHeld_104 (by decide) ?_
        refine ih (u + 1) _ _ _ (by omega) (hF2.tr (Sc.he _ _)) (fun j hj => ?_)
        rw [up2_row, e48, hg _ hrg, gapN, gapAt, if_pos h5]
        unfold va_up
        split
        · rfl
        · exact hg j hj
      · have b1 : bI (refD Ic J b 5 u = 0) = 0 := by rw [bI_0, eD]; exact h5
        refine V_iload_n C dX7_findHeld_23 rfl ?_
        refine V_aload_n C dX7_findHeld_24 rfl ?_
        refine V_getR C fl_X7_146 (ob_K hM) (ob_R hM 36 1037 rfl rfl) rfl dX7_findHeld_25 ?_
        refine V_iload_n C dX7_findHeld_28 rfl ?_
        refine V_iald C (b) (ob_A hM 36 1037 rfl rfl) (by first | rfl | (simp only [nI_add, pk_mul]; done) | (simp only [nI_add, pk_mul]; congr 1; omega)) (by rw [ob_N hM 36 1037 rfl rfl]; omega) (by rw [ob_N hM 36 1037 rfl rfl]; decide) dX7_findHeld_29 ?_
        refine V_icmp_ge C 107 dX7_findHeld_30 (by decide) (fun h30 => absurd h30 (c9)) (fun h30 => ?_)
        refine V_aload_n C dX7_findHeld_33 rfl ?_
        refine V_iload_n C dX7_findHeld_34 rfl ?_
        refine V_iload_n C dX7_findHeld_35 rfl ?_
        refine V_callV (F := fun _ => True) C (m_isThere hM hb hDc huc) mi_X7_isThere ml_X7_372 rfl (ob_K hM) (by decide) (by decide) (by decide) (Nat.le_of_ble_eq_true rfl) (fun _ _ => trivial) (fun v _ => clo_T v) rfl dX7_findHeld_36 ?_
        rintro v S' I' J' ⟨hS, rfl, hI, hJ⟩
        obtain rfl := hS.symm
        obtain rfl := hI.symm
        obtain rfl := hJ.symm
        refine V_if_eq C 101 dX7_findHeld_39 (by decide) (fun h39 => ?_) (fun h39 => absurd (b1) h39)
        refine V_iincU C dX7_findHeld_101 rfl (hn _ (by decide)) ?_
        refine V_goto C 23 dX7_findHeld_104 (by decide) ?_
        exact ih (u + 1) _ _ _ (by omega) hF (fun j hj => by rw [gapN, gapAt, if_neg h5]; exact hg j hj)
  have loop1 : ∀ (c r : Nat) (Ic : HI), r + c = 12 → Sc I Ic → (∀ j, j < r → Ic 1048 j = nI 5) → V X P 0 0 2 [some (.ref 1000), some (.int (nI b)), some (.int (nI r)), none, none] [] S Ic J := by
    intro c
    induction c with
    | zero =>
      intro r Ic hr hF hg
      have hr : r = 12 := hr
      subst hr
      refine V_iload_n C dX7_findHeld_2 rfl ?_
      refine V_bipush C (v := nI 12) dX7_findHeld_3 (by decide +kernel) ?_
      refine V_icmp_ge C 21 dX7_findHeld_5 (by decide) (fun h5 => ?_) (fun h5 => absurd (by decide) h5)
      refine V_iconst C (v := nI 0) dX7_findHeld_21 (by decide +kernel) ?_
      refine V_istore_n C dX7_findHeld_22 (hn _ (by decide)) ?_
      exact loop2 n 0 Ic _ _ (by omega) hF hg
    | succ c ih =>
      intro r Ic hr hF hg
      refine V_iload_n C dX7_findHeld_2 rfl ?_
      refine V_bipush C (v := nI 12) dX7_findHeld_3 (by decide +kernel) ?_
      refine V_icmp_ge C 21 dX7_findHeld_5 (by decide) (fun h5 => absurd h5 (nI_ge (by omega) (by omega))) (fun h5 => ?_)
      refine V_aload_n C dX7_findHeld_8 rfl ?_
      refine V_getR C fl_X7_173 (ob_K hM) (ob_R hM 47 1048 rfl rfl) rfl dX7_findHeld_9 ?_
      refine V_iload_n C dX7_findHeld_12 rfl ?_
      refine V_iconst C (v := nI 5) dX7_findHeld_13 (by decide +kernel) ?_
      refine V_iast C (r) (ob_A hM 47 1048 rfl rfl) (by first | rfl | (simp only [nI_add, pk_mul]; done) | (simp only [nI_add, pk_mul]; congr 1; omega)) (by rw [ob_N hM 47 1048 rfl rfl]; omega) (by rw [ob_N hM 47 1048 rfl rfl]; decide) dX7_findHeld_14 ?_
      refine V_iincU C dX7_findHeld_15 rfl (hn _ (by decide)) ?_
      refine V_goto C 2 dX7_findHeld_18 (by decide) ?_
      refine ih (r + 1) _ (by omega) (hF.tr (Sc.he _ _)) (fun j hj => ?_)
      rw [up2_row]
      unfold va_up
      split
      · rfl
      · exact hg j (by omega)
  refine V_iconst C (v := nI 0) dX7_findHeld_0 (by decide +kernel) ?_
  refine V_istore_n C dX7_findHeld_1 (hn _ (by decide)) ?_
  exact loop1 12 0 I rfl Sc.re (fun j hj => absurd hj (Nat.not_lt_zero _))
end M6
