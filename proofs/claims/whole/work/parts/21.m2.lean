/-! the reference: what it reads of a disk -/
section M2
variable {l : Launch} {S : HS} {I : HI} {J : HJ}
/-- the disk b stands as it should for reading: its counts are in range -/
def rOk (D : DV) : Prop := D 0 0 = nI (rgD D) ∧ 2 ≤ rgD D ∧ rgD D ≤ 12 ∧ D 0 6 = nI (cmD D) ∧ cmD D ≤ 30 ∧ ∀ u, u < cmD D → D 6 u = nI (rg D u) ∧ rg D u < rgD D
theorem r_aD {b r : Nat} (hr : r < 12) : iSum (I 1031) (60 * b + 5 * r) 5 = aD (refD I J b) r := iSum_congr (fun i hi => by
  have h : 5 * r + i < 60 := by omega
  simp only [refD, if_pos h]
  congr 1; omega)
set_option maxRecDepth 100000 in
theorem m_there (hM : Ob S 7 1000) {b : Nat} (hb : b < 8) (hD : rOk (refD I J b)) : Mn l yX7_there cX7_there 4 (some .int) 0 [.ref 1000, .int (nI b)] S I J (fun v I' J' => v = some (.int (thD (refD I J b))) ∧ I' = I ∧ J' = J) := by
  refine Mn.of (by decide) (fun ad => by simp [lg_sl, vv, Value.category]) (fun X P hP hn C => ?_)
  obtain ⟨-, -, -, hc, hc2, -⟩ := hD
  generalize hcm : cmD (refD I J b) = c at hc hc2
  have hc : I 1037 b = nI c := hc
  refine V_iconst C (v := nI 0) dX7_there_0 (by decide +kernel) ?_
  refine V_istore_n C dX7_there_1 (hn _ (by decide)) ?_
  refine V_iconst C (v := nI 0) dX7_there_2 (by decide +kernel) ?_
  refine V_istore_n C dX7_there_3 (hn _ (by decide)) ?_
  have loop : ∀ n i : Nat, n + i = c → V X P 0 0 4 [some (.ref 1000), some (.int (nI b)), some (.int (tCnt (refD I J b 5) i)), some (.int (nI i))] [] S I J := by
    intro n
    induction n with
    | zero =>
      intro i hi
      obtain rfl : i = c := by omega
      refine V_iload_n C dX7_there_4 rfl ?_
      refine V_aload_n C dX7_there_5 rfl ?_
      refine V_getR C fl_X7_146 (ob_K hM) (ob_R hM 36 1037 rfl rfl) rfl dX7_there_6 ?_
      refine V_iload_n C dX7_there_9 rfl ?_
      refine V_iald C (b) (ob_A hM 36 1037 rfl rfl) (by first | rfl | (simp only [nI_add, pk_mul]; done) | (simp only [nI_add, pk_mul]; congr 1; omega)) (by rw [ob_N hM 36 1037 rfl rfl]; omega) (by rw [ob_N hM 36 1037 rfl rfl]; decide) dX7_there_10 ?_
      -- at 11: .if_icmp .ge 31 [None, None]
      refine V_icmp_ge C 42 dX7_there_11 (by decide) (fun h => ?_) (fun h => ?_)
      · refine V_iload_n C dX7_there_42 rfl ?_
        -- at 43: .ireturn [None]
        exact V_iret C (Nat.zero_le _) (Nat.zero_le _) dX7_there_43 (hP _ _ _ ⟨by rw [thD, hcm], rfl, rfl⟩)
      · exact absurd (by rw [hc]; exact Int32.le_refl _) h
    | succ n ih =>
      intro i hi
      refine V_iload_n C dX7_there_4 rfl ?_
      refine V_aload_n C dX7_there_5 rfl ?_
      refine V_getR C fl_X7_146 (ob_K hM) (ob_R hM 36 1037 rfl rfl) rfl dX7_there_6 ?_
      refine V_iload_n C dX7_there_9 rfl ?_
      refine V_iald C (b) (ob_A hM 36 1037 rfl rfl) (by first | rfl | (simp only [nI_add, pk_mul]; done) | (simp only [nI_add, pk_mul]; congr 1; omega)) (by rw [ob_N hM 36 1037 rfl rfl]; omega) (by rw [ob_N hM 36 1037 rfl rfl]; decide) dX7_there_10 ?_
      -- at 11: .if_icmp .ge 31 [None, None]
      refine V_icmp_ge C 42 dX7_there_11 (by decide) (fun h => ?_) (fun h => ?_)
      · exact absurd h (by rw [hc]; exact nI_ge (by omega) (by omega))
      · have e : I 1038 (30 * b + i) = refD I J b 5 i := by
          simp only [refD, hc, nI_clamp (show c < 2 ^ 31 by omega)]
          rw [if_pos (by omega)]
        refine V_iload_n C dX7_there_14 rfl ?_
        refine V_aload_n C dX7_there_15 rfl ?_
        refine V_getR C fl_X7_149 (ob_K hM) (ob_R hM 37 1038 rfl rfl) rfl dX7_there_16 ?_
        refine V_bipush C (v := nI 30) dX7_there_19 (by decide +kernel) ?_
        refine V_iload_n C dX7_there_21 rfl ?_
        refine V_imul C dX7_there_22 ?_
        refine V_iload_n C dX7_there_23 rfl ?_
        refine V_iadd C dX7_there_24 ?_
        refine V_iald C (30 * b + i) (ob_A hM 37 1038 rfl rfl) (by first | rfl | (simp only [nI_add, pk_mul]; done) | (simp only [nI_add, pk_mul]; congr 1; omega)) (by rw [ob_N hM 37 1038 rfl rfl]; omega) (by rw [ob_N hM 37 1038 rfl rfl]; decide) dX7_there_25 ?_
        rw [e]
        refine V_tern_if_ne (vt := nI 1) (vf := nI 0) (pm := 34) C 33 dX7_there_26 (by decide) (fun h26 k => ?_) (fun h26 k => ?_) ?_
        · refine V_iconst C (v := nI 1) dX7_there_29 (by decide +kernel) ?_
          refine V_goto C 34 dX7_there_30 (by decide) ?_
          exact k
        · refine V_iconst C (v := nI 0) dX7_there_33 (by decide +kernel) ?_
          exact k
        refine V_iadd C dX7_there_34 ?_
        refine V_istore_n C dX7_there_35 (hn _ (by decide)) ?_
        refine V_iincU C dX7_there_36 rfl (hn _ (by decide)) ?_
        refine V_goto C 4 dX7_there_39 (by decide) ?_
        exact ih (i + 1) (by omega)
  exact loop c 0 (by omega)
theorem r_cm {b : Nat} (hD : rOk (refD I J b)) : I 1037 b = nI (cmD (refD I J b)) := hD.2.2.2.1
theorem r_lump {b u : Nat} (hD : rOk (refD I J b)) (hu : u < cmD (refD I J b)) : refD I J b 5 u = I 1038 (30 * b + u) ∧ refD I J b 6 u = I 1039 (30 * b + u) ∧ refD I J b 7 u = I 1040 (30 * b + u) ∧ refD I J b 8 u = I 1041 (30 * b + u) ∧ refD I J b 9 u = I 1042 (30 * b + u) ∧ refD I J b 10 u = I 1043 (30 * b + u) := by
  have hc : (I 1037 b).toNatClampNeg = cmD (refD I J b) := rfl
  simp only [refD, hc, if_pos hu, and_self]
theorem r_wD {b u : Nat} (hD : rOk (refD I J b)) (hu : u < cmD (refD I J b)) : iSum (I 1044) (12 * (30 * b + u)) 12 + I 1040 (30 * b + u) = wD (refD I J b) u := by
  unfold wD
  rw [(r_lump hD hu).2.2.1]
  refine congrArg (fun z => z + I 1040 (30 * b + u)) (iSum_congr (fun i hi => ?_))
  have hc : (I 1037 b).toNatClampNeg = cmD (refD I J b) := rfl
  have h : 12 * u + i < 12 * cmD (refD I J b) := by omega
  simp only [refD, hc, if_pos h]
  congr 1; omega
set_option maxRecDepth 100000 in
theorem m_dustOf (hM : Ob S 7 1000) {b u : Nat} (hb : b < 8) (hu : u < 30) : Mn l yX7_dustOf cX7_dustOf 5 (some .int) 0 [.ref 1000, .int (nI b), .int (nI u)] S I J (fun v I' J' => v = some (.int (iSum (I 1044) (12 * (30 * b + u)) 12)) ∧ I' = I ∧ J' = J) := by
  refine Mn.of (by decide) (fun ad => by simp [lg_sl, vv, Value.category]) (fun X P hP hn C => ?_)
  refine V_iconst C (v := nI 0) dX7_dustOf_0 (by decide +kernel) ?_
  refine V_istore_n C dX7_dustOf_1 (hn _ (by decide)) ?_
  refine V_iconst C (v := nI 0) dX7_dustOf_2 (by decide +kernel) ?_
  refine V_istore C dX7_dustOf_3 (hn _ (by decide)) ?_
  have loop : ∀ n i : Nat, n + i = 12 → V X P 0 0 5 [some (.ref 1000), some (.int (nI b)), some (.int (nI u)), some (.int (iSum (I 1044) (12 * (30 * b + u)) i)), some (.int (nI i))] [] S I J := by
    intro n
    induction n with
    | zero =>
      intro i hi
      obtain rfl : i = 12 := by omega
      refine V_iload C dX7_dustOf_5 rfl ?_
      refine V_bipush C (v := nI 12) dX7_dustOf_7 (by decide +kernel) ?_
      -- at 9: .if_icmp .ge 29 [None, None]
      refine V_icmp_ge C 38 dX7_dustOf_9 (by decide) (fun h => ?_) (fun h => ?_)
      · refine V_iload_n C dX7_dustOf_38 rfl ?_
        -- at 39: .ireturn [None]
        exact V_iret C (Nat.zero_le _) (Nat.zero_le _) dX7_dustOf_39 (hP _ _ _ ⟨rfl, rfl, rfl⟩)
      · exact absurd (by decide) h
    | succ n ih =>
      intro i hi
      refine V_iload C dX7_dustOf_5 rfl ?_
      refine V_bipush C (v := nI 12) dX7_dustOf_7 (by decide +kernel) ?_
      -- at 9: .if_icmp .ge 29 [None, None]
      refine V_icmp_ge C 38 dX7_dustOf_9 (by decide) (fun h => ?_) (fun h => ?_)
      · exact absurd h (nI_ge (by omega) (by omega))
      · refine V_iload_n C dX7_dustOf_12 rfl ?_
        refine V_aload_n C dX7_dustOf_13 rfl ?_
        refine V_getR C fl_X7_167 (ob_K hM) (ob_R hM 43 1044 rfl rfl) rfl dX7_dustOf_14 ?_
        refine V_bipush C (v := nI 12) dX7_dustOf_17 (by decide +kernel) ?_
        refine V_bipush C (v := nI 30) dX7_dustOf_19 (by decide +kernel) ?_
        refine V_iload_n C dX7_dustOf_21 rfl ?_
        refine V_imul C dX7_dustOf_22 ?_
        refine V_iload_n C dX7_dustOf_23 rfl ?_
        refine V_iadd C dX7_dustOf_24 ?_
        refine V_imul C dX7_dustOf_25 ?_
        refine V_iload C dX7_dustOf_26 rfl ?_
        refine V_iadd C dX7_dustOf_28 ?_
        refine V_iald C (12 * (30 * b + u) + i) (ob_A hM 43 1044 rfl rfl) (by first | rfl | (simp only [nI_add, pk_mul]; done) | (simp only [nI_add, pk_mul]; congr 1; omega)) (by rw [ob_N hM 43 1044 rfl rfl]; omega) (by rw [ob_N hM 43 1044 rfl rfl]; decide) dX7_dustOf_29 ?_
        refine V_iadd C dX7_dustOf_30 ?_
        refine V_istore_n C dX7_dustOf_31 (hn _ (by decide)) ?_
        refine V_iincU C dX7_dustOf_32 rfl (hn _ (by decide)) ?_
        refine V_goto C 5 dX7_dustOf_35 (by decide) ?_
        exact ih (i + 1) (by omega)
  exact loop 12 0 rfl
set_option maxRecDepth 100000 in
theorem m_weightOf (hM : Ob S 7 1000) {b u : Nat} (hb : b < 8) (hD : rOk (refD I J b)) (hu : u < cmD (refD I J b)) : Mn l yX7_weightOf cX7_weightOf 3 (some .int) 1 [.ref 1000, .int (nI b), .int (nI u)] S I J (fun v I' J' => v = some (.int (wD (refD I J b) u)) ∧ I' = I ∧ J' = J) := by
  refine Mn.of (by decide) (fun ad => by simp [lg_sl, vv, Value.category]) (fun X P hP hn C => ?_)
  have hu2 : u < 30 := Nat.lt_of_lt_of_le hu hD.2.2.2.2.1
  refine V_aload_n C dX7_weightOf_0 rfl ?_
  refine V_iload_n C dX7_weightOf_1 rfl ?_
  refine V_iload_n C dX7_weightOf_2 rfl ?_
  refine V_callV (F := fun _ => True) C (m_dustOf hM hb hu2) mi_X7_dustOf ml_X7_323 rfl (ob_K hM) (by decide) (by decide) (by decide) (by decide) (fun _ _ => trivial) (fun v _ => clo_T v) rfl dX7_weightOf_3 ?_
  rintro v S' I' J' ⟨hS, rfl, hI, hJ⟩
  obtain rfl := hS.symm
  obtain rfl := hI.symm
  obtain rfl := hJ.symm
  refine V_aload_n C dX7_weightOf_6 rfl ?_
  refine V_getR C fl_X7_155 (ob_K hM) (ob_R hM 39 1040 rfl rfl) rfl dX7_weightOf_7 ?_
  refine V_bipush C (v := nI 30) dX7_weightOf_10 (by decide +kernel) ?_
  refine V_iload_n C dX7_weightOf_12 rfl ?_
  refine V_imul C dX7_weightOf_13 ?_
  refine V_iload_n C dX7_weightOf_14 rfl ?_
  refine V_iadd C dX7_weightOf_15 ?_
  refine V_iald C (30 * b + u) (ob_A hM 39 1040 rfl rfl) (by first | rfl | (simp only [nI_add, pk_mul]; done) | (simp only [nI_add, pk_mul]; congr 1; omega)) (by rw [ob_N hM 39 1040 rfl rfl]; omega) (by rw [ob_N hM 39 1040 rfl rfl]; decide) dX7_weightOf_16 ?_
  refine V_iadd C dX7_weightOf_17 ?_
  exact V_iret C (Nat.zero_le _) (Nat.zero_le _) dX7_weightOf_18 (hP _ _ _ ⟨by rw [r_wD hD hu], rfl, rfl⟩)
set_option maxRecDepth 100000 in
theorem m_isThere (hM : Ob S 7 1000) {b u : Nat} (hb : b < 8) (hD : rOk (refD I J b)) (hu : u < cmD (refD I J b)) : Mn l yX7_isThere cX7_isThere 3 (some .boolean) 0 [.ref 1000, .int (nI b), .int (nI u)] S I J (fun v I' J' => v = some (.int (bI (refD I J b 5 u = 0))) ∧ I' = I ∧ J' = J) := by
  refine Mn.of (by decide) (fun ad => by simp [lg_sl, vv, Value.category]) (fun X P hP hn C => ?_)
  have hu2 : u < 30 := Nat.lt_of_lt_of_le hu hD.2.2.2.2.1
  rw [(r_lump hD hu).1] at hP
  refine V_aload_n C dX7_isThere_0 rfl ?_
  refine V_getR C fl_X7_149 (ob_K hM) (ob_R hM 37 1038 rfl rfl) rfl dX7_isThere_1 ?_
  refine V_bipush C (v := nI 30) dX7_isThere_4 (by decide +kernel) ?_
  refine V_iload_n C dX7_isThere_6 rfl ?_
  refine V_imul C dX7_isThere_7 ?_
  refine V_iload_n C dX7_isThere_8 rfl ?_
  refine V_iadd C dX7_isThere_9 ?_
  refine V_iald C (30 * b + u) (ob_A hM 37 1038 rfl rfl) (by first | rfl | (simp only [nI_add, pk_mul]; done) | (simp only [nI_add, pk_mul]; congr 1; omega)) (by rw [ob_N hM 37 1038 rfl rfl]; omega) (by rw [ob_N hM 37 1038 rfl rfl]; decide) dX7_isThere_10 ?_
  refine V_if_ne C 18 dX7_isThere_11 (by decide) (fun h11 => ?_) (fun h11 => ?_)
  · refine V_iconst C (v := nI 0) dX7_isThere_18 (by decide +kernel) ?_
    exact V_zret C (by first | exact Or.inl rfl | exact Or.inr rfl | (simp only [bI]; split <;> first | exact Or.inl rfl | exact Or.inr rfl) | assumption) (Nat.zero_le _) (Nat.zero_le _) dX7_isThere_19 (hP _ _ _ ⟨by first | (rw [bI_t h11]; rfl) | (rw [bI_f h11]; rfl), rfl, rfl⟩)
  · refine V_iconst C (v := nI 1) dX7_isThere_14 (by decide +kernel) ?_
    refine V_goto C 19 dX7_isThere_15 (by decide) ?_
    exact V_zret C (by first | exact Or.inl rfl | exact Or.inr rfl | (simp only [bI]; split <;> first | exact Or.inl rfl | exact Or.inr rfl) | assumption) (Nat.zero_le _) (Nat.zero_le _) dX7_isThere_19 (hP _ _ _ ⟨by first | (rw [bI_t h11]; rfl) | (rw [bI_f h11]; rfl), rfl, rfl⟩)
set_option maxRecDepth 100000 in
theorem m_wayOf (hM : Ob S 7 1000) {b r : Nat} (hb : b < 8) (hD : rOk (refD I J b)) (hr : r < rgD (refD I J b)) : Mn l yX7_wayOf cX7_wayOf 7 (some .int) 0 [.ref 1000, .int (nI b), .int (nI r)] S I J (fun v I' J' => v = some (.int (wayD (refD I J b) r)) ∧ I' = I ∧ J' = J) := by
  refine Mn.of (by decide) (fun ad => by simp [lg_sl, vv, Value.category]) (fun X P hP hn C => ?_)
  have hn0 : I 1027 b = nI (rgD (refD I J b)) := hD.1
  have hn1 := hD.2.2.1
  have hr2 : r < 12 := by omega
  have e1 : refD I J b 1 r = I 1028 (12 * b + r) := by simp only [refD, if_pos hr2]
  have e2 : ¬ nI r = 0 → refD I J b 1 (r - 1) = I 1028 (12 * b + r - 1) := fun h => by
    have h0 : r ≠ 0 := fun e => h (by rw [e]; rfl)
    have : r - 1 < 12 := by omega
    simp only [refD, if_pos this]
    congr 1; omega
  have e3 : ¬ nI r = I 1027 b - nI 1 → r + 1 < 12 ∧ refD I J b 1 (r + 1) = I 1028 (12 * b + r + 1) := fun h => by
    have h0 : r + 1 < rgD (refD I J b) := by
      refine Nat.lt_of_not_le (fun q => h ?_)
      rw [hn0, pk_sub (by omega)]
      congr 1; omega
    have h1 : r + 1 < 12 := by omega
    refine ⟨h1, ?_⟩
    simp only [refD, if_pos h1]
    congr 1
  have ein : inD (refD I J b) r = if nI r = 0 then I 1032 b else I 1028 (12 * b + r - 1) := by
    unfold inD
    split
    · rfl
    · rename_i h; exact e2 h
  have eout : outD (refD I J b) r = if nI r = I 1027 b - nI 1 then nI 0 else I 1028 (12 * b + r + 1) := by
    unfold outD
    show (if nI r = I 1027 b - nI 1 then nI 0 else refD I J b 1 (r + 1)) = _
    split
    · rfl
    · rename_i h; exact (e3 h).2
  unfold wayD at hP
  rw [ein, eout, e1] at hP
  refine V_aload_n C dX7_wayOf_0 rfl ?_
  refine V_getR C fl_X7_119 (ob_K hM) (ob_R hM 27 1028 rfl rfl) rfl dX7_wayOf_1 ?_
  refine V_bipush C (v := nI 12) dX7_wayOf_4 (by decide +kernel) ?_
  refine V_iload_n C dX7_wayOf_6 rfl ?_
  refine V_imul C dX7_wayOf_7 ?_
  refine V_iload_n C dX7_wayOf_8 rfl ?_
  refine V_iadd C dX7_wayOf_9 ?_
  refine V_iald C (12 * b + r) (ob_A hM 27 1028 rfl rfl) (by first | rfl | (simp only [nI_add, pk_mul]; done) | (simp only [nI_add, pk_mul]; congr 1; omega)) (by rw [ob_N hM 27 1028 rfl rfl]; omega) (by rw [ob_N hM 27 1028 rfl rfl]; decide) dX7_wayOf_10 ?_
  refine V_istore_n C dX7_wayOf_11 (hn _ (by decide)) ?_
  refine V_iload_n C dX7_wayOf_12 rfl ?_
  refine V_tern_if_ne (vt := I 1032 b) (vf := I 1028 (12 * b + r - 1)) (pm := 38) C 25 dX7_wayOf_13 (by decide) (fun h13 k => ?_) (fun h13 k => ?_) ?_
  · refine V_aload_n C dX7_wayOf_16 rfl ?_
    refine V_getR C fl_X7_131 (ob_K hM) (ob_R hM 31 1032 rfl rfl) rfl dX7_wayOf_17 ?_
    refine V_iload_n C dX7_wayOf_20 rfl ?_
    refine V_iald C (b) (ob_A hM 31 1032 rfl rfl) (by first | rfl | (simp only [nI_add, pk_mul]; done) | (simp only [nI_add, pk_mul]; congr 1; omega)) (by rw [ob_N hM 31 1032 rfl rfl]; omega) (by rw [ob_N hM 31 1032 rfl rfl]; decide) dX7_wayOf_21 ?_
    refine V_goto C 38 dX7_wayOf_22 (by decide) ?_
    exact k
  · refine V_aload_n C dX7_wayOf_25 rfl ?_
    refine V_getR C fl_X7_119 (ob_K hM) (ob_R hM 27 1028 rfl rfl) rfl dX7_wayOf_26 ?_
    refine V_bipush C (v := nI 12) dX7_wayOf_29 (by decide +kernel) ?_
    refine V_iload_n C dX7_wayOf_31 rfl ?_
    refine V_imul C dX7_wayOf_32 ?_
    refine V_iload_n C dX7_wayOf_33 rfl ?_
    refine V_iadd C dX7_wayOf_34 ?_
    refine V_iconst C (v := nI 1) dX7_wayOf_35 (by decide +kernel) ?_
    refine V_isub C dX7_wayOf_36 ?_
    refine V_iald C (12 * b + r - 1) (ob_A hM 27 1028 rfl rfl) (by have h0 : r ≠ 0 := (fun e => h13 (by rw [e]; rfl)); rw [pk_mul, nI_add, pk_sub (by omega)]) (by rw [ob_N hM 27 1028 rfl rfl]; omega) (by rw [ob_N hM 27 1028 rfl rfl]; decide) dX7_wayOf_37 ?_
    exact k
  refine V_istore C dX7_wayOf_38 (hn _ (by decide)) ?_
  refine V_iload_n C dX7_wayOf_40 rfl ?_
  refine V_aload_n C dX7_wayOf_41 rfl ?_
  refine V_getR C fl_X7_116 (ob_K hM) (ob_R hM 26 1027 rfl rfl) rfl dX7_wayOf_42 ?_
  refine V_iload_n C dX7_wayOf_45 rfl ?_
  refine V_iald C (b) (ob_A hM 26 1027 rfl rfl) (by first | rfl | (simp only [nI_add, pk_mul]; done) | (simp only [nI_add, pk_mul]; congr 1; omega)) (by rw [ob_N hM 26 1027 rfl rfl]; omega) (by rw [ob_N hM 26 1027 rfl rfl]; decide) dX7_wayOf_46 ?_
  refine V_iconst C (v := nI 1) dX7_wayOf_47 (by decide +kernel) ?_
  refine V_isub C dX7_wayOf_48 ?_
  refine V_tern_icmp_ne (vt := nI 0) (vf := I 1028 (12 * b + r + 1)) (pm := 69) C 56 dX7_wayOf_49 (by decide) (fun h49 k => ?_) (fun h49 k => ?_) ?_
  · refine V_iconst C (v := nI 0) dX7_wayOf_52 (by decide +kernel) ?_
    refine V_goto C 69 dX7_wayOf_53 (by decide) ?_
    exact k
  · refine V_aload_n C dX7_wayOf_56 rfl ?_
    refine V_getR C fl_X7_119 (ob_K hM) (ob_R hM 27 1028 rfl rfl) rfl dX7_wayOf_57 ?_
    refine V_bipush C (v := nI 12) dX7_wayOf_60 (by decide +kernel) ?_
    refine V_iload_n C dX7_wayOf_62 rfl ?_
    refine V_imul C dX7_wayOf_63 ?_
    refine V_iload_n C dX7_wayOf_64 rfl ?_
    refine V_iadd C dX7_wayOf_65 ?_
    refine V_iconst C (v := nI 1) dX7_wayOf_66 (by decide +kernel) ?_
    refine V_iadd C dX7_wayOf_67 ?_
    refine V_iald C (12 * b + r + 1) (ob_A hM 27 1028 rfl rfl) (by first | rfl | (simp only [nI_add, pk_mul]; done) | (simp only [nI_add, pk_mul]; congr 1; omega)) (by rw [ob_N hM 27 1028 rfl rfl]; (have := (e3 h49).1; omega)) (by rw [ob_N hM 27 1028 rfl rfl]; decide) dX7_wayOf_68 ?_
    exact k
  refine V_istore C dX7_wayOf_69 (hn _ (by decide)) ?_
  refine V_iload C dX7_wayOf_71 rfl ?_
  refine V_iload_n C dX7_wayOf_73 rfl ?_
  refine V_tern_icmp_le (vt := I 1028 (12 * b + r)) (vf := if nI r = 0 then I 1032 b else I 1028 (12 * b + r - 1)) (pm := 83) C 82 dX7_wayOf_74 (by decide) (fun h74 k => ?_) (fun h74 k => ?_) ?_
  · refine V_iload_n C dX7_wayOf_82 rfl ?_
    exact k
  · refine V_iload C dX7_wayOf_77 rfl ?_
    refine V_goto C 83 dX7_wayOf_79 (by decide) ?_
    exact k
  refine V_istore C dX7_wayOf_83 (hn _ (by decide)) ?_
  refine V_iload C dX7_wayOf_85 rfl ?_
  refine V_iload C dX7_wayOf_87 rfl ?_
  refine V_tern_icmp_le (vt := if (if nI r = 0 then I 1032 b else I 1028 (12 * b + r - 1)) ≤ I 1028 (12 * b + r) then nI 0 else -1) (vf := nI 1) (pm := 107) C 96 dX7_wayOf_89 (by decide) (fun h89 k => ?_) (fun h89 k => ?_) ?_
  · refine V_iload C dX7_wayOf_96 rfl ?_
    refine V_iload_n C dX7_wayOf_98 rfl ?_
    refine V_tern_icmp_le (vt := nI 0) (vf := -1) (pm := 107) C 106 dX7_wayOf_99 (by decide) (fun h99 k => ?_) (fun h99 k => ?_) ?_
    · refine V_iconst C (v := nI 0) dX7_wayOf_106 (by decide +kernel) ?_
      exact k
    · refine V_iconst C (v := (-1)) dX7_wayOf_102 (by decide +kernel) ?_
      refine V_goto C 107 dX7_wayOf_103 (by decide) ?_
      exact k
    exact k
  · refine V_iconst C (v := nI 1) dX7_wayOf_92 (by decide +kernel) ?_
    refine V_goto C 107 dX7_wayOf_93 (by decide) ?_
    exact k
  exact V_iret C (Nat.zero_le _) (Nat.zero_le _) dX7_wayOf_107 (hP _ _ _ ⟨rfl, rfl, rfl⟩)
set_option maxRecDepth 100000 in
theorem m_knowsRing (hM : Ob S 7 1000) {b r : Nat} (hb : b < 8) (hD : rOk (refD I J b)) (hr : r < 12) : Mn l yX7_knowsRing cX7_knowsRing 3 none 1 [.ref 1000, .int (nI b), .int (nI r)] S I J (fun v I' J' => v = none ∧ I' = va_up I 1023 (kn (I 1023) (fR (refD I J b) r 0 0 0)) ∧ J' = J) := by
  refine Mn.of (by decide) (fun ad => by simp [lg_sl, vv, Value.category]) (fun X P hP hn C => ?_)
  have e1 : refD I J b 1 r = I 1028 (12 * b + r) := by simp only [refD, if_pos hr]
  have e2 : refD I J b 2 r = I 1029 (12 * b + r) := by simp only [refD, if_pos hr]
  refine V_aload_n C dX7_knowsRing_0 rfl ?_
  refine V_getR C fl_X7_110 (ob_K hM) (ob_R hM 22 1023 rfl rfl) rfl dX7_knowsRing_1 ?_
  refine V_iconst C (v := nI 0) dX7_knowsRing_4 (by decide +kernel) ?_
  refine V_iload_n C dX7_knowsRing_5 rfl ?_
  refine V_iast C (0) (ob_A hM 22 1023 rfl rfl) (by first | rfl | (simp only [nI_add, pk_mul]; done) | (simp only [nI_add, pk_mul]; congr 1; omega)) (by rw [ob_N hM 22 1023 rfl rfl]; omega) (by rw [ob_N hM 22 1023 rfl rfl]; decide) dX7_knowsRing_6 ?_
  refine V_aload_n C dX7_knowsRing_7 rfl ?_
  refine V_getR C fl_X7_110 (ob_K hM) (ob_R hM 22 1023 rfl rfl) rfl dX7_knowsRing_8 ?_
  refine V_iconst C (v := nI 1) dX7_knowsRing_11 (by decide +kernel) ?_
  refine V_iconst C (v := nI 0) dX7_knowsRing_12 (by decide +kernel) ?_
  refine V_iast C (1) (ob_A hM 22 1023 rfl rfl) (by first | rfl | (simp only [nI_add, pk_mul]; done) | (simp only [nI_add, pk_mul]; congr 1; omega)) (by rw [ob_N hM 22 1023 rfl rfl]; omega) (by rw [ob_N hM 22 1023 rfl rfl]; decide) dX7_knowsRing_13 ?_
  refine V_aload_n C dX7_knowsRing_14 rfl ?_
  refine V_getR C fl_X7_110 (ob_K hM) (ob_R hM 22 1023 rfl rfl) rfl dX7_knowsRing_15 ?_
  refine V_iconst C (v := nI 2) dX7_knowsRing_18 (by decide +kernel) ?_
  refine V_aload_n C dX7_knowsRing_19 rfl ?_
  refine V_getR C fl_X7_119 (ob_K hM) (ob_R hM 27 1028 rfl rfl) rfl dX7_knowsRing_20 ?_
  refine V_bipush C (v := nI 12) dX7_knowsRing_23 (by decide +kernel) ?_
  refine V_iload_n C dX7_knowsRing_25 rfl ?_
  refine V_imul C dX7_knowsRing_26 ?_
  refine V_iload_n C dX7_knowsRing_27 rfl ?_
  refine V_iadd C dX7_knowsRing_28 ?_
  refine V_iald C (12 * b + r) (ob_A hM 27 1028 rfl rfl) (by first | rfl | (simp only [nI_add, pk_mul]; done) | (simp only [nI_add, pk_mul]; congr 1; omega)) (by rw [ob_N hM 27 1028 rfl rfl]; omega) (by rw [ob_N hM 27 1028 rfl rfl]; decide) dX7_knowsRing_29 ?_
  refine V_iast C (2) (ob_A hM 22 1023 rfl rfl) (by first | rfl | (simp only [nI_add, pk_mul]; done) | (simp only [nI_add, pk_mul]; congr 1; omega)) (by rw [ob_N hM 22 1023 rfl rfl]; omega) (by rw [ob_N hM 22 1023 rfl rfl]; decide) dX7_knowsRing_30 ?_
  refine V_aload_n C dX7_knowsRing_31 rfl ?_
  refine V_getR C fl_X7_110 (ob_K hM) (ob_R hM 22 1023 rfl rfl) rfl dX7_knowsRing_32 ?_
  refine V_iconst C (v := nI 3) dX7_knowsRing_35 (by decide +kernel) ?_
  refine V_aload_n C dX7_knowsRing_36 rfl ?_
  refine V_getR C fl_X7_122 (ob_K hM) (ob_R hM 28 1029 rfl rfl) rfl dX7_knowsRing_37 ?_
  refine V_bipush C (v := nI 12) dX7_knowsRing_40 (by decide +kernel) ?_
  refine V_iload_n C dX7_knowsRing_42 rfl ?_
  refine V_imul C dX7_knowsRing_43 ?_
  refine V_iload_n C dX7_knowsRing_44 rfl ?_
  refine V_iadd C dX7_knowsRing_45 ?_
  refine V_iald C (12 * b + r) (ob_A hM 28 1029 rfl rfl) (by first | rfl | (simp only [nI_add, pk_mul]; done) | (simp only [nI_add, pk_mul]; congr 1; omega)) (by rw [ob_N hM 28 1029 rfl rfl]; omega) (by rw [ob_N hM 28 1029 rfl rfl]; decide) dX7_knowsRing_46 ?_
  refine V_iast C (3) (ob_A hM 22 1023 rfl rfl) (by first | rfl | (simp only [nI_add, pk_mul]; done) | (simp only [nI_add, pk_mul]; congr 1; omega)) (by rw [ob_N hM 22 1023 rfl rfl]; omega) (by rw [ob_N hM 22 1023 rfl rfl]; decide) dX7_knowsRing_47 ?_
  refine V_aload_n C dX7_knowsRing_48 rfl ?_
  refine V_getR C fl_X7_110 (ob_K hM) (ob_R hM 22 1023 rfl rfl) rfl dX7_knowsRing_49 ?_
  refine V_iconst C (v := nI 4) dX7_knowsRing_52 (by decide +kernel) ?_
  refine V_iconst C (v := nI 0) dX7_knowsRing_53 (by decide +kernel) ?_
  refine V_iast C (4) (ob_A hM 22 1023 rfl rfl) (by first | rfl | (simp only [nI_add, pk_mul]; done) | (simp only [nI_add, pk_mul]; congr 1; omega)) (by rw [ob_N hM 22 1023 rfl rfl]; omega) (by rw [ob_N hM 22 1023 rfl rfl]; decide) dX7_knowsRing_54 ?_
  refine V_aload_n C dX7_knowsRing_55 rfl ?_
  refine V_getR C fl_X7_110 (ob_K hM) (ob_R hM 22 1023 rfl rfl) rfl dX7_knowsRing_56 ?_
  refine V_iconst C (v := nI 5) dX7_knowsRing_59 (by decide +kernel) ?_
  refine V_aload_n C dX7_knowsRing_60 rfl ?_
  refine V_iload_n C dX7_knowsRing_61 rfl ?_
  refine V_iload_n C dX7_knowsRing_62 rfl ?_
  refine V_callV (F := fun _ => True) C (m_allDust hM hb hr) mi_X7_allDust ml_X7_314 rfl (ob_K hM) (by decide) (by decide) (by decide) (by decide) (fun _ _ => trivial) (fun v _ => clo_T v) rfl dX7_knowsRing_63 ?_
  rintro v S' I' J' ⟨hS, rfl, hI, hJ⟩
  obtain rfl := hS.symm
  obtain rfl := hI.symm
  obtain rfl := hJ.symm
  refine V_iast C (5) (ob_A hM 22 1023 rfl rfl) (by first | rfl | (simp only [nI_add, pk_mul]; done) | (simp only [nI_add, pk_mul]; congr 1; omega)) (by rw [ob_N hM 22 1023 rfl rfl]; omega) (by rw [ob_N hM 22 1023 rfl rfl]; decide) dX7_knowsRing_66 ?_
  refine V_aload_n C dX7_knowsRing_67 rfl ?_
  refine V_getR C fl_X7_110 (ob_K hM) (ob_R hM 22 1023 rfl rfl) rfl dX7_knowsRing_68 ?_
  refine V_bipush C (v := nI 6) dX7_knowsRing_71 (by decide +kernel) ?_
  refine V_iconst C (v := nI 0) dX7_knowsRing_73 (by decide +kernel) ?_
  refine V_iast C (6) (ob_A hM 22 1023 rfl rfl) (by first | rfl | (simp only [nI_add, pk_mul]; done) | (simp only [nI_add, pk_mul]; congr 1; omega)) (by rw [ob_N hM 22 1023 rfl rfl]; omega) (by rw [ob_N hM 22 1023 rfl rfl]; decide) dX7_knowsRing_74 ?_
  refine V_aload_n C dX7_knowsRing_75 rfl ?_
  refine V_getR C fl_X7_110 (ob_K hM) (ob_R hM 22 1023 rfl rfl) rfl dX7_knowsRing_76 ?_
  refine V_bipush C (v := nI 7) dX7_knowsRing_79 (by decide +kernel) ?_
  refine V_aload_n C dX7_knowsRing_81 rfl ?_
  refine V_getR C fl_X7_137 (ob_K hM) (ob_R hM 33 1034 rfl rfl) rfl dX7_knowsRing_82 ?_
  refine V_iload_n C dX7_knowsRing_85 rfl ?_
  refine V_iald C (b) (ob_A hM 33 1034 rfl rfl) (by first | rfl | (simp only [nI_add, pk_mul]; done) | (simp only [nI_add, pk_mul]; congr 1; omega)) (by rw [ob_N hM 33 1034 rfl rfl]; omega) (by rw [ob_N hM 33 1034 rfl rfl]; decide) dX7_knowsRing_86 ?_
  refine V_iast C (7) (ob_A hM 22 1023 rfl rfl) (by first | rfl | (simp only [nI_add, pk_mul]; done) | (simp only [nI_add, pk_mul]; congr 1; omega)) (by rw [ob_N hM 22 1023 rfl rfl]; omega) (by rw [ob_N hM 22 1023 rfl rfl]; decide) dX7_knowsRing_87 ?_
  refine V_aload_n C dX7_knowsRing_88 rfl ?_
  refine V_getR C fl_X7_110 (ob_K hM) (ob_R hM 22 1023 rfl rfl) rfl dX7_knowsRing_89 ?_
  refine V_bipush C (v := nI 8) dX7_knowsRing_92 (by decide +kernel) ?_
  refine V_aload_n C dX7_knowsRing_94 rfl ?_
  refine V_iload_n C dX7_knowsRing_95 rfl ?_
  refine V_callV (F := fun _ => True) C (m_there hM hb (by simp only [refD_k]; exact hD)) mi_X7_there ml_X7_317 rfl (ob_K hM) (by decide) (by decide) (by decide) (by decide) (fun _ _ => trivial) (fun v _ => clo_T v) rfl dX7_knowsRing_96 ?_
  rintro v S' I' J' ⟨hS, rfl, hI, hJ⟩
  obtain rfl := hS.symm
  obtain rfl := hI.symm
  obtain rfl := hJ.symm
  refine V_iast C (8) (ob_A hM 22 1023 rfl rfl) (by first | rfl | (simp only [nI_add, pk_mul]; done) | (simp only [nI_add, pk_mul]; congr 1; omega)) (by rw [ob_N hM 22 1023 rfl rfl]; omega) (by rw [ob_N hM 22 1023 rfl rfl]; decide) dX7_knowsRing_99 ?_
  exact V_vret C (Nat.zero_le _) (Nat.zero_le _) dX7_knowsRing_100 (hP _ _ _ ⟨rfl, k_nine I rfl rfl e1.symm e2.symm rfl (r_aD (I := I) hr) rfl rfl (by simp only [refD_k]; rfl), rfl⟩)
set_option maxRecDepth 100000 in
theorem m_knowsDust (hM : Ob S 7 1000) {b r s : Nat} (hb : b < 8) (hD : rOk (refD I J b)) (hr : r < 12) (hs : s < 5) : Mn l yX7_knowsDust cX7_knowsDust 4 none 2 [.ref 1000, .int (nI b), .int (nI r), .int (nI s)] S I J (fun v I' J' => v = none ∧ I' = va_up I 1023 (kn (I 1023) (fDu (refD I J b) r s)) ∧ J' = J) := by
  refine Mn.of (by decide) (fun ad => by simp [lg_sl, vv, Value.category]) (fun X P hP hn C => ?_)
  have h60 : 5 * r + s < 60 := by omega
  have e4 : refD I J b 4 (5 * r + s) = I 1031 (60 * b + 5 * r + s) := by
    simp only [refD, if_pos h60]
    congr 1; omega
  refine V_aload_n C dX7_knowsDust_0 rfl ?_
  refine V_iload_n C dX7_knowsDust_1 rfl ?_
  refine V_iload_n C dX7_knowsDust_2 rfl ?_
  refine V_callV (F := fun _ => True) C (m_knowsRing hM hb hD hr) mi_X7_knowsRing ml_X7_320 rfl (ob_K hM) (by decide) (by decide) (by decide) (by decide) (fun _ _ => trivial) (fun v _ => clo_T v) rfl dX7_knowsDust_3 ?_
  rintro v S' I' J' ⟨hS, rfl, hI, hJ⟩
  obtain rfl := hS.symm
  obtain rfl := hI.symm
  obtain rfl := hJ.symm
  refine V_aload_n C dX7_knowsDust_6 rfl ?_
  refine V_getR C fl_X7_110 (ob_K hM) (ob_R hM 22 1023 rfl rfl) rfl dX7_knowsDust_7 ?_
  refine V_iconst C (v := nI 1) dX7_knowsDust_10 (by decide +kernel) ?_
  refine V_iload_n C dX7_knowsDust_11 rfl ?_
  refine V_iast C (1) (ob_A hM 22 1023 rfl rfl) (by first | rfl | (simp only [nI_add, pk_mul]; done) | (simp only [nI_add, pk_mul]; congr 1; omega)) (by rw [ob_N hM 22 1023 rfl rfl]; omega) (by rw [ob_N hM 22 1023 rfl rfl]; decide) dX7_knowsDust_12 ?_
  refine V_aload_n C dX7_knowsDust_13 rfl ?_
  refine V_getR C fl_X7_110 (ob_K hM) (ob_R hM 22 1023 rfl rfl) rfl dX7_knowsDust_14 ?_
  refine V_iconst C (v := nI 4) dX7_knowsDust_17 (by decide +kernel) ?_
  refine V_aload_n C dX7_knowsDust_18 rfl ?_
  refine V_getR C fl_X7_128 (ob_K hM) (ob_R hM 30 1031 rfl rfl) rfl dX7_knowsDust_19 ?_
  refine V_bipush C (v := nI 60) dX7_knowsDust_22 (by decide +kernel) ?_
  refine V_iload_n C dX7_knowsDust_24 rfl ?_
  refine V_imul C dX7_knowsDust_25 ?_
  refine V_iconst C (v := nI 5) dX7_knowsDust_26 (by decide +kernel) ?_
  refine V_iload_n C dX7_knowsDust_27 rfl ?_
  refine V_imul C dX7_knowsDust_28 ?_
  refine V_iadd C dX7_knowsDust_29 ?_
  refine V_iload_n C dX7_knowsDust_30 rfl ?_
  refine V_iadd C dX7_knowsDust_31 ?_
  refine V_iald C (60 * b + 5 * r + s) (ob_A hM 30 1031 rfl rfl) (by first | rfl | (simp only [nI_add, pk_mul]; done) | (simp only [nI_add, pk_mul]; congr 1; omega)) (by rw [ob_N hM 30 1031 rfl rfl]; omega) (by rw [ob_N hM 30 1031 rfl rfl]; decide) dX7_knowsDust_32 ?_
  refine V_iast C (4) (ob_A hM 22 1023 rfl rfl) (by first | rfl | (simp only [nI_add, pk_mul]; done) | (simp only [nI_add, pk_mul]; congr 1; omega)) (by rw [ob_N hM 22 1023 rfl rfl]; omega) (by rw [ob_N hM 22 1023 rfl rfl]; decide) dX7_knowsDust_33 ?_
  exact V_vret C (Nat.zero_le _) (Nat.zero_le _) dX7_knowsDust_34 (hP _ _ _ ⟨rfl, by simp only [up2_up]; exact congrArg (va_up I 1023) (kn_eq (lt9 rfl rfl rfl rfl e4.symm rfl rfl rfl rfl) (fun j hj => by simp only [va_up_ge (show (1 : Nat) < 9 by omega) hj, va_up_ge (show (4 : Nat) < 9 by omega) hj, kn]; rw [if_neg (by omega)])), rfl⟩)
set_option maxRecDepth 100000 in
theorem m_knowsLump (hM : Ob S 7 1000) {b u : Nat} (hb : b < 8) (hD : rOk (refD I J b)) (hu : u < cmD (refD I J b)) : Mn l yX7_knowsLump cX7_knowsLump 3 none 2 [.ref 1000, .int (nI b), .int (nI u)] S I J (fun v I' J' => v = none ∧ I' = va_up I 1023 (kn (I 1023) (fLu (refD I J b) u)) ∧ J' = J) := by
  refine Mn.of (by decide) (fun ad => by simp [lg_sl, vv, Value.category]) (fun X P hP hn C => ?_)
  have hu2 : u < 30 := Nat.lt_of_lt_of_le hu hD.2.2.2.2.1
  obtain ⟨e6, hrg⟩ := hD.2.2.2.2.2 u hu
  rw [(r_lump hD hu).2.1] at e6
  have hrg2 : rg (refD I J b) u < 12 := Nat.lt_of_lt_of_le hrg hD.2.2.1
  refine V_aload_n C dX7_knowsLump_0 rfl ?_
  refine V_iload_n C dX7_knowsLump_1 rfl ?_
  refine V_aload_n C dX7_knowsLump_2 rfl ?_
  refine V_getR C fl_X7_152 (ob_K hM) (ob_R hM 38 1039 rfl rfl) rfl dX7_knowsLump_3 ?_
  refine V_bipush C (v := nI 30) dX7_knowsLump_6 (by decide +kernel) ?_
  refine V_iload_n C dX7_knowsLump_8 rfl ?_
  refine V_imul C dX7_knowsLump_9 ?_
  refine V_iload_n C dX7_knowsLump_10 rfl ?_
  refine V_iadd C dX7_knowsLump_11 ?_
  refine V_iald C (30 * b + u) (ob_A hM 38 1039 rfl rfl) (by first | rfl | (simp only [nI_add, pk_mul]; done) | (simp only [nI_add, pk_mul]; congr 1; omega)) (by rw [ob_N hM 38 1039 rfl rfl]; omega) (by rw [ob_N hM 38 1039 rfl rfl]; decide) dX7_knowsLump_12 ?_
  rw [e6]
  refine V_callV (F := fun _ => True) C (m_knowsRing hM hb hD hrg2) mi_X7_knowsRing ml_X7_320 rfl (ob_K hM) (by decide) (by decide) (by decide) (by decide) (fun _ _ => trivial) (fun v _ => clo_T v) rfl dX7_knowsLump_13 ?_
  rintro v S' I' J' ⟨hS, rfl, hI, hJ⟩
  obtain rfl := hS.symm
  obtain rfl := hI.symm
  obtain rfl := hJ.symm
  refine V_aload_n C dX7_knowsLump_16 rfl ?_
  refine V_getR C fl_X7_110 (ob_K hM) (ob_R hM 22 1023 rfl rfl) rfl dX7_knowsLump_17 ?_
  refine V_bipush C (v := nI 6) dX7_knowsLump_20 (by decide +kernel) ?_
  refine V_aload_n C dX7_knowsLump_22 rfl ?_
  refine V_iload_n C dX7_knowsLump_23 rfl ?_
  refine V_iload_n C dX7_knowsLump_24 rfl ?_
  refine V_callV (F := fun _ => True) C (m_weightOf hM hb (by simp only [refD_kv]; exact hD) (by simp only [refD_kv]; exact hu)) mi_X7_weightOf ml_X7_326 rfl (ob_K hM) (by decide) (by decide) (by decide) (by decide) (fun _ _ => trivial) (fun v _ => clo_T v) rfl dX7_knowsLump_25 ?_
  rintro v S' I' J' ⟨hS, rfl, hI, hJ⟩
  obtain rfl := hS.symm
  obtain rfl := hI.symm
  obtain rfl := hJ.symm
  refine V_iast C (6) (ob_A hM 22 1023 rfl rfl) (by first | rfl | (simp only [nI_add, pk_mul]; done) | (simp only [nI_add, pk_mul]; congr 1; omega)) (by rw [ob_N hM 22 1023 rfl rfl]; omega) (by rw [ob_N hM 22 1023 rfl rfl]; decide) dX7_knowsLump_28 ?_
  exact V_vret C (Nat.zero_le _) (Nat.zero_le _) dX7_knowsLump_29 (hP _ _ _ ⟨rfl, by simp only [up2_up, refD_kv]; exact congrArg (va_up I 1023) (kn_eq (lt9 rfl rfl rfl rfl rfl rfl rfl rfl rfl) (fun j hj => by simp only [va_up_ge (show (6 : Nat) < 9 by omega) hj, kn]; rw [if_neg (by omega)])), rfl⟩)
end M2
