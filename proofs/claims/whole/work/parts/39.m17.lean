/-! the reference: sums over a disk, questions of tries -/
section M17
variable {l : Launch} {S : HS} {I I' : HI} {J J' : HJ} {z : SV}
theorem bI_1 {c : Prop} [Decidable c] (h : ¬ bI c = 0) : bI c = 1 := by
  by_cases e : c
  · exact bI_t e
  · exact absurd (bI_f e) h
def rfl_w (w : Int32) : Int32 := if w = 0 then nI 1 else if w = nI 1 then nI 1 else if w = nI 3 then nI 1 else nI 0
def askV (D : DV) (n w v : Int32) : Int32 := if bI (nI 0 ≤ n ∧ n ≤ nI 100) = 0 then 0 else if bI (nI 0 ≤ w ∧ w ≤ nI 4) = 0 then 0 else if rfl_w w = 0 then bI (nI 0 ≤ v ∧ v ≤ 999999) else bI (isR D v)
set_option maxRecDepth 100000 in
theorem m_isAsked (hM : Ob S 7 1000) (hR : RefR z I J) (n w v : Int32) : Mn l yX7_isAsked cX7_isAsked 5 (some .boolean) 1 [.ref 1000, .int n, .int w, .int v] S I J (fun r I' J' => r = some (.int (askV z.1.1 n w v)) ∧ I' = I ∧ J' = J) := by
  refine Mn.of (by decide) (fun ad => by simp [lg_sl, vv, Value.category]) (fun X P hP hn C => ?_)
  have key : V X P 0 0 21 [some (.ref 1000), some (.int n), some (.int w), some (.int v), some (.int (rfl_w w))] [] S I J := by
    refine V_iload_n C dX7_isAsked_21 rfl ?_
    refine V_iconst C (v := nI 0) dX7_isAsked_22 (by decide +kernel) ?_
    refine V_bipush C (v := nI 100) dX7_isAsked_23 (by decide +kernel) ?_
    refine V_callS (F := fun _ => True) C (m_within n (nI 0) (nI 100)) ms_X7_within ml_X7_301 rfl (by decide) (by decide) (Nat.le_of_ble_eq_true rfl) (fun _ _ => trivial) (fun v _ => clo_T v) rfl dX7_isAsked_25 ?_
    rintro v S' I' J' ⟨hS, rfl, hI, hJ⟩
    obtain rfl := hS.symm
    obtain rfl := hI.symm
    obtain rfl := hJ.symm
    refine V_if_eq C 71 dX7_isAsked_28 (by decide) (fun h28 => ?_) (fun h28 => ?_)
    · refine V_iconst C (v := nI 0) dX7_isAsked_71 (by decide +kernel) ?_
      exact V_zret C (by first | exact Or.inl rfl | exact Or.inr rfl | (simp only [bI]; split <;> first | exact Or.inl rfl | exact Or.inr rfl) | assumption) (Nat.zero_le _) (Nat.zero_le _) dX7_isAsked_72 (hP _ _ _ ⟨by first | (rw [askV, if_pos h28]; rfl) | (rw [askV, if_neg h28, if_pos h37]; rfl) | (rw [askV, if_neg h28, if_neg h37, if_pos h42, h64]; rfl) | (rw [askV, if_neg h28, if_neg h37, if_pos h42, bI_1 h64]; rfl) | (rw [askV, if_neg h28, if_neg h37, if_neg h42, h50]; rfl) | (rw [askV, if_neg h28, if_neg h37, if_neg h42, bI_1 h50]; rfl), rfl, rfl⟩)
    · refine V_iload_n C dX7_isAsked_31 rfl ?_
      refine V_iconst C (v := nI 0) dX7_isAsked_32 (by decide +kernel) ?_
      refine V_iconst C (v := nI 4) dX7_isAsked_33 (by decide +kernel) ?_
      refine V_callS (F := fun _ => True) C (m_within w (nI 0) (nI 4)) ms_X7_within ml_X7_301 rfl (by decide) (by decide) (Nat.le_of_ble_eq_true rfl) (fun _ _ => trivial) (fun v _ => clo_T v) rfl dX7_isAsked_34 ?_
      rintro v S' I' J' ⟨hS, rfl, hI, hJ⟩
      obtain rfl := hS.symm
      obtain rfl := hI.symm
      obtain rfl := hJ.symm
      refine V_if_eq C 71 dX7_isAsked_37 (by decide) (fun h37 => ?_) (fun h37 => ?_)
      · refine V_iconst C (v := nI 0) dX7_isAsked_71 (by decide +kernel) ?_
        exact V_zret C (by first | exact Or.inl rfl | exact Or.inr rfl | (simp only [bI]; split <;> first | exact Or.inl rfl | exact Or.inr rfl) | assumption) (Nat.zero_le _) (Nat.zero_le _) dX7_isAsked_72 (hP _ _ _ ⟨by first | (rw [askV, if_pos h28]; rfl) | (rw [askV, if_neg h28, if_pos h37]; rfl) | (rw [askV, if_neg h28, if_neg h37, if_pos h42, h64]; rfl) | (rw [askV, if_neg h28, if_neg h37, if_pos h42, bI_1 h64]; rfl) | (rw [askV, if_neg h28, if_neg h37, if_neg h42, h50]; rfl) | (rw [askV, if_neg h28, if_neg h37, if_neg h42, bI_1 h50]; rfl), rfl, rfl⟩)
      · refine V_iload C dX7_isAsked_40 rfl ?_
        refine V_if_eq C 56 dX7_isAsked_42 (by decide) (fun h42 => ?_) (fun h42 => ?_)
        · refine V_iload_n C dX7_isAsked_56 rfl ?_
          refine V_iconst C (v := nI 0) dX7_isAsked_57 (by decide +kernel) ?_
          refine V_ldcw C dX7_isAsked_58 kc_X7_418 ?_
          refine V_callS (F := fun _ => True) C (m_within v (nI 0) 999999) ms_X7_within ml_X7_301 rfl (by decide) (by decide) (Nat.le_of_ble_eq_true rfl) (fun _ _ => trivial) (fun v _ => clo_T v) rfl dX7_isAsked_61 ?_
          rintro v S' I' J' ⟨hS, rfl, hI, hJ⟩
          obtain rfl := hS.symm
          obtain rfl := hI.symm
          obtain rfl := hJ.symm
          refine V_if_eq C 71 dX7_isAsked_64 (by decide) (fun h64 => ?_) (fun h64 => ?_)
          · refine V_iconst C (v := nI 0) dX7_isAsked_71 (by decide +kernel) ?_
            exact V_zret C (by first | exact Or.inl rfl | exact Or.inr rfl | (simp only [bI]; split <;> first | exact Or.inl rfl | exact Or.inr rfl) | assumption) (Nat.zero_le _) (Nat.zero_le _) dX7_isAsked_72 (hP _ _ _ ⟨by first | (rw [askV, if_pos h28]; rfl) | (rw [askV, if_neg h28, if_pos h37]; rfl) | (rw [askV, if_neg h28, if_neg h37, if_pos h42, h64]; rfl) | (rw [askV, if_neg h28, if_neg h37, if_pos h42, bI_1 h64]; rfl) | (rw [askV, if_neg h28, if_neg h37, if_neg h42, h50]; rfl) | (rw [askV, if_neg h28, if_neg h37, if_neg h42, bI_1 h50]; rfl), rfl, rfl⟩)
          · refine V_iconst C (v := nI 1) dX7_isAsked_67 (by decide +kernel) ?_
            refine V_goto C 72 dX7_isAsked_68 (by decide) ?_
            exact V_zret C (by first | exact Or.inl rfl | exact Or.inr rfl | (simp only [bI]; split <;> first | exact Or.inl rfl | exact Or.inr rfl) | assumption) (Nat.zero_le _) (Nat.zero_le _) dX7_isAsked_72 (hP _ _ _ ⟨by first | (rw [askV, if_pos h28]; rfl) | (rw [askV, if_neg h28, if_pos h37]; rfl) | (rw [askV, if_neg h28, if_neg h37, if_pos h42, h64]; rfl) | (rw [askV, if_neg h28, if_neg h37, if_pos h42, bI_1 h64]; rfl) | (rw [askV, if_neg h28, if_neg h37, if_neg h42, h50]; rfl) | (rw [askV, if_neg h28, if_neg h37, if_neg h42, bI_1 h50]; rfl), rfl, rfl⟩)
        · refine V_aload_n C dX7_isAsked_45 rfl ?_
          refine V_iload_n C dX7_isAsked_46 rfl ?_
          refine V_callV (F := fun _ => True) C (m_isRing hM hR v) mi_X7_isRing ml_X7_305 rfl (ob_K hM) (by decide) (by decide) (by decide) (Nat.le_of_ble_eq_true rfl) (fun _ _ => trivial) (fun v _ => clo_T v) rfl dX7_isAsked_47 ?_
          rintro v S' I' J' ⟨hS, rfl, hI, hJ⟩
          obtain rfl := hS.symm
          obtain rfl := hI.symm
          obtain rfl := hJ.symm
          refine V_if_eq C 71 dX7_isAsked_50 (by decide) (fun h50 => ?_) (fun h50 => ?_)
          · refine V_iconst C (v := nI 0) dX7_isAsked_71 (by decide +kernel) ?_
            exact V_zret C (by first | exact Or.inl rfl | exact Or.inr rfl | (simp only [bI]; split <;> first | exact Or.inl rfl | exact Or.inr rfl) | assumption) (Nat.zero_le _) (Nat.zero_le _) dX7_isAsked_72 (hP _ _ _ ⟨by first | (rw [askV, if_pos h28]; rfl) | (rw [askV, if_neg h28, if_pos h37]; rfl) | (rw [askV, if_neg h28, if_neg h37, if_pos h42, h64]; rfl) | (rw [askV, if_neg h28, if_neg h37, if_pos h42, bI_1 h64]; rfl) | (rw [askV, if_neg h28, if_neg h37, if_neg h42, h50]; rfl) | (rw [askV, if_neg h28, if_neg h37, if_neg h42, bI_1 h50]; rfl), rfl, rfl⟩)
          · refine V_goto C 67 dX7_isAsked_53 (by decide) ?_
            refine V_iconst C (v := nI 1) dX7_isAsked_67 (by decide +kernel) ?_
            refine V_goto C 72 dX7_isAsked_68 (by decide) ?_
            exact V_zret C (by first | exact Or.inl rfl | exact Or.inr rfl | (simp only [bI]; split <;> first | exact Or.inl rfl | exact Or.inr rfl) | assumption) (Nat.zero_le _) (Nat.zero_le _) dX7_isAsked_72 (hP _ _ _ ⟨by first | (rw [askV, if_pos h28]; rfl) | (rw [askV, if_neg h28, if_pos h37]; rfl) | (rw [askV, if_neg h28, if_neg h37, if_pos h42, h64]; rfl) | (rw [askV, if_neg h28, if_neg h37, if_pos h42, bI_1 h64]; rfl) | (rw [askV, if_neg h28, if_neg h37, if_neg h42, h50]; rfl) | (rw [askV, if_neg h28, if_neg h37, if_neg h42, bI_1 h50]; rfl), rfl, rfl⟩)
  refine V_iload_n C dX7_isAsked_0 rfl ?_
  refine V_tern_if_eq (vt := nI 1) (vf := if w = nI 1 then nI 1 else if w = nI 3 then nI 1 else nI 0) (pm := 19) C 14 dX7_isAsked_1 (by decide) (fun h1 k => ?_) (fun h1 k => ?_) ?_
  · refine V_iconst C (v := nI 1) dX7_isAsked_14 (by decide +kernel) ?_
    refine V_goto C 19 dX7_isAsked_15 (by decide) ?_
    exact k
  · refine V_iload_n C dX7_isAsked_4 rfl ?_
    refine V_iconst C (v := nI 1) dX7_isAsked_5 (by decide +kernel) ?_
    refine V_tern_icmp_eq (vt := nI 1) (vf := if w = nI 3 then nI 1 else nI 0) (pm := 19) C 14 dX7_isAsked_6 (by decide) (fun h6 k => ?_) (fun h6 k => ?_) ?_
    · refine V_iconst C (v := nI 1) dX7_isAsked_14 (by decide +kernel) ?_
      refine V_goto C 19 dX7_isAsked_15 (by decide) ?_
      exact k
    · refine V_iload_n C dX7_isAsked_9 rfl ?_
      refine V_iconst C (v := nI 3) dX7_isAsked_10 (by decide +kernel) ?_
      refine V_tern_icmp_ne (vt := nI 1) (vf := nI 0) (pm := 19) C 18 dX7_isAsked_11 (by decide) (fun h11 k => ?_) (fun h11 k => ?_) ?_
      · refine V_iconst C (v := nI 1) dX7_isAsked_14 (by decide +kernel) ?_
        refine V_goto C 19 dX7_isAsked_15 (by decide) ?_
        exact k
      · refine V_iconst C (v := nI 0) dX7_isAsked_18 (by decide +kernel) ?_
        exact k
      exact k
    exact k
  refine V_istore C dX7_isAsked_19 (hn _ (by decide)) ?_
  exact key
def lrS (D : DV) : Nat → Int64
  | 0 => 0
  | n + 1 => lrS D n + (D 1 n + aD D n).toInt64
def llS (D : DV) : Nat → Int64
  | 0 => 0
  | n + 1 => llS D n + (if D 5 n = 0 then (wD D n).toInt64 else 0)
def trN (D : DV) : Nat → Int32
  | 0 => 0
  | n + 1 => trN D n + (if wayD D n = 0 then nI 1 else nI 0)
def fsN (D : DV) : Nat → Int32
  | 0 => 0
  | n + 1 => fsN D n ||| (if D 5 n = 0 then (if famD D n < 0 then nI 0 else nI 1 <<< (famD D n &&& 31)) else nI 0)
def fcN (s : Int32) : Nat → Int32
  | 0 => 0
  | n + 1 => fcN s n + ((s >>> (nI n &&& 31)) &&& nI 1)
set_option maxRecDepth 100000 in
theorem m_inRings (hM : Ob S 7 1000) (hR : RefR z I J) : Mn l yX7_inRings cX7_inRings 4 (some .long) 1 [.ref 1000] S I J (fun v I' J' => v = some (.long (lrS z.1.1 12)) ∧ I' = I ∧ J' = J) := by
  refine Mn.of (by decide) (fun ad => by simp [lg_sl, vv, Value.category]) (fun X P hP hn C => ?_)
  have loop : ∀ (c x : Nat), x + c = 12 → V X P 0 0 4 [some (.ref 1000), some (.long (lrS z.1.1 x)), none, some (.int (nI x))] [] S I J := by
    intro c
    induction c with
    | zero =>
      intro x hx
      have hx : x = 12 := hx
      subst hx
      refine V_iload_n C dX7_inRings_4 rfl ?_
      refine V_bipush C (v := nI 12) dX7_inRings_5 (by decide +kernel) ?_
      refine V_icmp_ge C 33 dX7_inRings_7 (by decide) (fun h7 => ?_) (fun h7 => absurd (by decide) h7)
      refine V_lload_n C dX7_inRings_33 rfl ?_
      exact V_lret C (Nat.zero_le _) (Nat.zero_le _) dX7_inRings_34 (hP _ _ _ ⟨rfl, rfl, rfl⟩)
    | succ c ih =>
      intro x hx
      have e : (I 1028 x + iSum (I 1031) (60 * 0 + 5 * x) 5).toInt64 = (z.1.1 1 x + aD z.1.1 x).toInt64 := by
        rw [r_aD (J := J) (show x < 12 by omega), hR.d, ← hR.d]
        simp only [refD, if_pos (show x < 12 by omega), Nat.mul_zero, Nat.zero_add]
      refine V_iload_n C dX7_inRings_4 rfl ?_
      refine V_bipush C (v := nI 12) dX7_inRings_5 (by decide +kernel) ?_
      refine V_icmp_ge C 33 dX7_inRings_7 (by decide) (fun h7 => absurd h7 (nI_ge (by omega) (by omega))) (fun h7 => ?_)
      refine V_lload_n C dX7_inRings_10 rfl ?_
      refine V_aload_n C dX7_inRings_11 rfl ?_
      refine V_getR C fl_X7_119 (ob_K hM) (ob_R hM 27 1028 rfl rfl) rfl dX7_inRings_12 ?_
      refine V_iload_n C dX7_inRings_15 rfl ?_
      refine V_iald C (x) (ob_A hM 27 1028 rfl rfl) (by first | rfl | (simp only [nI_add, pk_mul]; done) | (simp only [nI_add, pk_mul]; congr 1; omega)) (by rw [ob_N hM 27 1028 rfl rfl]; omega) (by rw [ob_N hM 27 1028 rfl rfl]; decide) dX7_inRings_16 ?_
      refine V_aload_n C dX7_inRings_17 rfl ?_
      refine V_iconst C (v := nI 0) dX7_inRings_18 (by decide +kernel) ?_
      refine V_iload_n C dX7_inRings_19 rfl ?_
      refine V_callV (F := fun _ => True) C (m_allDust (b := 0) hM (by omega) (show x < 12 by omega)) mi_X7_allDust ml_X7_314 rfl (ob_K hM) (by decide) (by decide) (by decide) (Nat.le_of_ble_eq_true rfl) (fun _ _ => trivial) (fun v _ => clo_T v) rfl dX7_inRings_20 ?_
      rintro v S' I' J' ⟨hS, rfl, hI, hJ⟩
      obtain rfl := hS.symm
      obtain rfl := hI.symm
      obtain rfl := hJ.symm
      refine V_iadd C dX7_inRings_23 ?_
      refine V_i2l C dX7_inRings_24 ?_
      rw [e]
      refine V_ladd C dX7_inRings_25 ?_
      refine V_lstore_n C dX7_inRings_26 (hn _ (by decide)) ?_
      refine V_iincU C dX7_inRings_27 rfl (hn _ (by decide)) ?_
      refine V_goto C 4 dX7_inRings_30 (by decide) ?_
      exact ih (x + 1) (by omega)
  refine V_lconst C (v := 0) dX7_inRings_0 (by decide +kernel) ?_
  refine V_lstore_n C dX7_inRings_1 (hn _ (by decide)) ?_
  refine V_iconst C (v := nI 0) dX7_inRings_2 (by decide +kernel) ?_
  refine V_istore_n C dX7_inRings_3 (hn _ (by decide)) ?_
  exact loop 12 0 rfl
set_option maxRecDepth 100000 in
theorem m_inLumps (hM : Ob S 7 1000) (hR : RefR z I J) (hO : OkR z) : Mn l yX7_inLumps cX7_inLumps 4 (some .long) 2 [.ref 1000] S I J (fun v I' J' => v = some (.long (llS z.1.1 (cmD z.1.1))) ∧ I' = I ∧ J' = J) := by
  refine Mn.of (by decide) (fun ad => by simp [lg_sl, vv, Value.category]) (fun X P hP hn C => ?_)
  have hD := (hR.ok hO).1
  have hcm : I 1037 0 = nI (cmD z.1.1) := by rw [hR.cm0]; exact hO.1.1.2.2.2.1
  have hc30 := hO.1.1.2.2.2.2.1
  have loop : ∀ (c x : Nat) (s : Int64), x + c = cmD z.1.1 → s = llS z.1.1 x → V X P 0 0 4 [some (.ref 1000), some (.long s), none, some (.int (nI x))] [] S I J := by
    intro c
    induction c with
    | zero =>
      intro x s hx hs
      have hx : x = cmD z.1.1 := hx
      subst hx
      refine V_iload_n C dX7_inLumps_4 rfl ?_
      refine V_aload_n C dX7_inLumps_5 rfl ?_
      refine V_getR C fl_X7_146 (ob_K hM) (ob_R hM 36 1037 rfl rfl) rfl dX7_inLumps_6 ?_
      refine V_iconst C (v := nI 0) dX7_inLumps_9 (by decide +kernel) ?_
      refine V_iald C (0) (ob_A hM 36 1037 rfl rfl) (by first | rfl | (simp only [nI_add, pk_mul]; done) | (simp only [nI_add, pk_mul]; congr 1; omega)) (by rw [ob_N hM 36 1037 rfl rfl]; omega) (by rw [ob_N hM 36 1037 rfl rfl]; decide) dX7_inLumps_10 ?_
      refine V_icmp_ge C 43 dX7_inLumps_11 (by decide) (fun h11 => ?_) (fun h11 => absurd (by rw [hcm]; exact Int32.le_refl _) h11)
      refine V_lload_n C dX7_inLumps_43 rfl ?_
      exact V_lret C (Nat.zero_le _) (Nat.zero_le _) dX7_inLumps_44 (hP _ _ _ ⟨by rw [hs], rfl, rfl⟩)
    | succ c ih =>
      intro x s hx hs
      have hu : x < cmD (refD I J 0) := by rw [hR.d]; omega
      have e : bI (refD I J 0 5 x = 0) = 0 ↔ ¬ z.1.1 5 x = 0 := by rw [bI_0, hR.d]
      refine V_iload_n C dX7_inLumps_4 rfl ?_
      refine V_aload_n C dX7_inLumps_5 rfl ?_
      refine V_getR C fl_X7_146 (ob_K hM) (ob_R hM 36 1037 rfl rfl) rfl dX7_inLumps_6 ?_
      refine V_iconst C (v := nI 0) dX7_inLumps_9 (by decide +kernel) ?_
      refine V_iald C (0) (ob_A hM 36 1037 rfl rfl) (by first | rfl | (simp only [nI_add, pk_mul]; done) | (simp only [nI_add, pk_mul]; congr 1; omega)) (by rw [ob_N hM 36 1037 rfl rfl]; omega) (by rw [ob_N hM 36 1037 rfl rfl]; decide) dX7_inLumps_10 ?_
      refine V_icmp_ge C 43 dX7_inLumps_11 (by decide) (fun h11 => absurd h11 (by rw [hcm]; exact nI_ge (by omega) (by omega))) (fun h11 => ?_)
      refine V_lload_n C dX7_inLumps_14 rfl ?_
      refine V_aload_n C dX7_inLumps_15 rfl ?_
      refine V_iconst C (v := nI 0) dX7_inLumps_16 (by decide +kernel) ?_
      refine V_iload_n C dX7_inLumps_17 rfl ?_
      refine V_callV (F := fun _ => True) C (m_isThere hM (by omega) hD hu) mi_X7_isThere ml_X7_372 rfl (ob_K hM) (by decide) (by decide) (by decide) (Nat.le_of_ble_eq_true rfl) (fun _ _ => trivial) (fun v _ => clo_T v) rfl dX7_inLumps_18 ?_
      rintro v S' I' J' ⟨hS, rfl, hI, hJ⟩
      obtain rfl := hS.symm
      obtain rfl := hI.symm
      obtain rfl := hJ.symm
      refine V_if_eq C 34 dX7_inLumps_21 (by decide) (fun h21 => ?_) (fun h21 => ?_)
      · refine V_lconst C (v := 0) dX7_inLumps_34 (by decide +kernel) ?_
        refine V_ladd C dX7_inLumps_35 ?_
        refine V_lstore_n C dX7_inLumps_36 (hn _ (by decide)) ?_
        refine V_iincU C dX7_inLumps_37 rfl (hn _ (by decide)) ?_
        refine V_goto C 4 dX7_inLumps_40 (by decide) ?_
        refine ih (x + 1) _ (by omega) ?_
        rw [hs, llS]
        first | rw [if_neg (e.mp h21)] | rw [if_pos (Decidable.not_not.mp (fun q => h21 (e.mpr q))), hR.d]
      · refine V_aload_n C dX7_inLumps_24 rfl ?_
        refine V_iconst C (v := nI 0) dX7_inLumps_25 (by decide +kernel) ?_
        refine V_iload_n C dX7_inLumps_26 rfl ?_
        refine V_callV (F := fun _ => True) C (m_weightOf hM (by omega) hD hu) mi_X7_weightOf ml_X7_326 rfl (ob_K hM) (by decide) (by decide) (by decide) (Nat.le_of_ble_eq_true rfl) (fun _ _ => trivial) (fun v _ => clo_T v) rfl dX7_inLumps_27 ?_
        rintro v S' I' J' ⟨hS, rfl, hI, hJ⟩
        obtain rfl := hS.symm
        obtain rfl := hI.symm
        obtain rfl := hJ.symm
        refine V_i2l C dX7_inLumps_30 ?_
        refine V_goto C 35 dX7_inLumps_31 (by decide) ?_
        refine V_ladd C dX7_inLumps_35 ?_
        refine V_lstore_n C dX7_inLumps_36 (hn _ (by decide)) ?_
        refine V_iincU C dX7_inLumps_37 rfl (hn _ (by decide)) ?_
        refine V_goto C 4 dX7_inLumps_40 (by decide) ?_
        refine ih (x + 1) _ (by omega) ?_
        rw [hs, llS]
        first | rw [if_neg (e.mp h21)] | rw [if_pos (Decidable.not_not.mp (fun q => h21 (e.mpr q))), hR.d]
  refine V_lconst C (v := 0) dX7_inLumps_0 (by decide +kernel) ?_
  refine V_lstore_n C dX7_inLumps_1 (hn _ (by decide)) ?_
  refine V_iconst C (v := nI 0) dX7_inLumps_2 (by decide +kernel) ?_
  refine V_istore_n C dX7_inLumps_3 (hn _ (by decide)) ?_
  exact loop _ 0 _ (Nat.zero_add _) rfl
set_option maxRecDepth 100000 in
theorem m_traps (hM : Ob S 7 1000) (hR : RefR z I J) (hO : OkR z) : Mn l yX7_traps cX7_traps 3 (some .int) 1 [.ref 1000] S I J (fun v I' J' => v = some (.int (trN z.1.1 (rgD z.1.1))) ∧ I' = I ∧ J' = J) := by
  refine Mn.of (by decide) (fun ad => by simp [lg_sl, vv, Value.category]) (fun X P hP hn C => ?_)
  have hD := (hR.ok hO).1
  have hcm : I 1027 0 = nI (rgD z.1.1) := by rw [hR.rg0]; exact hO.1.1.1
  have hc30 := hO.1.1.2.2.1
  have loop : ∀ (c x : Nat), x + c = rgD z.1.1 → V X P 0 0 4 [some (.ref 1000), some (.int (trN z.1.1 x)), some (.int (nI x))] [] S I J := by
    intro c
    induction c with
    | zero =>
      intro x hx
      have hx : x = rgD z.1.1 := hx
      subst hx
      refine V_iload_n C dX7_traps_4 rfl ?_
      refine V_aload_n C dX7_traps_5 rfl ?_
      refine V_getR C fl_X7_116 (ob_K hM) (ob_R hM 26 1027 rfl rfl) rfl dX7_traps_6 ?_
      refine V_iconst C (v := nI 0) dX7_traps_9 (by decide +kernel) ?_
      refine V_iald C (0) (ob_A hM 26 1027 rfl rfl) (by first | rfl | (simp only [nI_add, pk_mul]; done) | (simp only [nI_add, pk_mul]; congr 1; omega)) (by rw [ob_N hM 26 1027 rfl rfl]; omega) (by rw [ob_N hM 26 1027 rfl rfl]; decide) dX7_traps_10 ?_
      refine V_icmp_ge C 37 dX7_traps_11 (by decide) (fun h11 => ?_) (fun h11 => absurd (by rw [hcm]; exact Int32.le_refl _) h11)
      refine V_iload_n C dX7_traps_37 rfl ?_
      exact V_iret C (Nat.zero_le _) (Nat.zero_le _) dX7_traps_38 (hP _ _ _ ⟨rfl, rfl, rfl⟩)
    | succ c ih =>
      intro x hx
      have hu : x < rgD (refD I J 0) := by rw [hR.d]; omega
      refine V_iload_n C dX7_traps_4 rfl ?_
      refine V_aload_n C dX7_traps_5 rfl ?_
      refine V_getR C fl_X7_116 (ob_K hM) (ob_R hM 26 1027 rfl rfl) rfl dX7_traps_6 ?_
      refine V_iconst C (v := nI 0) dX7_traps_9 (by decide +kernel) ?_
      refine V_iald C (0) (ob_A hM 26 1027 rfl rfl) (by first | rfl | (simp only [nI_add, pk_mul]; done) | (simp only [nI_add, pk_mul]; congr 1; omega)) (by rw [ob_N hM 26 1027 rfl rfl]; omega) (by rw [ob_N hM 26 1027 rfl rfl]; decide) dX7_traps_10 ?_
      refine V_icmp_ge C 37 dX7_traps_11 (by decide) (fun h11 => absurd h11 (by rw [hcm]; exact nI_ge (by omega) (by omega))) (fun h11 => ?_)
      refine V_iload_n C dX7_traps_14 rfl ?_
      refine V_aload_n C dX7_traps_15 rfl ?_
      refine V_iconst C (v := nI 0) dX7_traps_16 (by decide +kernel) ?_
      refine V_iload_n C dX7_traps_17 rfl ?_
      refine V_callV (F := fun _ => True) C (m_wayOf hM (by omega) hD hu) mi_X7_wayOf ml_X7_382 rfl (ob_K hM) (by decide) (by decide) (by decide) (Nat.le_of_ble_eq_true rfl) (fun _ _ => trivial) (fun v _ => clo_T v) rfl dX7_traps_18 ?_
      rintro v S' I' J' ⟨hS, rfl, hI, hJ⟩
      obtain rfl := hS.symm
      obtain rfl := hI.symm
      obtain rfl := hJ.symm
      rw [hR.d]
      refine V_tern_if_ne (vt := nI 1) (vf := nI 0) (pm := 29) C 28 dX7_traps_21 (by decide) (fun h21 k => ?_) (fun h21 k => ?_) ?_
      · refine V_iconst C (v := nI 1) dX7_traps_24 (by decide +kernel) ?_
        refine V_goto C 29 dX7_traps_25 (by decide) ?_
        exact k
      · refine V_iconst C (v := nI 0) dX7_traps_28 (by decide +kernel) ?_
        exact k
      refine V_iadd C dX7_traps_29 ?_
      refine V_istore_n C dX7_traps_30 (hn _ (by decide)) ?_
      refine V_iincU C dX7_traps_31 rfl (hn _ (by decide)) ?_
      refine V_goto C 4 dX7_traps_34 (by decide) ?_
      exact ih (x + 1) (by omega)
  refine V_iconst C (v := nI 0) dX7_traps_0 (by decide +kernel) ?_
  refine V_istore_n C dX7_traps_1 (hn _ (by decide)) ?_
  refine V_iconst C (v := nI 0) dX7_traps_2 (by decide +kernel) ?_
  refine V_istore_n C dX7_traps_3 (hn _ (by decide)) ?_
  exact loop _ 0 (Nat.zero_add _)
set_option maxRecDepth 100000 in
set_option maxHeartbeats 1000000 in
theorem m_families (hM : Ob S 7 1000) (hR : RefR z I J) (hO : OkR z) : Mn l yX7_families cX7_families 4 (some .int) 1 [.ref 1000] S I J (fun v I' J' => v = some (.int (fcN (fsN z.1.1 (cmD z.1.1)) 12)) ∧ I' = I ∧ J' = J) := by
  refine Mn.of (by decide) (fun ad => by simp [lg_sl, vv, Value.category]) (fun X P hP hn C => ?_)
  have hD := (hR.ok hO).1
  have hcm : I 1037 0 = nI (cmD z.1.1) := by rw [hR.cm0]; exact hO.1.1.2.2.2.1
  have hc30 := hO.1.1.2.2.2.2.1
  have loop2 : ∀ (c x : Nat) (s : Int32), x + c = 12 → s = fsN z.1.1 (cmD z.1.1) → V X P 0 0 57 [some (.ref 1000), some (.int s), some (.int (fcN s x)), some (.int (nI x))] [] S I J := by
    intro c
    induction c with
    | zero =>
      intro x s hx hs
      have hx : x = 12 := hx
      subst hx
      refine V_iload_n C dX7_families_57 rfl ?_
      refine V_bipush C (v := nI 12) dX7_families_58 (by decide +kernel) ?_
      refine V_icmp_ge C 77 dX7_families_60 (by decide) (fun h60 => ?_) (fun h60 => absurd (by decide) h60)
      refine V_iload_n C dX7_families_77 rfl ?_
      exact V_iret C (Nat.zero_le _) (Nat.zero_le _) dX7_families_78 (hP _ _ _ ⟨by rw [hs], rfl, rfl⟩)
    | succ c ih =>
      intro x s hx hs
      refine V_iload_n C dX7_families_57 rfl ?_
      refine V_bipush C (v := nI 12) dX7_families_58 (by decide +kernel) ?_
      refine V_icmp_ge C 77 dX7_families_60 (by decide) (fun h60 => absurd h60 (nI_ge (by omega) (by omega))) (fun h60 => ?_)
      refine V_iload_n C dX7_families_63 rfl ?_
      refine V_iload_n C dX7_families_64 rfl ?_
      refine V_iload_n C dX7_families_65 rfl ?_
      refine V_ishr C dX7_families_66 ?_
      refine V_iconst C (v := nI 1) dX7_families_67 (by decide +kernel) ?_
      refine V_iand C dX7_families_68 ?_
      refine V_iadd C dX7_families_69 ?_
      refine V_istore_n C dX7_families_70 (hn _ (by decide)) ?_
      refine V_iincU C dX7_families_71 rfl (hn _ (by decide)) ?_
      refine V_goto C 57 dX7_families_74 (by decide) ?_
      exact ih (x + 1) s (by omega) hs
  have loop : ∀ (c x : Nat) (s : Int32), x + c = cmD z.1.1 → s = fsN z.1.1 x → V X P 0 0 4 [some (.ref 1000), some (.int s), some (.int (nI x)), none] [] S I J := by
    intro c
    induction c with
    | zero =>
      intro x s hx hs
      have hx : x = cmD z.1.1 := hx
      subst hx
      refine V_iload_n C dX7_families_4 rfl ?_
      refine V_aload_n C dX7_families_5 rfl ?_
      refine V_getR C fl_X7_146 (ob_K hM) (ob_R hM 36 1037 rfl rfl) rfl dX7_families_6 ?_
      refine V_iconst C (v := nI 0) dX7_families_9 (by decide +kernel) ?_
      refine V_iald C (0) (ob_A hM 36 1037 rfl rfl) (by first | rfl | (simp only [nI_add, pk_mul]; done) | (simp only [nI_add, pk_mul]; congr 1; omega)) (by rw [ob_N hM 36 1037 rfl rfl]; omega) (by rw [ob_N hM 36 1037 rfl rfl]; decide) dX7_families_10 ?_
      refine V_icmp_ge C 53 dX7_families_11 (by decide) (fun h11 => ?_) (fun h11 => absurd (by rw [hcm]; exact Int32.le_refl _) h11)
      refine V_iconst C (v := nI 0) dX7_families_53 (by decide +kernel) ?_
      refine V_istore_n C dX7_families_54 (hn _ (by decide)) ?_
      refine V_iconst C (v := nI 0) dX7_families_55 (by decide +kernel) ?_
      refine V_istore_n C dX7_families_56 (hn _ (by decide)) ?_
      exact loop2 12 0 _ rfl hs
    | succ c ih =>
      intro x s hx hs
      have hu : x < cmD (refD I J 0) := by rw [hR.d]; omega
      have e : bI (refD I J 0 5 x = 0) = 0 ↔ ¬ z.1.1 5 x = 0 := by rw [bI_0, hR.d]
      refine V_iload_n C dX7_families_4 rfl ?_
      refine V_aload_n C dX7_families_5 rfl ?_
      refine V_getR C fl_X7_146 (ob_K hM) (ob_R hM 36 1037 rfl rfl) rfl dX7_families_6 ?_
      refine V_iconst C (v := nI 0) dX7_families_9 (by decide +kernel) ?_
      refine V_iald C (0) (ob_A hM 36 1037 rfl rfl) (by first | rfl | (simp only [nI_add, pk_mul]; done) | (simp only [nI_add, pk_mul]; congr 1; omega)) (by rw [ob_N hM 36 1037 rfl rfl]; omega) (by rw [ob_N hM 36 1037 rfl rfl]; decide) dX7_families_10 ?_
      refine V_icmp_ge C 53 dX7_families_11 (by decide) (fun h11 => absurd h11 (by rw [hcm]; exact nI_ge (by omega) (by omega))) (fun h11 => ?_)
      refine V_iload_n C dX7_families_14 rfl ?_
      refine V_aload_n C dX7_families_15 rfl ?_
      refine V_iconst C (v := nI 0) dX7_families_16 (by decide +kernel) ?_
      refine V_iload_n C dX7_families_17 rfl ?_
      refine V_callV (F := fun _ => True) C (m_isThere hM (by omega) hD hu) mi_X7_isThere ml_X7_372 rfl (ob_K hM) (by decide) (by decide) (by decide) (Nat.le_of_ble_eq_true rfl) (fun _ _ => trivial) (fun v _ => clo_T v) rfl dX7_families_18 ?_
      rintro v S' I' J' ⟨hS, rfl, hI, hJ⟩
      obtain rfl := hS.symm
      obtain rfl := hI.symm
      obtain rfl := hJ.symm
      refine V_if_eq C 44 dX7_families_21 (by decide) (fun h21 => ?_) (fun h21 => ?_)
      · refine V_iconst C (v := nI 0) dX7_families_44 (by decide +kernel) ?_
        refine V_ior C dX7_families_45 ?_
        refine V_istore_n C dX7_families_46 (hn _ (by decide)) ?_
        refine V_iincU C dX7_families_47 rfl (hn _ (by decide)) ?_
        refine V_goto C 4 dX7_families_50 (by decide) ?_
        refine ih (x + 1) _ (by omega) ?_
        rw [hs, fsN]
        first | rw [if_neg (e.mp h21)] | rw [if_pos (Decidable.not_not.mp (fun q => h21 (e.mpr q))), if_pos h30] | rw [if_pos (Decidable.not_not.mp (fun q => h21 (e.mpr q))), if_neg h30]
      · refine V_aload_n C dX7_families_24 rfl ?_
        refine V_iconst C (v := nI 0) dX7_families_25 (by decide +kernel) ?_
        refine V_iload_n C dX7_families_26 rfl ?_
        refine V_callV (F := fun _ => True) C (m_familyOf hM (by omega) hD hu) mi_X7_familyOf ml_X7_400 rfl (ob_K hM) (by decide) (by decide) (by decide) (Nat.le_of_ble_eq_true rfl) (fun _ _ => trivial) (fun v _ => clo_T v) rfl dX7_families_27 ?_
        rintro v S' I' J' ⟨hS, rfl, hI, hJ⟩
        obtain rfl := hS.symm
        obtain rfl := hI.symm
        obtain rfl := hJ.symm
        rw [hR.d]
        refine V_if_lt C 44 dX7_families_30 (by decide) (fun h30 => ?_) (fun h30 => ?_)
        · refine V_iconst C (v := nI 0) dX7_families_44 (by decide +kernel) ?_
          refine V_ior C dX7_families_45 ?_
          refine V_istore_n C dX7_families_46 (hn _ (by decide)) ?_
          refine V_iincU C dX7_families_47 rfl (hn _ (by decide)) ?_
          refine V_goto C 4 dX7_families_50 (by decide) ?_
          refine ih (x + 1) _ (by omega) ?_
          rw [hs, fsN]
          first | rw [if_neg (e.mp h21)] | rw [if_pos (Decidable.not_not.mp (fun q => h21 (e.mpr q))), if_pos h30] | rw [if_pos (Decidable.not_not.mp (fun q => h21 (e.mpr q))), if_neg h30]
        · refine V_iconst C (v := nI 1) dX7_families_33 (by decide +kernel) ?_
          refine V_aload_n C dX7_families_34 rfl ?_
          refine V_iconst C (v := nI 0) dX7_families_35 (by decide +kernel) ?_
          refine V_iload_n C dX7_families_36 rfl ?_
          refine V_callV (F := fun _ => True) C (m_familyOf hM (by omega) hD hu) mi_X7_familyOf ml_X7_400 rfl (ob_K hM) (by decide) (by decide) (by decide) (Nat.le_of_ble_eq_true rfl) (fun _ _ => trivial) (fun v _ => clo_T v) rfl dX7_families_37 ?_
          rintro v S' I' J' ⟨hS, rfl, hI, hJ⟩
          obtain rfl := hS.symm
          obtain rfl := hI.symm
          obtain rfl := hJ.symm
          rw [hR.d]
          refine V_ishl C dX7_families_40 ?_
          refine V_goto C 45 dX7_families_41 (by decide) ?_
          refine V_ior C dX7_families_45 ?_
          refine V_istore_n C dX7_families_46 (hn _ (by decide)) ?_
          refine V_iincU C dX7_families_47 rfl (hn _ (by decide)) ?_
          refine V_goto C 4 dX7_families_50 (by decide) ?_
          refine ih (x + 1) _ (by omega) ?_
          rw [hs, fsN]
          first | rw [if_neg (e.mp h21)] | rw [if_pos (Decidable.not_not.mp (fun q => h21 (e.mpr q))), if_pos h30] | rw [if_pos (Decidable.not_not.mp (fun q => h21 (e.mpr q))), if_neg h30]
  refine V_iconst C (v := nI 0) dX7_families_0 (by decide +kernel) ?_
  refine V_istore_n C dX7_families_1 (hn _ (by decide)) ?_
  refine V_iconst C (v := nI 0) dX7_families_2 (by decide +kernel) ?_
  refine V_istore_n C dX7_families_3 (hn _ (by decide)) ?_
  exact loop _ 0 _ (Nat.zero_add _) rfl
def anN (D : DV) (w : Nat) (v : Int32) : Nat → Int32
  | 0 => 0
  | n + 1 => if anN D w v n = 0 then (if D 5 n = 0 then (if (if w = 1 then D 6 n else famD D n) = v then 1 else 0) else 0) else 1
/-- is it so in q: v a ring where w is 0, 1 or 3 -/
def soV (q : QV) (w : Nat) (v : Int32) : Int32 := match w with
  | 0 => bI (aD q.1 v.toNatClampNeg = 0)
  | 2 => bI (v ≤ thD q.1)
  | 4 => bI (v.toInt64 ≤ q.2.1)
  | w => anN q.1 w v (cmD q.1)
theorem b01 {c : Prop} [Decidable c] : (if c then (1 : Int32) else 0) = 0 ∨ (if c then (1 : Int32) else 0) = 1 := by
  by_cases h : c
  · exact Or.inr (if_pos h)
  · exact Or.inl (if_neg h)
theorem anN_01 {D : DV} {w : Nat} {v : Int32} : ∀ n, anN D w v n = 0 ∨ anN D w v n = 1
  | 0 => Or.inl rfl
  | n + 1 => by
    unfold anN
    split
    · split
      · exact b01
      · exact Or.inl rfl
    · exact Or.inr rfl
set_option maxRecDepth 100000 in
set_option maxHeartbeats 1000000 in
theorem m_isSo (hM : Ob S 7 1000) {q : QV} (hq : refQ I J 7 = q) (hk : okD q.1) {w : Nat} (hw : w ≤ 4) {v : Int32} (hv : w = 0 → ∃ r, r < 12 ∧ v = nI r) : Mn l yX7_isSo cX7_isSo 5 (some .boolean) 1 [.ref 1000, .int (nI w), .int v] S I J (fun r I' J' => r = some (.int (soV q w v)) ∧ I' = I ∧ J' = J) := by
  refine Mn.of (by decide) (fun ad => by simp [lg_sl, vv, Value.category]) (fun X P hP hn C => ?_)
  have eD := q7 hq
  have hD : rOk (refD I J 7) := by rw [eD]; exact hk.1
  have hcm : I 1037 7 = nI (cmD q.1) := by rw [← eD]; exact hD.2.2.2.1
  have hc30 : cmD q.1 ≤ 30 := hk.1.2.2.2.2.1
  have loop : (w = 1 ∨ w = 3) → ∀ (c x : Nat), x + c = cmD q.1 → V X P 0 0 70 [some (.ref 1000), some (.int (nI w)), some (.int v), some (.int (anN q.1 w v x)), some (.int (nI x))] [] S I J := by
    intro hw2 c
    have hP2 : ∀ r I' J', r = some (Value.int (anN q.1 w v (cmD q.1))) ∧ I' = I ∧ J' = J → P r S I' J' := by
      rcases hw2 with e | e <;> subst e <;> exact hP
    induction c with
    | zero =>
      intro x hx
      have hx : x = cmD q.1 := hx
      subst hx
      have a01 := anN_01 (D := q.1) (w := w) (v := v) (cmD q.1)
      refine V_iload C dX7_isSo_70 rfl ?_
      refine V_aload_n C dX7_isSo_72 rfl ?_
      refine V_getR C fl_X7_146 (ob_K hM) (ob_R hM 36 1037 rfl rfl) rfl dX7_isSo_73 ?_
      refine V_bipush C (v := nI 7) dX7_isSo_76 (by decide +kernel) ?_
      refine V_iald C (7) (ob_A hM 36 1037 rfl rfl) (by first | rfl | (simp only [nI_add, pk_mul]; done) | (simp only [nI_add, pk_mul]; congr 1; omega)) (by rw [ob_N hM 36 1037 rfl rfl]; omega) (by rw [ob_N hM 36 1037 rfl rfl]; decide) dX7_isSo_78 ?_
      refine V_icmp_ge C 140 dX7_isSo_79 (by decide) (fun h79 => ?_) (fun h79 => absurd (by rw [hcm]; exact Int32.le_refl _) h79)
      refine V_iload_n C dX7_isSo_140 rfl ?_
      exact V_zret C (by first | exact Or.inl rfl | exact Or.inr rfl | (simp only [bI]; split <;> first | exact Or.inl rfl | exact Or.inr rfl) | assumption) (Nat.zero_le _) (Nat.zero_le _) dX7_isSo_141 (hP2 _ _ _ ⟨rfl, rfl, rfl⟩)
    | succ c ih =>
      intro x hx
      have hu : x < cmD (refD I J 7) := by rw [eD]; omega
      have key : V X P 0 0 133 [some (.ref 1000), some (.int (nI w)), some (.int v), some (.int (anN q.1 w v x)), some (.int (nI x))] [.int (anN q.1 w v (x + 1))] S I J := by
        refine V_istore_n C dX7_isSo_133 (hn _ (by decide)) ?_
        refine V_iincU C dX7_isSo_134 rfl (hn _ (by decide)) ?_
        refine V_goto C 70 dX7_isSo_137 (by decide) ?_
        exact ih (x + 1) (by omega)
      have e : bI (refD I J 7 5 x = 0) = 0 ↔ ¬ q.1 5 x = 0 := by rw [bI_0, eD]
      have e6 : I 1039 (210 + x) = q.1 6 x := by
        rw [← eD, (r_lump hD hu).2.1]
      have k124 : q.1 5 x = 0 → anN q.1 w v x = 0 → V X P 0 0 124 [some (.ref 1000), some (.int (nI w)), some (.int v), some (.int (anN q.1 w v x)), some (.int (nI x))] [.int (if w = 1 then q.1 6 x else famD q.1 x)] S I J := by
        intro g1 g2
        rw [anN, if_pos g2, if_pos g1] at key
        refine V_iload_n C dX7_isSo_124 rfl ?_
        refine V_icmp_ne C 132 dX7_isSo_125 (by decide) (fun h125 => ?_) (fun h125 => ?_)
        · refine V_iconst C (v := nI 0) dX7_isSo_132 (by decide +kernel) ?_
          first | (rw [if_neg h125] at key; exact key) | (rw [if_pos h125] at key; exact key)
        · refine V_iconst C (v := nI 1) dX7_isSo_128 (by decide +kernel) ?_
          refine V_goto C 133 dX7_isSo_129 (by decide) ?_
          first | (rw [if_neg h125] at key; exact key) | (rw [if_pos h125] at key; exact key)
      have kA : ¬ anN q.1 w v x = 0 → V X P 0 0 128 [some (.ref 1000), some (.int (nI w)), some (.int v), some (.int (anN q.1 w v x)), some (.int (nI x))] [] S I J := by
        intro g2
        rw [anN, if_neg g2] at key
        refine V_iconst C (v := nI 1) dX7_isSo_128 (by decide +kernel) ?_
        refine V_goto C 133 dX7_isSo_129 (by decide) ?_
        exact key
      have kB : anN q.1 w v x = 0 → ¬ q.1 5 x = 0 → V X P 0 0 132 [some (.ref 1000), some (.int (nI w)), some (.int v), some (.int (anN q.1 w v x)), some (.int (nI x))] [] S I J := by
        intro g2 g1
        rw [anN, if_pos g2, if_neg g1] at key
        refine V_iconst C (v := nI 0) dX7_isSo_132 (by decide +kernel) ?_
        exact key
      refine V_iload C dX7_isSo_70 rfl ?_
      refine V_aload_n C dX7_isSo_72 rfl ?_
      refine V_getR C fl_X7_146 (ob_K hM) (ob_R hM 36 1037 rfl rfl) rfl dX7_isSo_73 ?_
      refine V_bipush C (v := nI 7) dX7_isSo_76 (by decide +kernel) ?_
      refine V_iald C (7) (ob_A hM 36 1037 rfl rfl) (by first | rfl | (simp only [nI_add, pk_mul]; done) | (simp only [nI_add, pk_mul]; congr 1; omega)) (by rw [ob_N hM 36 1037 rfl rfl]; omega) (by rw [ob_N hM 36 1037 rfl rfl]; decide) dX7_isSo_78 ?_
      refine V_icmp_ge C 140 dX7_isSo_79 (by decide) (fun h79 => absurd h79 (by rw [hcm]; exact nI_ge (by omega) (by omega))) (fun h79 => ?_)
      refine V_iload_n C dX7_isSo_82 rfl ?_
      refine V_if_ne C 128 dX7_isSo_83 (by decide) (fun h83 => ?_) (fun h83 => ?_)
      · exact kA h83
      · refine V_aload_n C dX7_isSo_86 rfl ?_
        refine V_bipush C (v := nI 7) dX7_isSo_87 (by decide +kernel) ?_
        refine V_iload C dX7_isSo_89 rfl ?_
        refine V_callV (F := fun _ => True) C (m_isThere hM (by omega) hD hu) mi_X7_isThere ml_X7_372 rfl (ob_K hM) (by decide) (by decide) (by decide) (Nat.le_of_ble_eq_true rfl) (fun _ _ => trivial) (fun v _ => clo_T v) rfl dX7_isSo_91 ?_
        rintro v S' I' J' ⟨hS, rfl, hI, hJ⟩
        obtain rfl := hS.symm
        obtain rfl := hI.symm
        obtain rfl := hJ.symm
        refine V_if_eq C 132 dX7_isSo_94 (by decide) (fun h94 => ?_) (fun h94 => ?_)
        · exact kB h83 (e.mp h94)
        · refine V_iload_n C dX7_isSo_97 rfl ?_
          refine V_iconst C (v := nI 1) dX7_isSo_98 (by decide +kernel) ?_
          refine V_icmp_ne C 116 dX7_isSo_99 (by decide) (fun h99 => ?_) (fun h99 => ?_)
          · refine V_aload_n C dX7_isSo_116 rfl ?_
            refine V_bipush C (v := nI 7) dX7_isSo_117 (by decide +kernel) ?_
            refine V_iload C dX7_isSo_119 rfl ?_
            refine V_callV (F := fun _ => True) C (m_familyOf hM (by omega) hD hu) mi_X7_familyOf ml_X7_400 rfl (ob_K hM) (by decide) (by decide) (by decide) (Nat.le_of_ble_eq_true rfl) (fun _ _ => trivial) (fun v _ => clo_T v) rfl dX7_isSo_121 ?_
            rintro v S' I' J' ⟨hS, rfl, hI, hJ⟩
            obtain rfl := hS.symm
            obtain rfl := hI.symm
            obtain rfl := hJ.symm
            rw [eD]
            first | (have := k124 (Decidable.not_not.mp (fun q => h94 (e.mpr q))) h83; rw [if_pos ((nI_eq (by omega) (by omega)).mp h99)] at this; rw [e6]; exact this) | (have := k124 (Decidable.not_not.mp (fun q => h94 (e.mpr q))) h83; rw [if_neg (fun e => h99 (by rw [e]))] at this; exact this)
          · refine V_aload_n C dX7_isSo_102 rfl ?_
            refine V_getR C fl_X7_152 (ob_K hM) (ob_R hM 38 1039 rfl rfl) rfl dX7_isSo_103 ?_
            refine V_sipush C (v := nI 210) dX7_isSo_106 (by decide +kernel) ?_
            refine V_iload C dX7_isSo_109 rfl ?_
            refine V_iadd C dX7_isSo_111 ?_
            refine V_iald C (210 + x) (ob_A hM 38 1039 rfl rfl) (by first | rfl | (simp only [nI_add, pk_mul]; done) | (simp only [nI_add, pk_mul]; congr 1; omega)) (by rw [ob_N hM 38 1039 rfl rfl]; omega) (by rw [ob_N hM 38 1039 rfl rfl]; decide) dX7_isSo_112 ?_
            refine V_goto C 124 dX7_isSo_113 (by decide) ?_
            first | (have := k124 (Decidable.not_not.mp (fun q => h94 (e.mpr q))) h83; rw [if_pos ((nI_eq (by omega) (by omega)).mp h99)] at this; rw [e6]; exact this) | (have := k124 (Decidable.not_not.mp (fun q => h94 (e.mpr q))) h83; rw [if_neg (fun e => h99 (by rw [e]))] at this; exact this)
  match w, hw, hv, hP, loop with
  | 0, _, hv, hP, _ =>
    obtain ⟨r, hr, er⟩ := hv rfl
    subst er
    have e0 : soV q 0 (nI r) = bI (aD q.1 r = 0) := by show bI (aD q.1 (nI r).toNatClampNeg = 0) = _; rw [nI_clamp (by omega)]
    rw [e0] at hP
    refine V_iload_n C dX7_isSo_0 rfl ?_
    refine V_if_ne C 20 dX7_isSo_1 (by decide) (fun h1 => absurd (rfl) h1) (fun h1 => ?_)
    refine V_aload_n C dX7_isSo_4 rfl ?_
    refine V_bipush C (v := nI 7) dX7_isSo_5 (by decide +kernel) ?_
    refine V_iload_n C dX7_isSo_7 rfl ?_
    refine V_callV (F := fun _ => True) C (m_allDust (b := 7) hM (by omega) hr) mi_X7_allDust ml_X7_314 rfl (ob_K hM) (by decide) (by decide) (by decide) (Nat.le_of_ble_eq_true rfl) (fun _ _ => trivial) (fun v _ => clo_T v) rfl dX7_isSo_8 ?_
    rintro v S' I' J' ⟨hS, rfl, hI, hJ⟩
    obtain rfl := hS.symm
    obtain rfl := hI.symm
    obtain rfl := hJ.symm
    rw [r_aD (J := J) hr, eD]
    refine V_if_ne C 18 dX7_isSo_11 (by decide) (fun h11 => ?_) (fun h11 => ?_)
    · refine V_iconst C (v := nI 0) dX7_isSo_18 (by decide +kernel) ?_
      exact V_zret C (by first | exact Or.inl rfl | exact Or.inr rfl | (simp only [bI]; split <;> first | exact Or.inl rfl | exact Or.inr rfl) | assumption) (Nat.zero_le _) (Nat.zero_le _) dX7_isSo_19 (hP _ _ _ ⟨by first | (rw [bI_t h11]; rfl) | (rw [bI_f h11]; rfl), rfl, rfl⟩)
    · refine V_iconst C (v := nI 1) dX7_isSo_14 (by decide +kernel) ?_
      refine V_goto C 19 dX7_isSo_15 (by decide) ?_
      exact V_zret C (by first | exact Or.inl rfl | exact Or.inr rfl | (simp only [bI]; split <;> first | exact Or.inl rfl | exact Or.inr rfl) | assumption) (Nat.zero_le _) (Nat.zero_le _) dX7_isSo_19 (hP _ _ _ ⟨by first | (rw [bI_t h11]; rfl) | (rw [bI_f h11]; rfl), rfl, rfl⟩)
  | 1, _, _, hP, loop =>
    refine V_iload_n C dX7_isSo_0 rfl ?_
    refine V_if_ne C 20 dX7_isSo_1 (by decide) (fun h1 => ?_) (fun h1 => absurd h1 (by decide))
    refine V_iload_n C dX7_isSo_20 rfl ?_
    refine V_iconst C (v := nI 2) dX7_isSo_21 (by decide +kernel) ?_
    refine V_icmp_ne C 41 dX7_isSo_22 (by decide) (fun h22 => ?_) (fun h22 => absurd h22 (by decide))
    refine V_iload_n C dX7_isSo_41 rfl ?_
    refine V_iconst C (v := nI 4) dX7_isSo_42 (by decide +kernel) ?_
    refine V_icmp_ne C 65 dX7_isSo_43 (by decide) (fun h43 => ?_) (fun h43 => absurd h43 (by decide))
    refine V_iconst C (v := nI 0) dX7_isSo_65 (by decide +kernel) ?_
    refine V_istore_n C dX7_isSo_66 (hn _ (by decide)) ?_
    refine V_iconst C (v := nI 0) dX7_isSo_67 (by decide +kernel) ?_
    refine V_istore C dX7_isSo_68 (hn _ (by decide)) ?_
    exact loop (Or.inl rfl) _ 0 (Nat.zero_add _)
  | 2, _, _, hP, _ =>
    refine V_iload_n C dX7_isSo_0 rfl ?_
    refine V_if_ne C 20 dX7_isSo_1 (by decide) (fun h1 => ?_) (fun h1 => absurd h1 (by decide))
    refine V_iload_n C dX7_isSo_20 rfl ?_
    refine V_iconst C (v := nI 2) dX7_isSo_21 (by decide +kernel) ?_
    refine V_icmp_ne C 41 dX7_isSo_22 (by decide) (fun h22 => absurd (rfl) h22) (fun h22 => ?_)
    refine V_aload_n C dX7_isSo_25 rfl ?_
    refine V_bipush C (v := nI 7) dX7_isSo_26 (by decide +kernel) ?_
    refine V_callV (F := fun _ => True) C (m_there hM (by omega) hD) mi_X7_there ml_X7_317 rfl (ob_K hM) (by decide) (by decide) (by decide) (Nat.le_of_ble_eq_true rfl) (fun _ _ => trivial) (fun v _ => clo_T v) rfl dX7_isSo_28 ?_
    rintro v S' I' J' ⟨hS, rfl, hI, hJ⟩
    obtain rfl := hS.symm
    obtain rfl := hI.symm
    obtain rfl := hJ.symm
    rw [eD]
    refine V_iload_n C dX7_isSo_31 rfl ?_
    refine V_icmp_lt C 39 dX7_isSo_32 (by decide) (fun h32 => ?_) (fun h32 => ?_)
    · refine V_iconst C (v := nI 0) dX7_isSo_39 (by decide +kernel) ?_
      exact V_zret C (by first | exact Or.inl rfl | exact Or.inr rfl | (simp only [bI]; split <;> first | exact Or.inl rfl | exact Or.inr rfl) | assumption) (Nat.zero_le _) (Nat.zero_le _) dX7_isSo_40 (hP _ _ _ ⟨by first | (rw [soV, bI_f (Int32.not_le.mpr h32)]; rfl) | (rw [soV, bI_t (Int32.not_lt.mp h32)]; rfl), rfl, rfl⟩)
    · refine V_iconst C (v := nI 1) dX7_isSo_35 (by decide +kernel) ?_
      refine V_goto C 40 dX7_isSo_36 (by decide) ?_
      exact V_zret C (by first | exact Or.inl rfl | exact Or.inr rfl | (simp only [bI]; split <;> first | exact Or.inl rfl | exact Or.inr rfl) | assumption) (Nat.zero_le _) (Nat.zero_le _) dX7_isSo_40 (hP _ _ _ ⟨by first | (rw [soV, bI_f (Int32.not_le.mpr h32)]; rfl) | (rw [soV, bI_t (Int32.not_lt.mp h32)]; rfl), rfl, rfl⟩)
  | 3, _, _, hP, loop =>
    refine V_iload_n C dX7_isSo_0 rfl ?_
    refine V_if_ne C 20 dX7_isSo_1 (by decide) (fun h1 => ?_) (fun h1 => absurd h1 (by decide))
    refine V_iload_n C dX7_isSo_20 rfl ?_
    refine V_iconst C (v := nI 2) dX7_isSo_21 (by decide +kernel) ?_
    refine V_icmp_ne C 41 dX7_isSo_22 (by decide) (fun h22 => ?_) (fun h22 => absurd h22 (by decide))
    refine V_iload_n C dX7_isSo_41 rfl ?_
    refine V_iconst C (v := nI 4) dX7_isSo_42 (by decide +kernel) ?_
    refine V_icmp_ne C 65 dX7_isSo_43 (by decide) (fun h43 => ?_) (fun h43 => absurd h43 (by decide))
    refine V_iconst C (v := nI 0) dX7_isSo_65 (by decide +kernel) ?_
    refine V_istore_n C dX7_isSo_66 (hn _ (by decide)) ?_
    refine V_iconst C (v := nI 0) dX7_isSo_67 (by decide +kernel) ?_
    refine V_istore C dX7_isSo_68 (hn _ (by decide)) ?_
    exact loop (Or.inr rfl) _ 0 (Nat.zero_add _)
  | 4, _, _, hP, _ =>
    have e5 : J 1035 7 = q.2.1 := by rw [← hq]; rfl
    refine V_iload_n C dX7_isSo_0 rfl ?_
    refine V_if_ne C 20 dX7_isSo_1 (by decide) (fun h1 => ?_) (fun h1 => absurd h1 (by decide))
    refine V_iload_n C dX7_isSo_20 rfl ?_
    refine V_iconst C (v := nI 2) dX7_isSo_21 (by decide +kernel) ?_
    refine V_icmp_ne C 41 dX7_isSo_22 (by decide) (fun h22 => ?_) (fun h22 => absurd h22 (by decide))
    refine V_iload_n C dX7_isSo_41 rfl ?_
    refine V_iconst C (v := nI 4) dX7_isSo_42 (by decide +kernel) ?_
    refine V_icmp_ne C 65 dX7_isSo_43 (by decide) (fun h43 => absurd (rfl) h43) (fun h43 => ?_)
    refine V_aload_n C dX7_isSo_46 rfl ?_
    refine V_getR C fl_X7_140 (ob_K hM) (ob_R hM 34 1035 rfl rfl) rfl dX7_isSo_47 ?_
    refine V_bipush C (v := nI 7) dX7_isSo_50 (by decide +kernel) ?_
    refine V_lald C (7) (ob_A hM 34 1035 rfl rfl) (by first | rfl | (simp only [nI_add, pk_mul]; done) | (simp only [nI_add, pk_mul]; congr 1; omega)) (by rw [ob_N hM 34 1035 rfl rfl]; omega) (by rw [ob_N hM 34 1035 rfl rfl]; decide) dX7_isSo_52 ?_
    refine V_iload_n C dX7_isSo_53 rfl ?_
    refine V_i2l C dX7_isSo_54 ?_
    rw [e5]
    refine V_lcmp C dX7_isSo_55 ?_
    refine V_if_lt C 63 dX7_isSo_56 (by decide) (fun h56 => ?_) (fun h56 => ?_)
    · refine V_iconst C (v := nI 0) dX7_isSo_63 (by decide +kernel) ?_
      exact V_zret C (by first | exact Or.inl rfl | exact Or.inr rfl | (simp only [bI]; split <;> first | exact Or.inl rfl | exact Or.inr rfl) | assumption) (Nat.zero_le _) (Nat.zero_le _) dX7_isSo_64 (hP _ _ _ ⟨by first | (rw [soV, bI_f (Int64.not_le.mpr ((lg_cmp_lt _ _).mp h56))]; rfl) | (rw [soV, bI_t (Int64.not_lt.mp (fun q => h56 ((lg_cmp_lt _ _).mpr q)))]; rfl), rfl, rfl⟩)
    · refine V_iconst C (v := nI 1) dX7_isSo_59 (by decide +kernel) ?_
      refine V_goto C 64 dX7_isSo_60 (by decide) ?_
      exact V_zret C (by first | exact Or.inl rfl | exact Or.inr rfl | (simp only [bI]; split <;> first | exact Or.inl rfl | exact Or.inr rfl) | assumption) (Nat.zero_le _) (Nat.zero_le _) dX7_isSo_64 (hP _ _ _ ⟨by first | (rw [soV, bI_f (Int64.not_le.mpr ((lg_cmp_lt _ _).mp h56))]; rfl) | (rw [soV, bI_t (Int64.not_lt.mp (fun q => h56 ((lg_cmp_lt _ _).mpr q)))]; rfl), rfl, rfl⟩)
end M17
