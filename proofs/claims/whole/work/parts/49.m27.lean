/-! the reference reads a law -/
section M27
variable {l : Launch} {S : HS} {I I' : HI} {J J' : HJ} {z : SV}
/-! with a fault nothing more is read -/
set_option maxRecDepth 100000 in
theorem m_takePartF (hM : Ob S 7 1000) (d : Int32) (hf : 0 < I 1000 8) : Mn l yX7_takePart cX7_takePart 4 none 0 [.ref 1000, .int d] S I J (fun v I' J' => v = none ∧ I' = I ∧ J' = J) := by
  refine Mn.of (by decide) (fun ad => by simp [lg_sl, vv, Value.category]) (fun X P hP hn C => ?_)
  refine V_aload_n C dX7_takePart_0 rfl ?_
  refine V_getI C fl_X7_219 (ob_K hM) rfl dX7_takePart_1 ?_
  refine V_if_le C 8 dX7_takePart_4 (by decide) (fun h4 => absurd h4 (Int32.not_le.mpr hf)) (fun h4 => ?_)
  exact V_vret C (Nat.zero_le _) (Nat.zero_le _) dX7_takePart_7 (hP _ _ _ ⟨rfl, rfl, rfl⟩)
set_option maxRecDepth 100000 in
theorem m_productsF (hM : Ob S 7 1000) {K : List Tok} {nx a q : Nat} {f d : Int32} (hf : 0 < f) (hE : EV I J K) (hT : PSt I nx a q f) (ha : a < K.length) : Mn l yX7_products cX7_products 3 none 1 [.ref 1000, .int d] S I J (fun v I' J' => v = none ∧ I' = I ∧ J' = J) := by
  refine Mn.of (by decide) (fun ad => by simp [lg_sl, vv, Value.category]) (fun X P hP hn C => ?_)
  refine V_aload_n C dX7_products_0 rfl ?_
  refine V_iload_n C dX7_products_1 rfl ?_
  refine V_callV (F := fun _ => True) C (m_takePartF hM d (by rw [hT.2.1]; exact hf)) mi_X7_takePart ml_X7_288 rfl (ob_K hM) (by decide) (by decide) (by decide) (Nat.le_of_ble_eq_true rfl) (fun _ _ => trivial) (fun v _ => clo_T v) rfl dX7_products_2 ?_
  rintro v S' I' J' ⟨hS, rfl, hI, hJ⟩
  obtain rfl := hS.symm
  obtain rfl := hI.symm
  obtain rfl := hJ.symm
  refine V_aload_n C dX7_products_5 rfl ?_
  refine V_bipush C (v := nI 42) dX7_products_6 (by decide +kernel) ?_
  refine V_callV (F := fun _ => True) C (m_isSign hM (c := 42) hE hT ha) mi_X7_isSign ml_X7_222 rfl (ob_K hM) (by decide) (by decide) (by decide) (Nat.le_of_ble_eq_true rfl) (fun _ _ => trivial) (fun v _ => clo_T v) rfl dX7_products_8 ?_
  rintro v S' I' J' ⟨hS, rfl, hI, hJ⟩
  obtain rfl := hS.symm
  obtain rfl := hI.symm
  obtain rfl := hJ.symm
  refine V_if_ne C 23 dX7_products_11 (by decide) (fun h11 => absurd (bI_f (fun r => pos_ne hf r.1)) h11) (fun h11 => ?_)
  refine V_aload_n C dX7_products_14 rfl ?_
  refine V_bipush C (v := nI 47) dX7_products_15 (by decide +kernel) ?_
  refine V_callV (F := fun _ => True) C (m_isSign hM (c := 47) hE hT ha) mi_X7_isSign ml_X7_222 rfl (ob_K hM) (by decide) (by decide) (by decide) (Nat.le_of_ble_eq_true rfl) (fun _ _ => trivial) (fun v _ => clo_T v) rfl dX7_products_17 ?_
  rintro v S' I' J' ⟨hS, rfl, hI, hJ⟩
  obtain rfl := hS.symm
  obtain rfl := hI.symm
  obtain rfl := hJ.symm
  refine V_if_eq C 64 dX7_products_20 (by decide) (fun h20 => ?_) (fun h20 => absurd (bI_f (fun r => pos_ne hf r.1)) h20)
  exact V_vret C (Nat.zero_le _) (Nat.zero_le _) dX7_products_64 (hP _ _ _ ⟨rfl, rfl, rfl⟩)
set_option maxRecDepth 100000 in
theorem m_sumsF (hM : Ob S 7 1000) {K : List Tok} {nx a q : Nat} {f d : Int32} (hf : 0 < f) (hE : EV I J K) (hT : PSt I nx a q f) (ha : a < K.length) : Mn l yX7_sums cX7_sums 3 none 2 [.ref 1000, .int d] S I J (fun v I' J' => v = none ∧ I' = I ∧ J' = J) := by
  refine Mn.of (by decide) (fun ad => by simp [lg_sl, vv, Value.category]) (fun X P hP hn C => ?_)
  refine V_aload_n C dX7_sums_0 rfl ?_
  refine V_iload_n C dX7_sums_1 rfl ?_
  refine V_callV (F := fun _ => True) C (m_productsF hM (d := d) hf hE hT ha) mi_X7_products ml_X7_285 rfl (ob_K hM) (by decide) (by decide) (by decide) (Nat.le_of_ble_eq_true rfl) (fun _ _ => trivial) (fun v _ => clo_T v) rfl dX7_sums_2 ?_
  rintro v S' I' J' ⟨hS, rfl, hI, hJ⟩
  obtain rfl := hS.symm
  obtain rfl := hI.symm
  obtain rfl := hJ.symm
  refine V_aload_n C dX7_sums_5 rfl ?_
  refine V_bipush C (v := nI 43) dX7_sums_6 (by decide +kernel) ?_
  refine V_callV (F := fun _ => True) C (m_isSign hM (c := 43) hE hT ha) mi_X7_isSign ml_X7_222 rfl (ob_K hM) (by decide) (by decide) (by decide) (Nat.le_of_ble_eq_true rfl) (fun _ _ => trivial) (fun v _ => clo_T v) rfl dX7_sums_8 ?_
  rintro v S' I' J' ⟨hS, rfl, hI, hJ⟩
  obtain rfl := hS.symm
  obtain rfl := hI.symm
  obtain rfl := hJ.symm
  refine V_if_ne C 23 dX7_sums_11 (by decide) (fun h11 => absurd (bI_f (fun r => pos_ne hf r.1)) h11) (fun h11 => ?_)
  refine V_aload_n C dX7_sums_14 rfl ?_
  refine V_bipush C (v := nI 45) dX7_sums_15 (by decide +kernel) ?_
  refine V_callV (F := fun _ => True) C (m_isSign hM (c := 45) hE hT ha) mi_X7_isSign ml_X7_222 rfl (ob_K hM) (by decide) (by decide) (by decide) (Nat.le_of_ble_eq_true rfl) (fun _ _ => trivial) (fun v _ => clo_T v) rfl dX7_sums_17 ?_
  rintro v S' I' J' ⟨hS, rfl, hI, hJ⟩
  obtain rfl := hS.symm
  obtain rfl := hI.symm
  obtain rfl := hJ.symm
  refine V_if_eq C 62 dX7_sums_20 (by decide) (fun h20 => ?_) (fun h20 => absurd (bI_f (fun r => pos_ne hf r.1)) h20)
  exact V_vret C (Nat.zero_le _) (Nat.zero_le _) dX7_sums_62 (hP _ _ _ ⟨rfl, rfl, rfl⟩)
set_option maxRecDepth 100000 in
theorem m_testF (hM : Ob S 7 1000) {K : List Tok} {nx a q : Nat} {f d : Int32} (hf : 0 < f) (hE : EV I J K) (hT : PSt I nx a q f) (ha : a < K.length) : Mn l yX7_test cX7_test 3 none 3 [.ref 1000, .int d] S I J (fun v I' J' => v = none ∧ I' = I ∧ J' = J) := by
  refine Mn.of (by decide) (fun ad => by simp [lg_sl, vv, Value.category]) (fun X P hP hn C => ?_)
  refine V_aload_n C dX7_test_0 rfl ?_
  refine V_iload_n C dX7_test_1 rfl ?_
  refine V_callV (F := fun _ => True) C (m_sumsF hM (d := d) hf hE hT ha) mi_X7_sums ml_X7_279 rfl (ob_K hM) (by decide) (by decide) (by decide) (Nat.le_of_ble_eq_true rfl) (fun _ _ => trivial) (fun v _ => clo_T v) rfl dX7_test_2 ?_
  rintro v S' I' J' ⟨hS, rfl, hI, hJ⟩
  obtain rfl := hS.symm
  obtain rfl := hI.symm
  obtain rfl := hJ.symm
  refine V_aload_n C dX7_test_5 rfl ?_
  refine V_bipush C (v := nI 60) dX7_test_6 (by decide +kernel) ?_
  refine V_callV (F := fun _ => True) C (m_isSign hM (c := 60) hE hT ha) mi_X7_isSign ml_X7_222 rfl (ob_K hM) (by decide) (by decide) (by decide) (Nat.le_of_ble_eq_true rfl) (fun _ _ => trivial) (fun v _ => clo_T v) rfl dX7_test_8 ?_
  rintro v S' I' J' ⟨hS, rfl, hI, hJ⟩
  obtain rfl := hS.symm
  obtain rfl := hI.symm
  obtain rfl := hJ.symm
  refine V_istore_n C dX7_test_11 (hn _ (by decide)) ?_
  refine V_aload_n C dX7_test_12 rfl ?_
  refine V_bipush C (v := nI 60) dX7_test_13 (by decide +kernel) ?_
  refine V_callV (F := fun _ => True) C (m_hasSign hM (c := 60) hE hT ha) mi_X7_hasSign ml_X7_282 rfl (ob_K hM) (by decide) (by decide) (by decide) (Nat.le_of_ble_eq_true rfl) (fun _ _ => trivial) (fun v _ => clo_T v) rfl dX7_test_15 ?_
  rintro v S' I' J' ⟨hS, rfl, hI, hJ⟩
  obtain rfl := hS.symm
  obtain rfl := hI.symm
  obtain rfl := hJ.symm
  rw [if_neg (fun r => pos_ne hf r.1)]
  refine V_if_ne C 30 dX7_test_18 (by decide) (fun h18 => absurd (bI_f (fun r => pos_ne hf r.1)) h18) (fun h18 => ?_)
  refine V_aload_n C dX7_test_21 rfl ?_
  refine V_bipush C (v := nI 61) dX7_test_22 (by decide +kernel) ?_
  refine V_callV (F := fun _ => True) C (m_hasSign hM (c := 61) hE hT ha) mi_X7_hasSign ml_X7_282 rfl (ob_K hM) (by decide) (by decide) (by decide) (Nat.le_of_ble_eq_true rfl) (fun _ _ => trivial) (fun v _ => clo_T v) rfl dX7_test_24 ?_
  rintro v S' I' J' ⟨hS, rfl, hI, hJ⟩
  obtain rfl := hS.symm
  obtain rfl := hI.symm
  obtain rfl := hJ.symm
  rw [if_neg (fun r => pos_ne hf r.1)]
  refine V_if_eq C 51 dX7_test_27 (by decide) (fun h27 => ?_) (fun h27 => absurd (bI_f (fun r => pos_ne hf r.1)) h27)
  exact V_vret C (Nat.zero_le _) (Nat.zero_le _) dX7_test_51 (hP _ _ _ ⟨rfl, rfl, rfl⟩)
set_option maxRecDepth 100000 in
theorem m_allF (hM : Ob S 7 1000) {K : List Tok} {nx a q : Nat} {f d : Int32} (hf : 0 < f) (hE : EV I J K) (hT : PSt I nx a q f) (ha : a < K.length) : Mn l yX7_all cX7_all 3 none 4 [.ref 1000, .int d] S I J (fun v I' J' => v = none ∧ I' = I ∧ J' = J) := by
  refine Mn.of (by decide) (fun ad => by simp [lg_sl, vv, Value.category]) (fun X P hP hn C => ?_)
  refine V_aload_n C dX7_all_0 rfl ?_
  refine V_iload_n C dX7_all_1 rfl ?_
  refine V_callV (F := fun _ => True) C (m_testF hM (d := d) hf hE hT ha) mi_X7_test ml_X7_276 rfl (ob_K hM) (by decide) (by decide) (by decide) (Nat.le_of_ble_eq_true rfl) (fun _ _ => trivial) (fun v _ => clo_T v) rfl dX7_all_2 ?_
  rintro v S' I' J' ⟨hS, rfl, hI, hJ⟩
  obtain rfl := hS.symm
  obtain rfl := hI.symm
  obtain rfl := hJ.symm
  refine V_aload_n C dX7_all_5 rfl ?_
  refine V_bipush C (v := nI 11) dX7_all_6 (by decide +kernel) ?_
  refine V_callV (F := fun _ => True) C (m_isWord hM (w := 11) (by omega) hE hT ha) mi_X7_isWord ml_X7_228 rfl (ob_K hM) (by decide) (by decide) (by decide) (Nat.le_of_ble_eq_true rfl) (fun _ _ => trivial) (fun v _ => clo_T v) rfl dX7_all_8 ?_
  rintro v S' I' J' ⟨hS, rfl, hI, hJ⟩
  obtain rfl := hS.symm
  obtain rfl := hI.symm
  obtain rfl := hJ.symm
  refine V_if_ne C 23 dX7_all_11 (by decide) (fun h11 => absurd (bI_f (fun r => pos_ne hf r.1)) h11) (fun h11 => ?_)
  refine V_aload_n C dX7_all_14 rfl ?_
  refine V_bipush C (v := nI 12) dX7_all_15 (by decide +kernel) ?_
  refine V_callV (F := fun _ => True) C (m_isWord hM (w := 12) (by omega) hE hT ha) mi_X7_isWord ml_X7_228 rfl (ob_K hM) (by decide) (by decide) (by decide) (Nat.le_of_ble_eq_true rfl) (fun _ _ => trivial) (fun v _ => clo_T v) rfl dX7_all_17 ?_
  rintro v S' I' J' ⟨hS, rfl, hI, hJ⟩
  obtain rfl := hS.symm
  obtain rfl := hI.symm
  obtain rfl := hJ.symm
  refine V_if_eq C 64 dX7_all_20 (by decide) (fun h20 => ?_) (fun h20 => absurd (bI_f (fun r => pos_ne hf r.1)) h20)
  exact V_vret C (Nat.zero_le _) (Nat.zero_le _) dX7_all_64 (hP _ _ _ ⟨rfl, rfl, rfl⟩)
abbrev PN : Type := Except Int32 (Int32 × Nat)
def numP (K : List Tok) (a : Nat) (lo hi : Int32) : PN := if (tk K a).1 = 2 then (if lo.toInt64 ≤ (tk K a).2.2.1 ∧ (tk K a).2.2.1 ≤ hi.toInt64 then .ok ((tk K a).2.2.1.toInt32, a + 1) else .error (errP K a 4)) else .error (errP K a 1)
def NPost (I : HI) (r : PN) (v : Option Value) (I' : HI) : Prop := match r with
  | .error e => 0 < e ∧ v = some (.int 0) ∧ I' = up2 I 1000 8 e
  | .ok (x, a') => v = some (.int x) ∧ I' = up2 I 1000 7 (nI a')
set_option maxRecDepth 100000 in
theorem m_takeNumberF (hM : Ob S 7 1000) (lo hi : Int32) (hf : 0 < I 1000 8) : Mn l yX7_takeNumber cX7_takeNumber 3 (some .int) 1 [.ref 1000, .int lo, .int hi] S I J (fun v I' J' => v = some (.int 0) ∧ I' = I ∧ J' = J) := by
  refine Mn.of (by decide) (fun ad => by simp [lg_sl, vv, Value.category]) (fun X P hP hn C => ?_)
  refine V_aload_n C dX7_takeNumber_0 rfl ?_
  refine V_getI C fl_X7_219 (ob_K hM) rfl dX7_takeNumber_1 ?_
  refine V_if_ne C 28 dX7_takeNumber_4 (by decide) (fun h4 => ?_) (fun h4 => absurd h4 (pos_ne hf))
  refine V_aload_n C dX7_takeNumber_28 rfl ?_
  refine V_getI C fl_X7_219 (ob_K hM) rfl dX7_takeNumber_29 ?_
  refine V_if_ne C 70 dX7_takeNumber_32 (by decide) (fun h32 => ?_) (fun h32 => absurd h32 (pos_ne hf))
  refine V_aload_n C dX7_takeNumber_70 rfl ?_
  refine V_getI C fl_X7_219 (ob_K hM) rfl dX7_takeNumber_71 ?_
  refine V_if_le C 79 dX7_takeNumber_74 (by decide) (fun h74 => absurd h74 (Int32.not_le.mpr hf)) (fun h74 => ?_)
  refine V_iconst C (v := nI 0) dX7_takeNumber_77 (by decide +kernel) ?_
  exact V_iret C (Nat.zero_le _) (Nat.zero_le _) dX7_takeNumber_78 (hP _ _ _ ⟨rfl, rfl, rfl⟩)
set_option maxRecDepth 100000 in
theorem m_takeNumber (hM : Ob S 7 1000) {K : List Tok} {nx a q : Nat} (hE : EV I J K) (hT : PSt I nx a q 0) (ha : a < K.length) (lo hi : Int32) : Mn l yX7_takeNumber cX7_takeNumber 3 (some .int) 1 [.ref 1000, .int lo, .int hi] S I J (fun v I' J' => NPost I (numP K a lo hi) v I' ∧ J' = J) := by
  refine Mn.of (by decide) (fun ad => by simp [lg_sl, vv, Value.category]) (fun X P hP hn C => ?_)
  obtain ⟨e1, e2, e3, e4, e5, e6, e7⟩ := hE.at ha
  have ef := hT.2.1
  have err : ∀ w, 0 < w → w < 16 → numP K a lo hi = .error (errP K a w) → V X P 0 0 70 [some (.ref 1000), some (.int lo), some (.int hi)] [] S (up2 I 1000 8 (errP K a w)) J := by
    intro w hw1 hw2 hp
    obtain ⟨p1, p2⟩ := errP_pos (w := w) e4 hw1 hw2
    have o8 : up2 I 1000 8 (errP K a w) 1000 8 = errP K a w := o_at
    refine V_aload_n C dX7_takeNumber_70 rfl ?_
    refine V_getI C fl_X7_219 (ob_K hM) rfl dX7_takeNumber_71 ?_
    refine V_if_le C 79 dX7_takeNumber_74 (by decide) (fun h74 => absurd h74 (by rw [o8]; exact Int32.not_le.mpr p1)) (fun h74 => ?_)
    refine V_iconst C (v := nI 0) dX7_takeNumber_77 (by decide +kernel) ?_
    exact V_iret C (Nat.zero_le _) (Nat.zero_le _) dX7_takeNumber_78 (hP _ _ _ ⟨by rw [hp]; exact ⟨p1, rfl, rfl⟩, rfl⟩)
  by_cases h2 : (tk K a).1 = 2
  · have e3' := e3 (by omega)
    by_cases hr : lo.toInt64 ≤ (tk K a).2.2.1 ∧ (tk K a).2.2.1 ≤ hi.toInt64
    · have hp : numP K a lo hi = .ok ((tk K a).2.2.1.toInt32, a + 1) := by rw [numP, if_pos h2, if_pos hr]
      have e77 : I 1000 7 + nI 1 = nI (a + 1) := by rw [hT.1, nI_add]
      have e78 : up2 I 1000 7 (nI (a + 1)) 1000 7 - nI 1 = nI a := by rw [o_at, pk_sub (by omega)]; rfl
      refine V_aload_n C dX7_takeNumber_0 rfl ?_
      refine V_getI C fl_X7_219 (ob_K hM) rfl dX7_takeNumber_1 ?_
      refine V_if_ne C 28 dX7_takeNumber_4 (by decide) (fun h4 => absurd (ef) h4) (fun h4 => ?_)
      refine V_aload_n C dX7_takeNumber_7 rfl ?_
      refine V_getR C fl_X7_24 (ob_K hM) (ob_R hM 4 1005 rfl rfl) rfl dX7_takeNumber_8 ?_
      refine V_aload_n C dX7_takeNumber_11 rfl ?_
      refine V_getI C fl_X7_216 (ob_K hM) rfl dX7_takeNumber_12 ?_
      refine V_iald C (a) (ob_A hM 4 1005 rfl rfl) hT.1 (by rw [ob_N hM 4 1005 rfl rfl]; omega) (by rw [ob_N hM 4 1005 rfl rfl]; decide) dX7_takeNumber_15 ?_
      refine V_iconst C (v := nI 2) dX7_takeNumber_16 (by decide +kernel) ?_
      refine V_icmp_eq C 28 dX7_takeNumber_17 (by decide) (fun h17 => ?_) (fun h17 => absurd (by rw [e1, h2]) h17)
      refine V_aload_n C dX7_takeNumber_28 rfl ?_
      refine V_getI C fl_X7_219 (ob_K hM) rfl dX7_takeNumber_29 ?_
      refine V_if_ne C 70 dX7_takeNumber_32 (by decide) (fun h32 => absurd (ef) h32) (fun h32 => ?_)
      refine V_aload_n C dX7_takeNumber_35 rfl ?_
      refine V_getR C fl_X7_30 (ob_K hM) (ob_R hM 6 1007 rfl rfl) rfl dX7_takeNumber_36 ?_
      refine V_aload_n C dX7_takeNumber_39 rfl ?_
      refine V_getI C fl_X7_216 (ob_K hM) rfl dX7_takeNumber_40 ?_
      refine V_lald C (a) (ob_A hM 6 1007 rfl rfl) hT.1 (by rw [ob_N hM 6 1007 rfl rfl]; omega) (by rw [ob_N hM 6 1007 rfl rfl]; decide) dX7_takeNumber_43 ?_
      rw [e3']
      refine V_iload_n C dX7_takeNumber_44 rfl ?_
      refine V_i2l C dX7_takeNumber_45 ?_
      refine V_lcmp C dX7_takeNumber_46 ?_
      refine V_if_lt C 65 dX7_takeNumber_47 (by decide) (fun h47 => absurd h47 (by rw [lg_cmp_lt]; exact Int64.not_lt.mpr hr.1)) (fun h47 => ?_)
      refine V_aload_n C dX7_takeNumber_50 rfl ?_
      refine V_getR C fl_X7_30 (ob_K hM) (ob_R hM 6 1007 rfl rfl) rfl dX7_takeNumber_51 ?_
      refine V_aload_n C dX7_takeNumber_54 rfl ?_
      refine V_getI C fl_X7_216 (ob_K hM) rfl dX7_takeNumber_55 ?_
      refine V_lald C (a) (ob_A hM 6 1007 rfl rfl) hT.1 (by rw [ob_N hM 6 1007 rfl rfl]; omega) (by rw [ob_N hM 6 1007 rfl rfl]; decide) dX7_takeNumber_58 ?_
      rw [e3']
      refine V_iload_n C dX7_takeNumber_59 rfl ?_
      refine V_i2l C dX7_takeNumber_60 ?_
      refine V_lcmp C dX7_takeNumber_61 ?_
      refine V_if_le C 70 dX7_takeNumber_62 (by decide) (fun h62 => ?_) (fun h62 => absurd (by rw [lg_cmp_le]; exact hr.2) h62)
      refine V_aload_n C dX7_takeNumber_70 rfl ?_
      refine V_getI C fl_X7_219 (ob_K hM) rfl dX7_takeNumber_71 ?_
      refine V_if_le C 79 dX7_takeNumber_74 (by decide) (fun h74 => ?_) (fun h74 => absurd (by rw [ef]; decide) h74)
      refine V_aload_n C dX7_takeNumber_79 rfl ?_
      refine V_dup C dX7_takeNumber_80 rfl ?_
      refine V_getI C fl_X7_216 (ob_K hM) rfl dX7_takeNumber_81 ?_
      refine V_iconst C (v := nI 1) dX7_takeNumber_84 (by decide +kernel) ?_
      refine V_iadd C dX7_takeNumber_85 ?_
      refine V_putI C fl_X7_216 (ob_K hM) rfl rfl dX7_takeNumber_86 ?_
      rw [e77]
      refine V_aload_n C dX7_takeNumber_89 rfl ?_
      refine V_getR C fl_X7_30 (ob_K hM) (ob_R hM 6 1007 rfl rfl) rfl dX7_takeNumber_90 ?_
      refine V_aload_n C dX7_takeNumber_93 rfl ?_
      refine V_getI C fl_X7_216 (ob_K hM) rfl dX7_takeNumber_94 ?_
      refine V_iconst C (v := nI 1) dX7_takeNumber_97 (by decide +kernel) ?_
      refine V_isub C dX7_takeNumber_98 ?_
      refine V_lald C (a) (ob_A hM 6 1007 rfl rfl) e78 (by rw [ob_N hM 6 1007 rfl rfl]; omega) (by rw [ob_N hM 6 1007 rfl rfl]; decide) dX7_takeNumber_99 ?_
      rw [e3']
      refine V_l2i C dX7_takeNumber_100 ?_
      exact V_iret C (Nat.zero_le _) (Nat.zero_le _) dX7_takeNumber_101 (hP _ _ _ ⟨by rw [hp]; exact ⟨rfl, rfl⟩, rfl⟩)
    · have hp : numP K a lo hi = .error (errP K a 4) := by rw [numP, if_pos h2, if_neg hr]
      refine V_aload_n C dX7_takeNumber_0 rfl ?_
      refine V_getI C fl_X7_219 (ob_K hM) rfl dX7_takeNumber_1 ?_
      refine V_if_ne C 28 dX7_takeNumber_4 (by decide) (fun h4 => absurd (ef) h4) (fun h4 => ?_)
      refine V_aload_n C dX7_takeNumber_7 rfl ?_
      refine V_getR C fl_X7_24 (ob_K hM) (ob_R hM 4 1005 rfl rfl) rfl dX7_takeNumber_8 ?_
      refine V_aload_n C dX7_takeNumber_11 rfl ?_
      refine V_getI C fl_X7_216 (ob_K hM) rfl dX7_takeNumber_12 ?_
      refine V_iald C (a) (ob_A hM 4 1005 rfl rfl) hT.1 (by rw [ob_N hM 4 1005 rfl rfl]; omega) (by rw [ob_N hM 4 1005 rfl rfl]; decide) dX7_takeNumber_15 ?_
      refine V_iconst C (v := nI 2) dX7_takeNumber_16 (by decide +kernel) ?_
      refine V_icmp_eq C 28 dX7_takeNumber_17 (by decide) (fun h17 => ?_) (fun h17 => absurd (by rw [e1, h2]) h17)
      refine V_aload_n C dX7_takeNumber_28 rfl ?_
      refine V_getI C fl_X7_219 (ob_K hM) rfl dX7_takeNumber_29 ?_
      refine V_if_ne C 70 dX7_takeNumber_32 (by decide) (fun h32 => absurd (ef) h32) (fun h32 => ?_)
      refine V_aload_n C dX7_takeNumber_35 rfl ?_
      refine V_getR C fl_X7_30 (ob_K hM) (ob_R hM 6 1007 rfl rfl) rfl dX7_takeNumber_36 ?_
      refine V_aload_n C dX7_takeNumber_39 rfl ?_
      refine V_getI C fl_X7_216 (ob_K hM) rfl dX7_takeNumber_40 ?_
      refine V_lald C (a) (ob_A hM 6 1007 rfl rfl) hT.1 (by rw [ob_N hM 6 1007 rfl rfl]; omega) (by rw [ob_N hM 6 1007 rfl rfl]; decide) dX7_takeNumber_43 ?_
      rw [e3']
      refine V_iload_n C dX7_takeNumber_44 rfl ?_
      refine V_i2l C dX7_takeNumber_45 ?_
      refine V_lcmp C dX7_takeNumber_46 ?_
      refine V_if_lt C 65 dX7_takeNumber_47 (by decide) (fun h47 => ?_) (fun h47 => ?_)
      · refine V_aload_n C dX7_takeNumber_65 rfl ?_
        refine V_iconst C (v := nI 4) dX7_takeNumber_66 (by decide +kernel) ?_
        refine V_callV (F := fun _ => True) C (m_wrong hM (w := 4) hE hT ha) mi_X7_wrong ml_X7_225 rfl (ob_K hM) (by decide) (by decide) (by decide) (Nat.le_of_ble_eq_true rfl) (fun _ _ => trivial) (fun v _ => clo_T v) rfl dX7_takeNumber_67 ?_
        rintro v S' I' J' ⟨hS, rfl, hI, hJ⟩
        obtain rfl := hS.symm
        obtain rfl := hI.symm
        obtain rfl := hJ.symm
        first | exact err 4 (by decide) (by decide) hp | exact absurd ⟨Int64.not_lt.mp (fun q => h47 ((lg_cmp_lt _ _).mpr q)), (lg_cmp_le _ _).mp h62⟩ hr
      · refine V_aload_n C dX7_takeNumber_50 rfl ?_
        refine V_getR C fl_X7_30 (ob_K hM) (ob_R hM 6 1007 rfl rfl) rfl dX7_takeNumber_51 ?_
        refine V_aload_n C dX7_takeNumber_54 rfl ?_
        refine V_getI C fl_X7_216 (ob_K hM) rfl dX7_takeNumber_55 ?_
        refine V_lald C (a) (ob_A hM 6 1007 rfl rfl) hT.1 (by rw [ob_N hM 6 1007 rfl rfl]; omega) (by rw [ob_N hM 6 1007 rfl rfl]; decide) dX7_takeNumber_58 ?_
        rw [e3']
        refine V_iload_n C dX7_takeNumber_59 rfl ?_
        refine V_i2l C dX7_takeNumber_60 ?_
        refine V_lcmp C dX7_takeNumber_61 ?_
        refine V_if_le C 70 dX7_takeNumber_62 (by decide) (fun h62 => ?_) (fun h62 => ?_)
        · first | exact err 4 (by decide) (by decide) hp | exact absurd ⟨Int64.not_lt.mp (fun q => h47 ((lg_cmp_lt _ _).mpr q)), (lg_cmp_le _ _).mp h62⟩ hr
        · refine V_aload_n C dX7_takeNumber_65 rfl ?_
          refine V_iconst C (v := nI 4) dX7_takeNumber_66 (by decide +kernel) ?_
          refine V_callV (F := fun _ => True) C (m_wrong hM (w := 4) hE hT ha) mi_X7_wrong ml_X7_225 rfl (ob_K hM) (by decide) (by decide) (by decide) (Nat.le_of_ble_eq_true rfl) (fun _ _ => trivial) (fun v _ => clo_T v) rfl dX7_takeNumber_67 ?_
          rintro v S' I' J' ⟨hS, rfl, hI, hJ⟩
          obtain rfl := hS.symm
          obtain rfl := hI.symm
          obtain rfl := hJ.symm
          first | exact err 4 (by decide) (by decide) hp | exact absurd ⟨Int64.not_lt.mp (fun q => h47 ((lg_cmp_lt _ _).mpr q)), (lg_cmp_le _ _).mp h62⟩ hr
  · have hp : numP K a lo hi = .error (errP K a 1) := by rw [numP, if_neg h2]
    refine V_aload_n C dX7_takeNumber_0 rfl ?_
    refine V_getI C fl_X7_219 (ob_K hM) rfl dX7_takeNumber_1 ?_
    refine V_if_ne C 28 dX7_takeNumber_4 (by decide) (fun h4 => absurd (ef) h4) (fun h4 => ?_)
    refine V_aload_n C dX7_takeNumber_7 rfl ?_
    refine V_getR C fl_X7_24 (ob_K hM) (ob_R hM 4 1005 rfl rfl) rfl dX7_takeNumber_8 ?_
    refine V_aload_n C dX7_takeNumber_11 rfl ?_
    refine V_getI C fl_X7_216 (ob_K hM) rfl dX7_takeNumber_12 ?_
    refine V_iald C (a) (ob_A hM 4 1005 rfl rfl) hT.1 (by rw [ob_N hM 4 1005 rfl rfl]; omega) (by rw [ob_N hM 4 1005 rfl rfl]; decide) dX7_takeNumber_15 ?_
    refine V_iconst C (v := nI 2) dX7_takeNumber_16 (by decide +kernel) ?_
    refine V_icmp_eq C 28 dX7_takeNumber_17 (by decide) (fun h17 => absurd h17 (by rw [e1]; exact fun q => h2 ((nI_eq (by omega) (by omega)).mp q))) (fun h17 => ?_)
    refine V_aload_n C dX7_takeNumber_20 rfl ?_
    refine V_iconst C (v := nI 1) dX7_takeNumber_21 (by decide +kernel) ?_
    refine V_callV (F := fun _ => True) C (m_wrong hM (w := 1) hE hT ha) mi_X7_wrong ml_X7_225 rfl (ob_K hM) (by decide) (by decide) (by decide) (Nat.le_of_ble_eq_true rfl) (fun _ _ => trivial) (fun v _ => clo_T v) rfl dX7_takeNumber_22 ?_
    rintro v S' I' J' ⟨hS, rfl, hI, hJ⟩
    obtain rfl := hS.symm
    obtain rfl := hI.symm
    obtain rfl := hJ.symm
    refine V_goto C 70 dX7_takeNumber_25 (by decide) ?_
    exact err 1 (by decide) (by decide) hp
set_option maxRecDepth 100000 in
theorem m_takeWord (hM : Ob S 7 1000) {K : List Tok} {nx a q w : Nat} (hw : w < 23) (hE : EV I J K) (hT : PSt I nx a q 0) (ha : a < K.length) : Mn l yX7_takeWord cX7_takeWord 2 none 2 [.ref 1000, .int (nI w)] S I J (fun v I' J' => v = none ∧ I' = (if isWP K a w then up2 I 1000 7 (nI (a + 1)) else up2 I 1000 8 (errP K a 1)) ∧ J' = J) := by
  refine Mn.of (by decide) (fun ad => by simp [lg_sl, vv, Value.category]) (fun X P hP hn C => ?_)
  by_cases hs : isWP K a w
  · refine V_aload_n C dX7_takeWord_0 rfl ?_
    refine V_iload_n C dX7_takeWord_1 rfl ?_
    refine V_callV (F := fun _ => True) C (m_hasWord hM (w := w) hw hE hT ha) mi_X7_hasWord ml_X7_231 rfl (ob_K hM) (by decide) (by decide) (by decide) (Nat.le_of_ble_eq_true rfl) (fun _ _ => trivial) (fun v _ => clo_T v) rfl dX7_takeWord_2 ?_
    rintro v S' I' J' ⟨hS, rfl, hI, hJ⟩
    obtain rfl := hS.symm
    obtain rfl := hI.symm
    obtain rfl := hJ.symm
    rw [if_pos ⟨rfl, hs⟩]
    refine V_if_ne C 13 dX7_takeWord_5 (by decide) (fun h5 => ?_) (fun h5 => absurd h5 (by rw [bI_0]; exact fun r => r ⟨rfl, hs⟩))
    exact V_vret C (Nat.zero_le _) (Nat.zero_le _) dX7_takeWord_13 (hP _ _ _ ⟨rfl, by rw [if_pos hs], rfl⟩)
  · refine V_aload_n C dX7_takeWord_0 rfl ?_
    refine V_iload_n C dX7_takeWord_1 rfl ?_
    refine V_callV (F := fun _ => True) C (m_hasWord hM (w := w) hw hE hT ha) mi_X7_hasWord ml_X7_231 rfl (ob_K hM) (by decide) (by decide) (by decide) (Nat.le_of_ble_eq_true rfl) (fun _ _ => trivial) (fun v _ => clo_T v) rfl dX7_takeWord_2 ?_
    rintro v S' I' J' ⟨hS, rfl, hI, hJ⟩
    obtain rfl := hS.symm
    obtain rfl := hI.symm
    obtain rfl := hJ.symm
    rw [if_neg (fun r => hs r.2)]
    refine V_if_ne C 13 dX7_takeWord_5 (by decide) (fun h5 => absurd (bI_f (fun r => hs r.2)) h5) (fun h5 => ?_)
    refine V_aload_n C dX7_takeWord_8 rfl ?_
    refine V_iconst C (v := nI 1) dX7_takeWord_9 (by decide +kernel) ?_
    refine V_callV (F := fun _ => True) C (m_wrong hM (w := 1) hE hT ha) mi_X7_wrong ml_X7_225 rfl (ob_K hM) (by decide) (by decide) (by decide) (Nat.le_of_ble_eq_true rfl) (fun _ _ => trivial) (fun v _ => clo_T v) rfl dX7_takeWord_10 ?_
    rintro v S' I' J' ⟨hS, rfl, hI, hJ⟩
    obtain rfl := hS.symm
    obtain rfl := hI.symm
    obtain rfl := hJ.symm
    exact V_vret C (Nat.zero_le _) (Nat.zero_le _) dX7_takeWord_13 (hP _ _ _ ⟨rfl, by rw [if_neg hs], rfl⟩)
set_option maxRecDepth 100000 in
theorem m_takeWordF (hM : Ob S 7 1000) {K : List Tok} {nx a q w : Nat} {f : Int32} (hw : w < 23) (hf : 0 < f) (hE : EV I J K) (hT : PSt I nx a q f) (ha : a < K.length) : Mn l yX7_takeWord cX7_takeWord 2 none 2 [.ref 1000, .int (nI w)] S I J (fun v I' J' => v = none ∧ I' = I ∧ J' = J) := by
  refine Mn.of (by decide) (fun ad => by simp [lg_sl, vv, Value.category]) (fun X P hP hn C => ?_)
  refine V_aload_n C dX7_takeWord_0 rfl ?_
  refine V_iload_n C dX7_takeWord_1 rfl ?_
  refine V_callV (F := fun _ => True) C (m_hasWord hM (w := w) hw hE hT ha) mi_X7_hasWord ml_X7_231 rfl (ob_K hM) (by decide) (by decide) (by decide) (Nat.le_of_ble_eq_true rfl) (fun _ _ => trivial) (fun v _ => clo_T v) rfl dX7_takeWord_2 ?_
  rintro v S' I' J' ⟨hS, rfl, hI, hJ⟩
  obtain rfl := hS.symm
  obtain rfl := hI.symm
  obtain rfl := hJ.symm
  rw [if_neg (fun r => pos_ne hf r.1)]
  refine V_if_ne C 13 dX7_takeWord_5 (by decide) (fun h5 => absurd (bI_f (fun r => pos_ne hf r.1)) h5) (fun h5 => ?_)
  refine V_aload_n C dX7_takeWord_8 rfl ?_
  refine V_iconst C (v := nI 1) dX7_takeWord_9 (by decide +kernel) ?_
  refine V_callV (F := fun _ => True) C (m_wrongF hM _ (by rw [hT.2.1]; exact pos_ne hf)) mi_X7_wrong ml_X7_225 rfl (ob_K hM) (by decide) (by decide) (by decide) (Nat.le_of_ble_eq_true rfl) (fun _ _ => trivial) (fun v _ => clo_T v) rfl dX7_takeWord_10 ?_
  rintro v S' I' J' ⟨hS, rfl, hI, hJ⟩
  obtain rfl := hS.symm
  obtain rfl := hI.symm
  obtain rfl := hJ.symm
  exact V_vret C (Nat.zero_le _) (Nat.zero_le _) dX7_takeWord_13 (hP _ _ _ ⟨rfl, rfl, rfl⟩)
def leK (k : Nat) : Int32 := if k = 3 ∨ k = 6 then 1 else 0
def moK (k : Nat) : Int32 := if k = 3 then 99999 else if k = 6 then nI 99 else if k = 7 then nI 4 else nI 100
set_option maxRecDepth 100000 in
theorem m_leastOf {k : Nat} (hk : k < 9) : Mn l yX7_leastOf cX7_leastOf 1 (some .int) 0 [.int (nI k)] S I J (fun v I' J' => v = some (.int (leK k)) ∧ I' = I ∧ J' = J) := by
  refine Mn.of (by decide) (fun ad => by simp [lg_sl, vv, Value.category]) (fun X P hP hn C => ?_)
  have e : ∀ j, j < 9 → (nI k = nI j ↔ k = j) := fun j hj => nI_eq (by omega) (by omega)
  refine V_iload_n C dX7_leastOf_0 rfl ?_
  refine V_iconst C (v := nI 3) dX7_leastOf_1 (by decide +kernel) ?_
  refine V_icmp_eq C 11 dX7_leastOf_2 (by decide) (fun h2 => ?_) (fun h2 => ?_)
  · refine V_iconst C (v := nI 1) dX7_leastOf_11 (by decide +kernel) ?_
    refine V_goto C 16 dX7_leastOf_12 (by decide) ?_
    exact V_iret C (Nat.zero_le _) (Nat.zero_le _) dX7_leastOf_16 (hP _ _ _ ⟨by rw [leK]; first | (rw [if_pos (Or.inl ((e 3 (by omega)).mp h2))]; rfl) | (rw [if_pos (Or.inr ((e 6 (by omega)).mp h8))]; rfl) | (rw [if_neg (fun q => q.elim (fun q => h2 ((e 3 (by omega)).mpr q)) (fun q => h8 ((e 6 (by omega)).mpr q)))]; rfl), rfl, rfl⟩)
  · refine V_iload_n C dX7_leastOf_5 rfl ?_
    refine V_bipush C (v := nI 6) dX7_leastOf_6 (by decide +kernel) ?_
    refine V_icmp_ne C 15 dX7_leastOf_8 (by decide) (fun h8 => ?_) (fun h8 => ?_)
    · refine V_iconst C (v := nI 0) dX7_leastOf_15 (by decide +kernel) ?_
      exact V_iret C (Nat.zero_le _) (Nat.zero_le _) dX7_leastOf_16 (hP _ _ _ ⟨by rw [leK]; first | (rw [if_pos (Or.inl ((e 3 (by omega)).mp h2))]; rfl) | (rw [if_pos (Or.inr ((e 6 (by omega)).mp h8))]; rfl) | (rw [if_neg (fun q => q.elim (fun q => h2 ((e 3 (by omega)).mpr q)) (fun q => h8 ((e 6 (by omega)).mpr q)))]; rfl), rfl, rfl⟩)
    · refine V_iconst C (v := nI 1) dX7_leastOf_11 (by decide +kernel) ?_
      refine V_goto C 16 dX7_leastOf_12 (by decide) ?_
      exact V_iret C (Nat.zero_le _) (Nat.zero_le _) dX7_leastOf_16 (hP _ _ _ ⟨by rw [leK]; first | (rw [if_pos (Or.inl ((e 3 (by omega)).mp h2))]; rfl) | (rw [if_pos (Or.inr ((e 6 (by omega)).mp h8))]; rfl) | (rw [if_neg (fun q => q.elim (fun q => h2 ((e 3 (by omega)).mpr q)) (fun q => h8 ((e 6 (by omega)).mpr q)))]; rfl), rfl, rfl⟩)
set_option maxRecDepth 100000 in
theorem m_mostOf {k : Nat} (hk : k < 9) : Mn l yX7_mostOf cX7_mostOf 1 (some .int) 0 [.int (nI k)] S I J (fun v I' J' => v = some (.int (moK k)) ∧ I' = I ∧ J' = J) := by
  refine Mn.of (by decide) (fun ad => by simp [lg_sl, vv, Value.category]) (fun X P hP hn C => ?_)
  have e : ∀ j, j < 9 → (nI k = nI j ↔ k = j) := fun j hj => nI_eq (by omega) (by omega)
  refine V_iload_n C dX7_mostOf_0 rfl ?_
  refine V_iconst C (v := nI 3) dX7_mostOf_1 (by decide +kernel) ?_
  refine V_icmp_ne C 10 dX7_mostOf_2 (by decide) (fun h2 => ?_) (fun h2 => ?_)
  · refine V_iload_n C dX7_mostOf_10 rfl ?_
    refine V_bipush C (v := nI 6) dX7_mostOf_11 (by decide +kernel) ?_
    refine V_icmp_ne C 21 dX7_mostOf_13 (by decide) (fun h13 => ?_) (fun h13 => ?_)
    · refine V_iload_n C dX7_mostOf_21 rfl ?_
      refine V_bipush C (v := nI 7) dX7_mostOf_22 (by decide +kernel) ?_
      refine V_icmp_ne C 31 dX7_mostOf_24 (by decide) (fun h24 => ?_) (fun h24 => ?_)
      · refine V_bipush C (v := nI 100) dX7_mostOf_31 (by decide +kernel) ?_
        exact V_iret C (Nat.zero_le _) (Nat.zero_le _) dX7_mostOf_33 (hP _ _ _ ⟨by rw [moK]; first | (rw [if_pos ((e 3 (by omega)).mp h2)]) | (rw [if_neg (fun q => h2 ((e 3 (by omega)).mpr q)), if_pos ((e 6 (by omega)).mp h13)]) | (rw [if_neg (fun q => h2 ((e 3 (by omega)).mpr q)), if_neg (fun q => h13 ((e 6 (by omega)).mpr q)), if_pos ((e 7 (by omega)).mp h24)]) | (rw [if_neg (fun q => h2 ((e 3 (by omega)).mpr q)), if_neg (fun q => h13 ((e 6 (by omega)).mpr q)), if_neg (fun q => h24 ((e 7 (by omega)).mpr q))]), rfl, rfl⟩)
      · refine V_iconst C (v := nI 4) dX7_mostOf_27 (by decide +kernel) ?_
        refine V_goto C 33 dX7_mostOf_28 (by decide) ?_
        exact V_iret C (Nat.zero_le _) (Nat.zero_le _) dX7_mostOf_33 (hP _ _ _ ⟨by rw [moK]; first | (rw [if_pos ((e 3 (by omega)).mp h2)]) | (rw [if_neg (fun q => h2 ((e 3 (by omega)).mpr q)), if_pos ((e 6 (by omega)).mp h13)]) | (rw [if_neg (fun q => h2 ((e 3 (by omega)).mpr q)), if_neg (fun q => h13 ((e 6 (by omega)).mpr q)), if_pos ((e 7 (by omega)).mp h24)]) | (rw [if_neg (fun q => h2 ((e 3 (by omega)).mpr q)), if_neg (fun q => h13 ((e 6 (by omega)).mpr q)), if_neg (fun q => h24 ((e 7 (by omega)).mpr q))]), rfl, rfl⟩)
    · refine V_bipush C (v := nI 99) dX7_mostOf_16 (by decide +kernel) ?_
      refine V_goto C 33 dX7_mostOf_18 (by decide) ?_
      exact V_iret C (Nat.zero_le _) (Nat.zero_le _) dX7_mostOf_33 (hP _ _ _ ⟨by rw [moK]; first | (rw [if_pos ((e 3 (by omega)).mp h2)]) | (rw [if_neg (fun q => h2 ((e 3 (by omega)).mpr q)), if_pos ((e 6 (by omega)).mp h13)]) | (rw [if_neg (fun q => h2 ((e 3 (by omega)).mpr q)), if_neg (fun q => h13 ((e 6 (by omega)).mpr q)), if_pos ((e 7 (by omega)).mp h24)]) | (rw [if_neg (fun q => h2 ((e 3 (by omega)).mpr q)), if_neg (fun q => h13 ((e 6 (by omega)).mpr q)), if_neg (fun q => h24 ((e 7 (by omega)).mpr q))]), rfl, rfl⟩)
  · refine V_ldc C dX7_mostOf_5 kc_X7_252 ?_
    refine V_goto C 33 dX7_mostOf_7 (by decide) ?_
    exact V_iret C (Nat.zero_le _) (Nat.zero_le _) dX7_mostOf_33 (hP _ _ _ ⟨by rw [moK]; first | (rw [if_pos ((e 3 (by omega)).mp h2)]) | (rw [if_neg (fun q => h2 ((e 3 (by omega)).mpr q)), if_pos ((e 6 (by omega)).mp h13)]) | (rw [if_neg (fun q => h2 ((e 3 (by omega)).mpr q)), if_neg (fun q => h13 ((e 6 (by omega)).mpr q)), if_pos ((e 7 (by omega)).mp h24)]) | (rw [if_neg (fun q => h2 ((e 3 (by omega)).mpr q)), if_neg (fun q => h13 ((e 6 (by omega)).mpr q)), if_neg (fun q => h24 ((e 7 (by omega)).mpr q))]), rfl, rfl⟩)
/-! codes stand well -/
def exC (n : Nat) (c : Cds) : Prop := ∀ t k, t + n ≤ 30 → wfC k (t + 1) → wfC (c ++ k) t
def exS (n : Nat) (sub : Nat → PR) : Prop := ∀ a c a', sub a = .ok (c, a') → exC n c
theorem exC.le {n m : Nat} {c : Cds} (h : exC n c) (hm : n ≤ m) : exC m c := fun t k h1 h2 => h t k (by omega) h2
theorem exC_bin {n : Nat} {c c2 : Cds} {op : Nat} (h1 : exC (n + 1) c) (h2 : exC n c2) (ho : 4 ≤ op ∧ op ≤ 11) : exC (n + 1) (c ++ c2 ++ [(op, 0)]) := by
  intro t k ht hk
  rw [List.append_assoc, List.append_assoc]
  refine h1 t _ ht (h2 (t + 1) _ (by omega) ?_)
  refine ⟨⟨⟨by show 1 ≤ op; omega, ho.2⟩, fun q => ?_, fun q => ?_, fun q => ?_, fun _ => by omega⟩, ?_⟩
  · have q : op ≤ 2 := q
    omega
  · have q : op = 2 := q
    omega
  · have q : op = 3 := q
    omega
  · show wfC k (tpC (op, 0) (t + 1 + 1))
    unfold tpC
    rw [if_neg (show ¬ op ≤ 2 by omega), if_neg (show ¬ op = 3 by omega)]
    exact hk
theorem binL_ex {n : Nat} {sel : Nat → Option Nat} {sub : Nat → PR} (hs : exS n sub) (ho : ∀ a op, sel a = some op → 4 ≤ op ∧ op ≤ 11) : ∀ (m : Nat) (c : Cds) (a : Nat) (c' : Cds) (a' : Nat), exC (n + 1) c → binL sel sub m c a = .ok (c', a') → exC (n + 1) c' := by
  intro m
  induction m with
  | zero => intro c a c' a' hc h; cases h; exact hc
  | succ m ih =>
    intro c a c' a' hc h
    rw [binL] at h
    cases h1 : sel a with
    | none => rw [h1] at h; cases h; exact hc
    | some op =>
      rw [h1] at h
      dsimp only at h
      cases h2 : sub (a + 1) with
      | error e => rw [h2] at h; cases h
      | ok r =>
        obtain ⟨c2, a2⟩ := r
        rw [h2] at h
        exact ih _ _ _ _ (exC_bin hc (hs _ _ _ h2) (ho _ _ h1)) h
theorem binP_ex {n k : Nat} {sel : Nat → Option Nat} {sub : Nat → PR} (hs : exS n sub) (ho : ∀ a op, sel a = some op → 4 ≤ op ∧ op ≤ 11) : exS (n + 1) (binP k sel sub) := by
  intro a c a' h
  rw [binP] at h
  cases h2 : sub a with
  | error e => rw [h2] at h; cases h
  | ok r =>
    obtain ⟨c2, a2⟩ := r
    rw [h2] at h
    exact binL_ex hs ho _ _ _ _ _ ((hs _ _ _ h2).le (by omega)) h
theorem tstP_ex {n : Nat} {sel : Nat → Option Nat} {sub : Nat → PR} (hs : exS n sub) (ho : ∀ a op, sel a = some op → 4 ≤ op ∧ op ≤ 11) : exS (n + 1) (tstP sel sub) := by
  intro a c a' h
  rw [tstP] at h
  cases h2 : sub a with
  | error e => rw [h2] at h; cases h
  | ok r =>
    obtain ⟨c2, a2⟩ := r
    rw [h2] at h
    dsimp only at h
    cases h1 : sel a2 with
    | none => rw [h1] at h; cases h; exact (hs _ _ _ h2).le (by omega)
    | some op =>
      rw [h1] at h
      dsimp only at h
      cases h3 : sub (a2 + 1) with
      | error e => rw [h3] at h; cases h
      | ok r =>
        obtain ⟨c3, a3⟩ := r
        rw [h3] at h
        cases h
        exact exC_bin ((hs _ _ _ h2).le (by omega)) (hs _ _ _ h3) (ho _ _ h1)
theorem selP_op {p q : Nat → Prop} [DecidablePred p] [DecidablePred q] {x y : Nat} (hx : 4 ≤ x ∧ x ≤ 11) (hy : 4 ≤ y ∧ y ≤ 11) : ∀ a op, selP p q x y a = some op → 4 ≤ op ∧ op ≤ 11 := by
  intro a op h
  unfold selP at h
  split at h
  · cases h; exact hx
  · split at h
    · cases h; exact hy
    · cases h
theorem allP_ex {K : List Tok} {n : Nat} {sub : Nat → PR} (hs : exS n sub) : exS (n + 4) (allP K sub) := binP_ex (tstP_ex (binP_ex (binP_ex hs (selP_op (by decide) (by decide))) (selP_op (by decide) (by decide))) (selP_op (by decide) (by decide))) (selP_op (by decide) (by decide))
theorem parP_ex {K : List Tok} : ∀ f, exS (4 * f) (parP K f) := by
  intro f
  induction f with
  | zero =>
    intro a c a' h
    rw [parP] at h
    split at h <;> cases h
  | succ f ih =>
    intro a c a' h
    rw [parP] at h
    split at h
    · cases h
    · rename_i hb
      split at h
      · cases h2 : parP K f (a + 1) with
        | error e => rw [h2] at h; cases h
        | ok r =>
          obtain ⟨c2, a2⟩ := r
          rw [h2] at h
          cases h
          intro t k ht hk
          rw [List.append_assoc]
          refine ih _ _ _ h2 t _ (by omega) ?_
          exact ⟨⟨⟨by decide, by decide⟩, fun q => absurd q (by decide), fun q => absurd q (by decide), fun _ => by omega, fun q => absurd q (by decide)⟩, hk⟩
      · split at h
        · cases h2 : allP K (parP K f) (a + 1) with
          | error e => rw [h2] at h; cases h
          | ok r =>
            obtain ⟨c2, a2⟩ := r
            rw [h2] at h
            dsimp only at h
            split at h
            · cases h
              exact (allP_ex ih _ _ _ h2).le (by omega)
            · cases h
        · split at h
          · cases h
            intro t k ht hk
            exact ⟨⟨⟨show 1 ≤ 1 by decide, show 1 ≤ 11 by decide⟩, fun _ => by omega, fun q => absurd q (show ¬ 1 = 2 by decide), fun q => absurd q (show ¬ 1 = 3 by decide), fun q => absurd q (show ¬ 4 ≤ 1 by decide)⟩, hk⟩
          · rename_i h1 h2 h3
            cases h
            intro t k ht hk
            refine ⟨⟨⟨show 1 ≤ 2 by decide, show 2 ≤ 11 by decide⟩, fun _ => by omega, fun _ => ?_, fun q => absurd q (show ¬ 2 = 3 by decide), fun q => absurd q (show ¬ 4 ≤ 2 by decide)⟩, hk⟩
            rcases fwN_or (K := K) (a := a) (w := 14) 9 with g | ⟨j, g1, g2, g3⟩
            · exact absurd ⟨by rw [g]; decide, h3, h2, h1⟩ hb
            · exact ⟨j, g1, g2⟩
theorem allP_wf {K : List Tok} {a : Nat} {c : Cds} {a' : Nat} (h : allP K (parP K 4) a = .ok (c, a')) : wfC c 0 := by
  have := allP_ex (parP_ex 4) _ _ _ h 0 [] (by decide) rfl
  rwa [List.append_nil] at this
end M27
