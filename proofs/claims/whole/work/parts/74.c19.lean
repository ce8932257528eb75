/-! the class's face: empty, runs -/
section C19
variable {l : Launch} {S S' : HS} {I I' Ic : HI} {J J' Jc : HJ} {z : SV} {la lb e : Nat} {q : QV}
theorem iS_nn {f : Nat → Int32} {k : Nat} : ∀ n, n ≤ 5 → (∀ i, i < n → 0 ≤ (f (k + i)).toInt ∧ (f (k + i)).toInt ≤ 7200000) → 0 ≤ (iSum f k n).toInt ∧ (iSum f k n).toInt ≤ n * 7200000
  | 0, _, _ => by rw [iSum]; decide
  | n + 1, hn, h => by
    obtain ⟨h1, h2⟩ := iS_nn n (by omega) (fun i hi => h i (by omega))
    obtain ⟨h3, h4⟩ := h n (by omega)
    rw [iSum, i_add (by omega) (by omega)]
    omega
theorem aD_nn (h : iOk q) {r : Nat} (hr : r < 12) : 0 ≤ (aD q.1 r).toInt := by
  have hb := h.2.1
  have hl := hb.le
  exact (iS_nn (f := q.1 4) (k := 5 * r) 5 (Nat.le_refl _) (fun i hi => ⟨hb.2.1 _ (by omega), hl.2.1 _ (by omega)⟩)).1
set_option maxRecDepth 100000 in
set_option maxHeartbeats 1000000 in
theorem f_empty (hR : ClsR z S I J) (hO : OkC z) (r g : Int32) : Mf l yX6_empty cX6_empty 4 (some .int) 6 [.ref 1100, .int r, .int g] S I J (fun v S' I' J' => v = some (.int (empV z r g)) ∧ ClsR z S' I' J') := by
  refine Mf.of (by decide) (fun ad => by simp [lg_sl, vv, Value.category]) (fun X P hP hn C => ?_)
  obtain ⟨la, lb, hS, hC⟩ := hR
  have hla : la = 1160 ∨ la = 1180 := by have := hS.2.2.2.2.2.2.2.2.2.2; omega
  obtain ⟨h1, ⟨r0, r1, r3, r4, r5, r6, r7⟩, hF, -, -, -, -, -, h9, h10, -⟩ := id hS
  have hK1 := h9.1
  obtain ⟨sh, esh, h101⟩ := hO.2.2.2.2.2.2.1
  have hS2 : SS (enS S 4300) la lb := hS.en
  have hX := hS.co (b := 4300) hS.2.2.2.2.2.2.2.2.2.1 (by omega)
  obtain ⟨k1, ⟨s0, s1, s3, s4, s5, s6, s7⟩, kF, -, -, -, -, -, k9, k10, -⟩ := id hS2
  have kK2 := k10.1
  have loop : ∀ (k e : Nat), k < 12 → e < 16 → r = nI k → g = nI e → ∀ (c x : Nat) (In : HI) (Jn : HJ) (q : QV), x + c = 200 → Kc I J In Jn → In 1140 2 = nI e → CQ In Jn 4300 q → iOk q → (∀ v, v = emN (stZ z (nI e)) k c q → v = empV z (nI k) (nI e)) → V X P 0 0 28 [some (.ref 1100), some (.int r), some (.int g), some (.int (nI x))] [] (enS S 4300) In Jn := by
    intro k e hk he ek ee c
    subst ek
    subst ee
    induction c with
    | zero =>
      intro x In Jn q hx kk e2 hq hi hv
      have hx : x = 200 := hx
      subst hx
      have e76 : In 4300 1 = q.1 0 1 := hq.1.1.2.1
      have ea := hq.1.aD (r := k) hk
      have hcl := hC.cls hS hO kk (Or.inr rfl)
      refine V_iload_n C dX6_empty_28 rfl ?_
      refine V_sipush C (v := nI 200) dX6_empty_29 (by decide +kernel) ?_
      refine V_icmp_ge C 60 dX6_empty_32 (by decide) (fun h32 => ?_) (fun h32 => absurd (by decide) h32)
      refine V_aload_n C dX6_empty_60 rfl ?_
      refine V_getR C fl_X6_35 (ob_K k1) s1 rfl dX6_empty_61 ?_
      refine V_iload_n C dX6_empty_64 rfl ?_
      refine V_callV (F := fun _ => True) C (c_allDustIn k10 (r := k) (by omega)) mi_X1_allDustIn ml_X6_136 rfl (ob_K kK2) (by decide) (by decide) (by decide) (Nat.le_of_ble_eq_true rfl) (fun _ _ => trivial) (fun v _ => clo_T v) rfl dX6_empty_65 ?_
      rintro v S' I' J' ⟨hS9, rfl, hI9, hJ9⟩
      obtain rfl := hS9.symm
      obtain rfl := hI9.symm
      obtain rfl := hJ9.symm
      rw [ea]
      refine V_if_ne C 81 dX6_empty_68 (by decide) (fun h68 => ?_) (fun h68 => ?_)
      · refine V_iconst C (v := (-1)) dX6_empty_81 (by decide +kernel) ?_
        exact V_iret C (Nat.zero_le _) (Nat.zero_le _) dX6_empty_82 (hP _ _ _ _ ⟨by rw [← hv _ rfl, emN]; first | rw [if_neg h68] | rw [if_pos h68, e76], hcl⟩)
      · refine V_aload_n C dX6_empty_71 rfl ?_
        refine V_getR C fl_X6_35 (ob_K k1) s1 rfl dX6_empty_72 ?_
        refine V_getI C fl_X6_67 (ob_K kK2) rfl dX6_empty_75 ?_
        refine V_goto C 82 dX6_empty_78 (by decide) ?_
        exact V_iret C (Nat.zero_le _) (Nat.zero_le _) dX6_empty_82 (hP _ _ _ _ ⟨by rw [← hv _ rfl, emN]; first | rw [if_neg h68] | rw [if_pos h68, e76], hcl⟩)
    | succ c ih =>
      intro x In Jn q hx kk e2 hq hi hv
      have e76 : In 4300 1 = q.1 0 1 := hq.1.1.2.1
      have ea := hq.1.aD (r := k) hk
      have hcl := hC.cls hS hO kk (Or.inr rfl)
      by_cases h0 : aD q.1 k = 0
      · refine V_iload_n C dX6_empty_28 rfl ?_
        refine V_sipush C (v := nI 200) dX6_empty_29 (by decide +kernel) ?_
        refine V_icmp_ge C 60 dX6_empty_32 (by decide) (fun h32 => absurd h32 (nI_ge (by omega) (by omega))) (fun h32 => ?_)
        refine V_aload_n C dX6_empty_35 rfl ?_
        refine V_getR C fl_X6_35 (ob_K k1) s1 rfl dX6_empty_36 ?_
        refine V_iload_n C dX6_empty_39 rfl ?_
        refine V_callV (F := fun _ => True) C (c_allDustIn k10 (r := k) (by omega)) mi_X1_allDustIn ml_X6_136 rfl (ob_K kK2) (by decide) (by decide) (by decide) (Nat.le_of_ble_eq_true rfl) (fun _ _ => trivial) (fun v _ => clo_T v) rfl dX6_empty_40 ?_
        rintro v S' I' J' ⟨hS9, rfl, hI9, hJ9⟩
        obtain rfl := hS9.symm
        obtain rfl := hI9.symm
        obtain rfl := hJ9.symm
        rw [ea]
        refine V_if_le C 60 dX6_empty_43 (by decide) (fun h43 => ?_) (fun h43 => absurd (by rw [h0]; decide) h43)
        refine V_aload_n C dX6_empty_60 rfl ?_
        refine V_getR C fl_X6_35 (ob_K k1) s1 rfl dX6_empty_61 ?_
        refine V_iload_n C dX6_empty_64 rfl ?_
        refine V_callV (F := fun _ => True) C (c_allDustIn k10 (r := k) (by omega)) mi_X1_allDustIn ml_X6_136 rfl (ob_K kK2) (by decide) (by decide) (by decide) (Nat.le_of_ble_eq_true rfl) (fun _ _ => trivial) (fun v _ => clo_T v) rfl dX6_empty_65 ?_
        rintro v S' I' J' ⟨hS9, rfl, hI9, hJ9⟩
        obtain rfl := hS9.symm
        obtain rfl := hI9.symm
        obtain rfl := hJ9.symm
        rw [ea]
        refine V_if_ne C 81 dX6_empty_68 (by decide) (fun h68 => absurd (h0) h68) (fun h68 => ?_)
        refine V_aload_n C dX6_empty_71 rfl ?_
        refine V_getR C fl_X6_35 (ob_K k1) s1 rfl dX6_empty_72 ?_
        refine V_getI C fl_X6_67 (ob_K kK2) rfl dX6_empty_75 ?_
        refine V_goto C 82 dX6_empty_78 (by decide) ?_
        exact V_iret C (Nat.zero_le _) (Nat.zero_le _) dX6_empty_82 (hP _ _ _ _ ⟨by rw [← hv _ rfl, emN, if_pos h0, e76], hcl⟩)
      · have hp : 0 < aD q.1 k := i_pos.mpr (by
          have h3 := aD_nn hi hk
          have h4 : (aD q.1 k).toInt ≠ 0 := fun q => h0 (Int32.toInt_inj.mp q)
          omega)
        obtain ⟨G, sh4⟩ := kc_G hla hO hC kk he e2
        refine V_iload_n C dX6_empty_28 rfl ?_
        refine V_sipush C (v := nI 200) dX6_empty_29 (by decide +kernel) ?_
        refine V_icmp_ge C 60 dX6_empty_32 (by decide) (fun h32 => absurd h32 (nI_ge (by omega) (by omega))) (fun h32 => ?_)
        refine V_aload_n C dX6_empty_35 rfl ?_
        refine V_getR C fl_X6_35 (ob_K k1) s1 rfl dX6_empty_36 ?_
        refine V_iload_n C dX6_empty_39 rfl ?_
        refine V_callV (F := fun _ => True) C (c_allDustIn k10 (r := k) (by omega)) mi_X1_allDustIn ml_X6_136 rfl (ob_K kK2) (by decide) (by decide) (by decide) (Nat.le_of_ble_eq_true rfl) (fun _ _ => trivial) (fun v _ => clo_T v) rfl dX6_empty_40 ?_
        rintro v S' I' J' ⟨hS9, rfl, hI9, hJ9⟩
        obtain rfl := hS9.symm
        obtain rfl := hI9.symm
        obtain rfl := hJ9.symm
        rw [ea]
        refine V_if_le C 60 dX6_empty_43 (by decide) (fun h43 => absurd h43 (Int32.not_le.mpr hp)) (fun h43 => ?_)
        refine V_aload_n C dX6_empty_46 rfl ?_
        refine V_getR C fl_X6_30 (ob_K k1) s5 rfl dX6_empty_47 ?_
        refine V_iconst C (v := nI 1) dX6_empty_50 (by decide +kernel) ?_
        refine V_callV (F := fun _ => True) C (c_go hX G (sh4.trans esh) h101 hq hi (n := 1) (by omega)) mi_X0_go ml_X6_130 rfl (ob_K kF) (by decide) (by decide) (by decide) (Nat.le_of_ble_eq_true rfl) (fun _ _ => trivial) (fun v _ => clo_T v) rfl dX6_empty_51 ?_
        rintro v S' I3 J3 ⟨hS9, rfl, q3, f3⟩
        obtain rfl := hS9.symm
        obtain ⟨q4, k4, e4⟩ := go_kc esh kk e2 q3 f3
        refine V_iincU C dX6_empty_54 rfl (hn _ (by decide)) ?_
        refine V_goto C 28 dX6_empty_57 (by decide) ?_
        exact ih (x + 1) _ _ _ (by omega) k4 e4 q4 (itZ_i hO 1 _ hi) (fun v q => hv v (by rw [emN, if_neg h0]; exact q))
  have mid : okEmp z r g → V X P 0 0 21 [some (.ref 1100), some (.int r), some (.int g), none] [] S I J := by
    intro ok
    obtain ⟨k, hk, hk2, ek⟩ := isRx hO.1.1 ok.1
    obtain ⟨e, he, he2, ee⟩ := isE_ex hO.2.2.2.2.2.1 ok.2
    have h12 := hO.1.1.1.2.2.1
    have ev : empV z (nI k) (nI e) = emN (stZ z (nI e)) k 200 z.1 := by
      rw [← hk2, ← ee, empV, if_pos ok, ek]
    have ev2 : empV z r g = empV z (nI k) (nI e) := by rw [hk2, ee]
    refine V_aload_n C dX6_empty_21 rfl ?_
    refine V_iload_n C dX6_empty_22 rfl ?_
    refine V_callV (F := fun _ => True) C (f_beginTry hS hO hC.1 g) mi_X6_beginTry ml_X6_215 rfl (ob_K h1) (by decide) (by decide) (by decide) (Nat.le_of_ble_eq_true rfl) (fun _ _ => trivial) (fun v _ => clo_T v) rfl dX6_empty_23 ?_
    rintro v S' I2 J2 ⟨rfl, hS9, q2, k2, e2⟩
    subst hS9
    refine V_iconst C (v := nI 0) dX6_empty_26 (by decide +kernel) ?_
    refine V_istore_n C dX6_empty_27 (hn _ (by decide)) ?_
    exact loop k e (by omega) he hk2 ee 200 0 _ _ _ rfl k2 (e2.trans ee) q2 hO.1.1 (fun v q => by rw [ev]; exact q)
  refine V_aload_n C dX6_empty_0 rfl ?_
  refine V_getR C fl_X6_10 (ob_K h1) r0 rfl dX6_empty_1 ?_
  refine V_iload_n C dX6_empty_4 rfl ?_
  refine V_callV (F := fun _ => True) C (c_isRing h9 hC.1.1 hO.1.1.1 r) mi_X1_isRing ml_X6_79 rfl (ob_K hK1) (by decide) (by decide) (by decide) (Nat.le_of_ble_eq_true rfl) (fun _ _ => trivial) (fun v _ => clo_T v) rfl dX6_empty_5 ?_
  rintro v S' I' J' ⟨hS9, rfl, hI9, hJ9⟩
  obtain rfl := hS9.symm
  obtain rfl := hI9.symm
  obtain rfl := hJ9.symm
  refine V_if_eq C 19 dX6_empty_8 (by decide) (fun h8 => ?_) (fun h8 => ?_)
  · refine V_iconst C (v := (-1)) dX6_empty_19 (by decide +kernel) ?_
    exact V_iret C (Nat.zero_le _) (Nat.zero_le _) dX6_empty_20 (hP _ _ _ _ (by have no : ¬ okEmp z r g := (by first | exact fun q => (bI_0.mp h8) q.1 | exact fun q => (bI_0.mp h16) q.2); exact ⟨by rw [empV, if_neg no], la, lb, hS, hC⟩))
  · refine V_aload_n C dX6_empty_11 rfl ?_
    refine V_iload_n C dX6_empty_12 rfl ?_
    refine V_callV (F := fun _ => True) C (f_isEnd hS hC.2.2.1 hO.2.2.2.2.2.1 g) mi_X6_isEnd ml_X6_123 rfl (ob_K h1) (by decide) (by decide) (by decide) (Nat.le_of_ble_eq_true rfl) (fun _ _ => trivial) (fun v _ => clo_T v) rfl dX6_empty_13 ?_
    rintro v S' I' J' ⟨hS9, rfl, hI9, hJ9⟩
    obtain rfl := hS9.symm
    obtain rfl := hI9.symm
    obtain rfl := hJ9.symm
    refine V_if_ne C 21 dX6_empty_16 (by decide) (fun h16 => ?_) (fun h16 => ?_)
    · exact mid ⟨Decidable.not_not.mp (fun q => h8 (bI_0.mpr q)), Decidable.not_not.mp (fun q => h16 (bI_0.mpr q))⟩
    · refine V_iconst C (v := (-1)) dX6_empty_19 (by decide +kernel) ?_
      exact V_iret C (Nat.zero_le _) (Nat.zero_le _) dX6_empty_20 (hP _ _ _ _ (by have no : ¬ okEmp z r g := (by first | exact fun q => (bI_0.mp h8) q.1 | exact fun q => (bI_0.mp h16) q.2); exact ⟨by rw [empV, if_neg no], la, lb, hS, hC⟩))
set_option maxRecDepth 100000 in
set_option maxHeartbeats 1000000 in
theorem f_runs (hR : ClsR z S I J) (hO : OkC z) (k n m : Int32) : Mf l yX6_runs cX6_runs 7 (some .int) 6 [.ref 1100, .int k, .int n, .int m] S I J (fun v S' I' J' => v = some (.int (runsV z k n m)) ∧ ClsR z S' I' J') := by
  refine Mf.of (by decide) (fun ad => by simp [lg_sl, vv, Value.category]) (fun X P hP hn C => ?_)
  obtain ⟨la, lb, hS, hC⟩ := hR
  have hla : la = 1160 ∨ la = 1180 := by have := hS.2.2.2.2.2.2.2.2.2.2; omega
  have h1 := hS.1
  obtain ⟨sh, esh, h101⟩ := hO.2.2.2.2.2.2.1
  obtain ⟨e, ee, he⟩ := hO.2.2.2.1
  have hS2 : SS (enS S 4300) la lb := hS.en
  have hX := hS.co (b := 4300) hS.2.2.2.2.2.2.2.2.2.1 (by omega)
  obtain ⟨k1, ⟨s0, s1, s3, s4, s5, s6, s7⟩, kF, -, -, -, -, -, k9, k10, -⟩ := id hS2
  have kK2 := k10.1
  have eS2 : enS (enS S 4300) 4300 = enS S 4300 := by
    show (S.1, S.2.1, up2 (up2 S.2.2 1140 0 (some 4300)) 1140 0 (some 4300)) = _
    rw [up2_up2]
    rfl
  have loop : okRuns k n m → ∀ (k' n' : Nat), k' ≤ 40 → n' ≤ 60 → k = nI k' → n = nI n' → ∀ (c x : Nat) (S0 : HS) (In : HI) (Jn : HJ) (a4 a5 : Int32), x + c = k' → (S0 = S ∨ S0 = enS S 4300) → Kc I J In Jn → (if m = -1 then a4 else a5) = rnS z n' m x → V X P 0 0 41 [some (.ref 1100), some (.int k), some (.int n), some (.int m), some (.int a4), some (.int a5), some (.int (nI x))] [] S0 In Jn := by
    intro ok k' n' hk' hn' ek en c
    subst ek
    subst en
    induction c with
    | zero =>
      intro x S0 In Jn a4 a5 hx hS0 kk ea
      have hx : x = k' := hx
      subst hx
      have hcl := hC.cls hS hO kk hS0
      have ev : runsV z (nI x) (nI n') m = rnS z n' m x := by rw [runsV, if_pos ok, cl, cl, nI_clamp (by omega), nI_clamp (by omega)]
      rw [← ev] at ea
      refine V_iload C dX6_runs_41 rfl ?_
      refine V_iload_n C dX6_runs_43 rfl ?_
      refine V_icmp_ge C 105 dX6_runs_44 (by decide) (fun h44 => ?_) (fun h44 => absurd (Int32.le_refl _) h44)
      refine V_iload_n C dX6_runs_105 rfl ?_
      refine V_iconst C (v := (-1)) dX6_runs_106 (by decide +kernel) ?_
      refine V_icmp_ne C 115 dX6_runs_107 (by decide) (fun h107 => ?_) (fun h107 => ?_)
      · refine V_iload C dX6_runs_115 rfl ?_
        exact V_iret C (Nat.zero_le _) (Nat.zero_le _) dX6_runs_117 (hP _ _ _ _ ⟨by rw [← ea]; first | rw [if_pos h107] | rw [if_neg h107], hcl⟩)
      · refine V_iload C dX6_runs_110 rfl ?_
        refine V_goto C 117 dX6_runs_112 (by decide) ?_
        exact V_iret C (Nat.zero_le _) (Nat.zero_le _) dX6_runs_117 (hP _ _ _ _ ⟨by rw [← ea]; first | rw [if_pos h107] | rw [if_neg h107], hcl⟩)
    | succ c ih =>
      intro x S0 In Jn a4 a5 hx hS0 kk ea
      have hSS0 : SS S0 la lb := by rcases hS0 with rfl | rfl; exact hS; exact hS.en
      have eS0 : enS S0 4300 = enS S 4300 := by rcases hS0 with rfl | rfl; rfl; exact eS2
      have cc := hC.ks hO hla kk
      have e52 : In 1100 8 = z.2.2.1.2.1 := cc.2.2.2.1
      have j1 := hSS0.1
      obtain ⟨q, hq'⟩ : ∃ q, q = itN (stZ z z.2.2.1.2.1) n' (sdQ z.1 (nI x)) := ⟨_, rfl⟩
      have i1 : iOk (sdQ z.1 (nI x)) := hO.1.1.sd (by rw [nI_toInt (by omega)]; omega)
      have last : ∀ I3 J3, CQ I3 J3 4300 q → Kc I J I3 J3 → V X P 0 0 73 [some (.ref 1100), some (.int (nI k')), some (.int (nI n')), some (.int m), some (.int a4), some (.int a5), some (.int (nI x))] [] (enS S 4300) I3 J3 := by
        intro I3 J3 q3 k3
        have e79 : I3 4300 7 = thD q.1 := q3.1.1.2.2.2.2.2
        have hr : rnS z n' m (x + 1) = rnS z n' m x + (if 0 ≤ m then (if thD q.1 = m then nI 1 else nI 0) else thD q.1) := by rw [hq']; rfl
        have nx := fun a4 a5 => ih (x + 1) (enS S 4300) I3 J3 a4 a5 (by omega) (Or.inr rfl) k3
        have fin1 : thD q.1 = m → V X P 0 0 41 [some (.ref 1100), some (.int (nI k')), some (.int (nI n')), some (.int m), some (.int (a4 + thD q.1)), some (.int (a5 + nI 1)), some (.int (nI (x + 1)))] [] (enS S 4300) I3 J3 := by
          intro ht
          refine nx _ _ ?_
          rw [hr, ← ea]
          by_cases hm : m = -1
          · rw [if_pos hm, if_pos hm, if_neg (by rw [hm]; decide)]
          · have hm0 : 0 ≤ m := by
              have hw := ok.2.2.1
              rw [Int32.le_iff_toInt_le] at hw ⊢
              have h4 : m.toInt ≠ (-1 : Int32).toInt := fun q => hm (Int32.toInt_inj.mp q)
              have h5 : (-1 : Int32).toInt = -1 := by decide
              have h6 : (0 : Int32).toInt = 0 := by decide
              omega
            rw [if_neg hm, if_neg hm, if_pos hm0, if_pos ht]
        have fin2 : ¬ thD q.1 = m → V X P 0 0 41 [some (.ref 1100), some (.int (nI k')), some (.int (nI n')), some (.int m), some (.int (a4 + thD q.1)), some (.int a5), some (.int (nI (x + 1)))] [] (enS S 4300) I3 J3 := by
          intro ht
          refine nx _ _ ?_
          rw [hr, ← ea]
          by_cases hm : m = -1
          · rw [if_pos hm, if_pos hm, if_neg (by rw [hm]; decide)]
          · have hm0 : 0 ≤ m := by
              have hw := ok.2.2.1
              rw [Int32.le_iff_toInt_le] at hw ⊢
              have h4 : m.toInt ≠ (-1 : Int32).toInt := fun q => hm (Int32.toInt_inj.mp q)
              have h5 : (-1 : Int32).toInt = -1 := by decide
              have h6 : (0 : Int32).toInt = 0 := by decide
              omega
            rw [if_neg hm, if_neg hm, if_pos hm0, if_neg ht]
            exact (Int32.add_zero _).symm
        refine V_iload C dX6_runs_73 rfl ?_
        refine V_aload_n C dX6_runs_75 rfl ?_
        refine V_getR C fl_X6_35 (ob_K k1) s1 rfl dX6_runs_76 ?_
        refine V_getI C fl_X6_218 (ob_K kK2) rfl dX6_runs_79 ?_
        rw [e79]
        refine V_iadd C dX6_runs_82 ?_
        refine V_istore C dX6_runs_83 (hn _ (by decide)) ?_
        refine V_aload_n C dX6_runs_85 rfl ?_
        refine V_getR C fl_X6_35 (ob_K k1) s1 rfl dX6_runs_86 ?_
        refine V_getI C fl_X6_218 (ob_K kK2) rfl dX6_runs_89 ?_
        rw [e79]
        refine V_iload_n C dX6_runs_92 rfl ?_
        refine V_icmp_ne C 99 dX6_runs_93 (by decide) (fun h93 => ?_) (fun h93 => ?_)
        · refine V_iincU C dX6_runs_99 rfl (hn _ (by decide)) ?_
          refine V_goto C 41 dX6_runs_102 (by decide) ?_
          first | exact fin1 h93 | exact fin2 h93
        · refine V_iinc C dX6_runs_96 rfl (hn _ (by decide)) ?_
          refine V_iincU C dX6_runs_99 rfl (hn _ (by decide)) ?_
          refine V_goto C 41 dX6_runs_102 (by decide) ?_
          first | exact fin1 h93 | exact fin2 h93
      have mid : ∀ I2 J2, CQ I2 J2 4300 z.1 → Kc I J I2 J2 → I2 1140 2 = nI e → V X P 0 0 55 [some (.ref 1100), some (.int (nI k')), some (.int (nI n')), some (.int m), some (.int a4), some (.int a5), some (.int (nI x))] [] (enS S 4300) I2 J2 := by
        intro I2 J2 q2 k2 e2
        have q5 : CQ I2 (up2 J2 4300 3 (nI x).toInt64) 4300 (sdQ z.1 (nI x)) := q2.of (q2.1.seed rfl) rfl rfl
        have k5 : Kc I J I2 (up2 J2 4300 3 (nI x).toInt64) := k2.tr ⟨fun _ _ _ _ _ _ _ _ => rfl, fun _ _ => rfl, fun a ha => up2_ne _ _ _ (by omega)⟩
        obtain ⟨G, sh4⟩ := kc_G hla hO hC k5 he e2
        refine V_aload_n C dX6_runs_55 rfl ?_
        refine V_getR C fl_X6_35 (ob_K k1) s1 rfl dX6_runs_56 ?_
        refine V_iload C dX6_runs_59 rfl ?_
        refine V_i2l C dX6_runs_61 ?_
        refine V_putJ C fl_X6_105 (ob_K kK2) rfl rfl dX6_runs_62 ?_
        refine V_aload_n C dX6_runs_65 rfl ?_
        refine V_getR C fl_X6_30 (ob_K k1) s5 rfl dX6_runs_66 ?_
        refine V_iload_n C dX6_runs_69 rfl ?_
        refine V_callV (F := fun _ => True) C (c_go hX G (sh4.trans esh) h101 q5 i1 (n := n') (by omega)) mi_X0_go ml_X6_130 rfl (ob_K kF) (by decide) (by decide) (by decide) (Nat.le_of_ble_eq_true rfl) (fun _ _ => trivial) (fun v _ => clo_T v) rfl dX6_runs_70 ?_
        rintro v S' I3 J3 ⟨hS9, rfl, q3, f3⟩
        obtain rfl := hS9.symm
        obtain ⟨q4, k4, e4⟩ := go_kc esh k5 e2 q3 f3
        exact last _ _ (by rw [hq', ee]; exact q4) k4
      refine V_iload C dX6_runs_41 rfl ?_
      refine V_iload_n C dX6_runs_43 rfl ?_
      refine V_icmp_ge C 105 dX6_runs_44 (by decide) (fun h44 => absurd h44 (nI_ge (by omega) (by omega))) (fun h44 => ?_)
      refine V_aload_n C dX6_runs_47 rfl ?_
      refine V_aload_n C dX6_runs_48 rfl ?_
      refine V_getI C fl_X6_120 (ob_K j1) rfl dX6_runs_49 ?_
      rw [e52]
      refine V_callV (F := fun _ => True) C (f_beginTry hSS0 hO cc.1 _) mi_X6_beginTry ml_X6_215 rfl (ob_K j1) (by decide) (by decide) (by decide) (Nat.le_of_ble_eq_true rfl) (fun _ _ => trivial) (fun v _ => clo_T v) rfl dX6_runs_52 ?_
      rintro v S' I2 J2 ⟨rfl, hS9, q2, k2, e2⟩
      rw [eS0] at hS9
      subst hS9
      exact mid _ _ q2 (kk.tr k2) (e2.trans ee)
  refine V_iload_n C dX6_runs_0 rfl ?_
  refine V_iconst C (v := nI 1) dX6_runs_1 (by decide +kernel) ?_
  refine V_bipush C (v := nI 40) dX6_runs_2 (by decide +kernel) ?_
  refine V_callS (F := fun _ => True) C (m_isW _ _ _) ms_X6_isWithin ml_X6_71 rfl (by decide) (by decide) (Nat.le_of_ble_eq_true rfl) (fun _ _ => trivial) (fun v _ => clo_T v) rfl dX6_runs_4 ?_
  rintro v S' I' J' ⟨hS9, rfl, hI9, hJ9⟩
  obtain rfl := hS9.symm
  obtain rfl := hI9.symm
  obtain rfl := hJ9.symm
  refine V_if_eq C 30 dX6_runs_7 (by decide) (fun h7 => ?_) (fun h7 => ?_)
  · refine V_iconst C (v := (-1)) dX6_runs_30 (by decide +kernel) ?_
    exact V_iret C (Nat.zero_le _) (Nat.zero_le _) dX6_runs_31 (hP _ _ _ _ (by have no : ¬ okRuns k n m := (by first | exact fun q => (bI_0.mp h7) q.1 | exact fun q => (bI_0.mp h17) q.2.1 | exact fun q => (bI_0.mp h27) q.2.2); exact ⟨by rw [runsV, if_neg no], la, lb, hS, hC⟩))
  · refine V_iload_n C dX6_runs_10 rfl ?_
    refine V_iconst C (v := nI 0) dX6_runs_11 (by decide +kernel) ?_
    refine V_bipush C (v := nI 60) dX6_runs_12 (by decide +kernel) ?_
    refine V_callS (F := fun _ => True) C (m_isW _ _ _) ms_X6_isWithin ml_X6_71 rfl (by decide) (by decide) (Nat.le_of_ble_eq_true rfl) (fun _ _ => trivial) (fun v _ => clo_T v) rfl dX6_runs_14 ?_
    rintro v S' I' J' ⟨hS9, rfl, hI9, hJ9⟩
    obtain rfl := hS9.symm
    obtain rfl := hI9.symm
    obtain rfl := hJ9.symm
    refine V_if_eq C 30 dX6_runs_17 (by decide) (fun h17 => ?_) (fun h17 => ?_)
    · refine V_iconst C (v := (-1)) dX6_runs_30 (by decide +kernel) ?_
      exact V_iret C (Nat.zero_le _) (Nat.zero_le _) dX6_runs_31 (hP _ _ _ _ (by have no : ¬ okRuns k n m := (by first | exact fun q => (bI_0.mp h7) q.1 | exact fun q => (bI_0.mp h17) q.2.1 | exact fun q => (bI_0.mp h27) q.2.2); exact ⟨by rw [runsV, if_neg no], la, lb, hS, hC⟩))
    · refine V_iload_n C dX6_runs_20 rfl ?_
      refine V_iconst C (v := (-1)) dX6_runs_21 (by decide +kernel) ?_
      refine V_bipush C (v := nI 30) dX6_runs_22 (by decide +kernel) ?_
      refine V_callS (F := fun _ => True) C (m_isW _ _ _) ms_X6_isWithin ml_X6_71 rfl (by decide) (by decide) (Nat.le_of_ble_eq_true rfl) (fun _ _ => trivial) (fun v _ => clo_T v) rfl dX6_runs_24 ?_
      rintro v S' I' J' ⟨hS9, rfl, hI9, hJ9⟩
      obtain rfl := hS9.symm
      obtain rfl := hI9.symm
      obtain rfl := hJ9.symm
      refine V_if_ne C 32 dX6_runs_27 (by decide) (fun h27 => ?_) (fun h27 => ?_)
      · refine V_iconst C (v := nI 0) dX6_runs_32 (by decide +kernel) ?_
        refine V_istore C dX6_runs_33 (hn _ (by decide)) ?_
        refine V_iconst C (v := nI 0) dX6_runs_35 (by decide +kernel) ?_
        refine V_istore C dX6_runs_36 (hn _ (by decide)) ?_
        refine V_iconst C (v := nI 0) dX6_runs_38 (by decide +kernel) ?_
        refine V_istore C dX6_runs_39 (hn _ (by decide)) ?_
        have ok : okRuns k n m := ⟨Decidable.not_not.mp (fun q => h7 (bI_0.mpr q)), Decidable.not_not.mp (fun q => h17 (bI_0.mpr q)), Decidable.not_not.mp (fun q => h27 (bI_0.mpr q))⟩
        obtain ⟨k', hk1, hk2, ek⟩ := wi1_ex (by omega) ok.1
        obtain ⟨n', hn', en⟩ := wi_ex (by omega) ok.2.1
        exact loop ok k' n' hk2 hn' ek en _ 0 _ _ _ _ _ (Nat.zero_add _) (Or.inl rfl) Kc.re (by split <;> rfl)
      · refine V_iconst C (v := (-1)) dX6_runs_30 (by decide +kernel) ?_
        exact V_iret C (Nat.zero_le _) (Nat.zero_le _) dX6_runs_31 (hP _ _ _ _ (by have no : ¬ okRuns k n m := (by first | exact fun q => (bI_0.mp h7) q.1 | exact fun q => (bI_0.mp h17) q.2.1 | exact fun q => (bI_0.mp h27) q.2.2); exact ⟨by rw [runsV, if_neg no], la, lb, hS, hC⟩))
end C19
