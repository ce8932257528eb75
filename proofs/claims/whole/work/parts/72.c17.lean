/-! the class's face: tries, asked, sure -/
section C17
variable {l : Launch} {S S' : HS} {I I' Ic : HI} {J J' Jc : HJ} {z : SV} {la lb e : Nat} {q : QV}
theorem itZ_i (hO : OkC z) {g : Int32} : ∀ (n : Nat) (q : QV), iOk q → iOk (itN (stZ z g) n q)
  | 0, _, h => h
  | n + 1, q, h => itZ_i hO n _ (step_i (hO.2.2.1 g) h)
/-- what a step of the copy needs: laws, share -/
theorem kc_G (hla : la = 1160 ∨ la = 1180) (hO : OkC z) (hC : CR la z S I J) (k : Kc I J Ic Jc) (he : e < 16) (h2 : Ic 1140 2 = nI e) : cG Ic la z.2.2.1.1 e z.2.2.1.2.2.1 ∧ Ic 1140 4 = z.2.2.1.2.2.2 := by
  have c := hC.ks hO hla k
  exact ⟨⟨c.2.2.1, h2, he, c.2.2.2.2.1, hO.2.2.2.2.1, hO.2.2.1 _⟩, c.2.2.2.2.2.1⟩
theorem go_kc {n sh : Nat} (esh : z.2.2.1.2.2.2 = nI sh) (k : Kc I J Ic Jc) (h2 : Ic 1140 2 = nI e) (hq : CQ I' J' 4300 (itN (stepD (kcl z.2.2.1.1 (nI e)) (nI z.2.2.1.2.2.1) (nI sh)) n q)) (f : FC 4300 Ic Jc I' J') : CQ I' J' 4300 (itN (stZ z (nI e)) n q) ∧ Kc I J I' J' ∧ I' 1140 2 = nI e := by
  have est : stZ z (nI e) = stepD (kcl z.2.2.1.1 (nI e)) (nI z.2.2.1.2.2.1) (nI sh) := by unfold stZ; rw [esh]
  rw [est]
  exact ⟨hq, k.tr (Kc.fc f), by rw [f.1 1140 ⟨by omega, by omega, by omega, by omega, by omega, by omega⟩]; exact h2⟩
set_option maxRecDepth 100000 in
theorem f_beginTry (hS : SS S la lb) (hO : OkC z) (hq : CQ Ic Jc 1500 z.1) (g : Int32) : Mf l yX6_beginTry cX6_beginTry 2 none 3 [.ref 1100, .int g] S Ic Jc (fun v S' I' J' => v = none ∧ S' = enS S 4300 ∧ CQ I' J' 4300 z.1 ∧ Kc Ic Jc I' J' ∧ I' 1140 2 = g) := by
  refine Mf.of (by decide) (fun ad => by simp [lg_sl, vv, Value.category]) (fun X P hP hn C => ?_)
  obtain ⟨h1, ⟨r0, r1, r3, r4, r5, r6, r7⟩, hF, -, -, -, -, -, h9, h10, -⟩ := id hS
  have hK1 := h9.1
  have hK2 := h10.1
  have after : ∀ I2 J2, CQ I2 J2 4300 z.1 → (∀ a, (a < 4300 ∨ 4300 + 400 ≤ a) → I2 a = Ic a) → (∀ a, (a < 4300 ∨ 4300 + 400 ≤ a) → J2 a = Jc a) → V X P 0 0 11 [some (.ref 1100), some (.int g)] [] S I2 J2 := by
    intro I2 J2 q2 f2 g2
    have k2 : Kc Ic Jc I2 J2 := ⟨fun a ha _ _ _ _ _ _ => f2 a ha, fun x _ => by rw [f2 1140 (by omega)], fun a ha => g2 a ha⟩
    have q3 : CQ (up2 I2 1140 2 g) J2 4300 z.1 := q2.same (fun a g1 g2 => up2_ne _ _ _ (by omega)) rfl hO.1.1.1.2.2.2.2.1
    refine V_aload_n C dX6_beginTry_11 rfl ?_
    refine V_getR C fl_X6_30 (ob_K h1) r5 rfl dX6_beginTry_12 ?_
    refine V_aload_n C dX6_beginTry_15 rfl ?_
    refine V_getR C fl_X6_35 (ob_K h1) r1 rfl dX6_beginTry_16 ?_
    refine V_iload_n C dX6_beginTry_19 rfl ?_
    refine V_callV (F := fun _ => True) C (f_enter hF _) mi_X0_enter ml_X6_126 rfl (ob_K hF) (by decide) (by decide) (by decide) (Nat.le_of_ble_eq_true rfl) (fun _ _ => trivial) (fun v _ => clo_T v) rfl dX6_beginTry_20 ?_
    rintro v S' I3 J3 ⟨rfl, hS9, hI9, hJ9⟩
    subst hS9
    obtain rfl := hJ9.symm
    subst hI9
    exact V_vret C (Nat.zero_le _) (Nat.zero_le _) dX6_beginTry_23 (hP _ _ _ _ ⟨rfl, rfl, q3, k2.tr Kc.en, by rw [up2_row, va_up_self]⟩)
  refine V_aload_n C dX6_beginTry_0 rfl ?_
  refine V_getR C fl_X6_35 (ob_K h1) r1 rfl dX6_beginTry_1 ?_
  refine V_aload_n C dX6_beginTry_4 rfl ?_
  refine V_getR C fl_X6_10 (ob_K h1) r0 rfl dX6_beginTry_5 ?_
  refine V_callV (F := fun _ => True) C (c_diskLike h10 h9 (by omega) hq hO.1.1.1) mi_X1_becomeLike ml_X6_233 rfl (ob_K hK2) (by decide) (by decide) (by decide) (Nat.le_of_ble_eq_true rfl) (fun _ _ => trivial) (fun v _ => clo_T v) rfl dX6_beginTry_8 ?_
  rintro v S' I2 J2 ⟨hS9, rfl, q2, f2, g2⟩
  obtain rfl := hS9.symm
  exact after _ _ q2 f2 g2
theorem le64 {a b : Int32} : a ≤ b ↔ a.toInt64 ≤ b.toInt64 := by
  rw [Int32.le_iff_toInt_le, Int64.le_iff_toInt_le, Int32.toInt_toInt64, Int32.toInt_toInt64]
set_option maxRecDepth 100000 in
set_option maxHeartbeats 1000000 in
theorem f_isSo (hS : SS S la lb) (hO : OkC z) (hC : CR la z S I J) (k0 : Kc I J Ic Jc) {S0 : HS} (hS0 : S0 = S ∨ S0 = enS S 4300) (he : e < 16) {n w : Nat} (hn : n ≤ 100) (hw : w ≤ 4) {v : Int32} (hv : (w = 0 ∨ w = 1 ∨ w = 3) → isR z.1.1 v) : Mf l yX6_isSoBehind cX6_isSoBehind 5 (some .boolean) 6 [.ref 1100, .int (nI e), .int (nI n), .int (nI w), .int v] S0 Ic Jc (fun r S' I' J' => r = some (.int (soV (itN (stZ z (nI e)) n z.1) w v)) ∧ S' = enS S 4300 ∧ Kc I J I' J') := by
  refine Mf.of (by decide) (fun ad => by simp [lg_sl, vv, Value.category]) (fun X P hP hn' C => ?_)
  have hla : la = 1160 ∨ la = 1180 := by have := hS.2.2.2.2.2.2.2.2.2.2; omega
  have hSS0 : SS S0 la lb := by rcases hS0 with rfl | rfl; exact hS; exact hS.en
  have eS0 : enS S0 4300 = enS S 4300 := by
    rcases hS0 with rfl | rfl
    · rfl
    · show (S.1, S.2.1, up2 (up2 S.2.2 1140 0 (some 4300)) 1140 0 (some 4300)) = _
      rw [up2_up2]
      rfl
  have cc := hC.ks hO hla k0
  obtain ⟨h1, ⟨r0, r1, r3, r4, r5, r6, r7⟩, hF, -, -, -, -, -, h9, h10, -⟩ := id hSS0
  obtain ⟨sh, esh, h101⟩ := hO.2.2.2.2.2.2.1
  have hS2 : SS (enS S 4300) la lb := hS.en
  have hX := hS.co (b := 4300) hS.2.2.2.2.2.2.2.2.2.1 (by omega)
  obtain ⟨k1, ⟨s0, s1, s3, s4, s5, s6, s7⟩, kF, -, -, -, -, -, k9, k10, -⟩ := id hS2
  have kK2 := k10.1
  obtain ⟨q, hq'⟩ : ∃ q, q = itN (stZ z (nI e)) n z.1 := ⟨_, rfl⟩
  have hi : iOk q := by rw [hq']; exact itZ_i hO n _ hO.1.1
  have last : ∀ I3 J3, CQ I3 J3 4300 q → Kc I J I3 J3 → V X P 0 0 13 [some (.ref 1100), some (.int (nI e)), some (.int (nI n)), some (.int (nI w)), some (.int v)] [] (enS S 4300) I3 J3 := by
    intro I3 J3 q3 k3
    have fin : ∀ x, x = soV q w v → P (some (.int x)) (enS S 4300) I3 J3 := fun x hx => hP _ _ _ _ ⟨by rw [hx, hq'], rfl, k3⟩
    clear hP
    refine V_iload_n C dX6_isSoBehind_13 rfl ?_
    match w, hw with
    | 0, _ =>
      obtain ⟨j, hj, ej, ecj⟩ := isRx hO.1.1 (hv (Or.inl rfl))
      have h12 := hO.1.1.1.2.2.1
      have ea := q3.1.aD (r := j) (by omega)
      have es : soV q 0 v = bI (aD q.1 j = 0) := by show bI (aD q.1 v.toNatClampNeg = 0) = _; rw [show v.toNatClampNeg = j from ecj]
      refine V_swIn C 44 dX6_isSoBehind_14 (by decide) (by decide) (off := 30) (by decide +kernel) (by decide) ?_
      refine V_aload_n C dX6_isSoBehind_44 rfl ?_
      refine V_getR C fl_X6_35 (ob_K k1) s1 rfl dX6_isSoBehind_45 ?_
      refine V_iload C dX6_isSoBehind_48 rfl ?_
      rw [ej]
      refine V_callV (F := fun _ => True) C (c_allDustIn k10 (r := j) (by omega)) mi_X1_allDustIn ml_X6_136 rfl (ob_K kK2) (by decide) (by decide) (by decide) (Nat.le_of_ble_eq_true rfl) (fun _ _ => trivial) (fun v _ => clo_T v) rfl dX6_isSoBehind_50 ?_
      rintro v S' I' J' ⟨hS9, rfl, hI9, hJ9⟩
      obtain rfl := hS9.symm
      obtain rfl := hI9.symm
      obtain rfl := hJ9.symm
      rw [ea]
      refine V_if_ne C 60 dX6_isSoBehind_53 (by decide) (fun h53 => ?_) (fun h53 => ?_)
      · refine V_iconst C (v := nI 0) dX6_isSoBehind_60 (by decide +kernel) ?_
        exact V_zret C (by first | exact Or.inl rfl | exact Or.inr rfl | (simp only [bI]; split <;> first | exact Or.inl rfl | exact Or.inr rfl) | assumption) (Nat.zero_le _) (Nat.zero_le _) dX6_isSoBehind_61 (fin _ (by rw [es]; first | (rw [bI_f h53]; rfl) | (rw [bI_t h53]; rfl)))
      · refine V_iconst C (v := nI 1) dX6_isSoBehind_56 (by decide +kernel) ?_
        refine V_goto C 61 dX6_isSoBehind_57 (by decide) ?_
        exact V_zret C (by first | exact Or.inl rfl | exact Or.inr rfl | (simp only [bI]; split <;> first | exact Or.inl rfl | exact Or.inr rfl) | assumption) (Nat.zero_le _) (Nat.zero_le _) dX6_isSoBehind_61 (fin _ (by rw [es]; first | (rw [bI_f h53]; rfl) | (rw [bI_t h53]; rfl)))
    | 1, _ =>
      refine V_swIn C 62 dX6_isSoBehind_14 (by decide) (by decide) (off := 48) (by decide +kernel) (by decide) ?_
      have b01' := anN_01 (D := q.1) (w := 1) (v := v) (cmD q.1)
      refine V_aload_n C dX6_isSoBehind_62 rfl ?_
      refine V_getR C fl_X6_35 (ob_K k1) s1 rfl dX6_isSoBehind_63 ?_
      refine V_iload C dX6_isSoBehind_66 rfl ?_
      refine V_callV (F := fun _ => True) C (c_hasLumpIn k10 q3.1 hi.1 v) mi_X1_hasLumpIn ml_X6_247 rfl (ob_K kK2) (by decide) (by decide) (by decide) (Nat.le_of_ble_eq_true rfl) (fun _ _ => trivial) (fun v _ => clo_T v) rfl dX6_isSoBehind_68 ?_
      rintro v S' I' J' ⟨hS9, rfl, hI9, hJ9⟩
      obtain rfl := hS9.symm
      obtain rfl := hI9.symm
      obtain rfl := hJ9.symm
      exact V_zret C (by first | exact Or.inl rfl | exact Or.inr rfl | (simp only [bI]; split <;> first | exact Or.inl rfl | exact Or.inr rfl) | assumption) (Nat.zero_le _) (Nat.zero_le _) dX6_isSoBehind_71 (fin _ rfl)
    | 2, _ =>
      have e76 : I3 4300 7 = thD q.1 := q3.1.1.2.2.2.2.2
      refine V_swIn C 72 dX6_isSoBehind_14 (by decide) (by decide) (off := 58) (by decide +kernel) (by decide) ?_
      refine V_aload_n C dX6_isSoBehind_72 rfl ?_
      refine V_getR C fl_X6_35 (ob_K k1) s1 rfl dX6_isSoBehind_73 ?_
      refine V_getI C fl_X6_218 (ob_K kK2) rfl dX6_isSoBehind_76 ?_
      rw [e76]
      refine V_iload C dX6_isSoBehind_79 rfl ?_
      refine V_icmp_lt C 88 dX6_isSoBehind_81 (by decide) (fun h81 => ?_) (fun h81 => ?_)
      · refine V_iconst C (v := nI 0) dX6_isSoBehind_88 (by decide +kernel) ?_
        exact V_zret C (by first | exact Or.inl rfl | exact Or.inr rfl | (simp only [bI]; split <;> first | exact Or.inl rfl | exact Or.inr rfl) | assumption) (Nat.zero_le _) (Nat.zero_le _) dX6_isSoBehind_89 (fin _ (by show _ = bI (v ≤ thD q.1); first | (rw [bI_f (Int32.not_le.mpr h81)]; rfl) | (rw [bI_t (Int32.not_lt.mp h81)]; rfl)))
      · refine V_iconst C (v := nI 1) dX6_isSoBehind_84 (by decide +kernel) ?_
        refine V_goto C 89 dX6_isSoBehind_85 (by decide) ?_
        exact V_zret C (by first | exact Or.inl rfl | exact Or.inr rfl | (simp only [bI]; split <;> first | exact Or.inl rfl | exact Or.inr rfl) | assumption) (Nat.zero_le _) (Nat.zero_le _) dX6_isSoBehind_89 (fin _ (by show _ = bI (v ≤ thD q.1); first | (rw [bI_f (Int32.not_le.mpr h81)]; rfl) | (rw [bI_t (Int32.not_lt.mp h81)]; rfl)))
    | 3, _ =>
      refine V_swIn C 90 dX6_isSoBehind_14 (by decide) (by decide) (off := 76) (by decide +kernel) (by decide) ?_
      have b01' := anN_01 (D := q.1) (w := 3) (v := v) (cmD q.1)
      refine V_aload_n C dX6_isSoBehind_90 rfl ?_
      refine V_getR C fl_X6_35 (ob_K k1) s1 rfl dX6_isSoBehind_91 ?_
      refine V_iload C dX6_isSoBehind_94 rfl ?_
      refine V_callV (F := fun _ => True) C (c_hasLumpOfFamily k10 q3.1 hi.1 hi.2.2.1.2.2 v) mi_X1_hasLumpOfFamily ml_X6_250 rfl (ob_K kK2) (by decide) (by decide) (by decide) (Nat.le_of_ble_eq_true rfl) (fun _ _ => trivial) (fun v _ => clo_T v) rfl dX6_isSoBehind_96 ?_
      rintro v S' I' J' ⟨hS9, rfl, hI9, hJ9⟩
      obtain rfl := hS9.symm
      obtain rfl := hI9.symm
      obtain rfl := hJ9.symm
      exact V_zret C (by first | exact Or.inl rfl | exact Or.inr rfl | (simp only [bI]; split <;> first | exact Or.inl rfl | exact Or.inr rfl) | assumption) (Nat.zero_le _) (Nat.zero_le _) dX6_isSoBehind_99 (fin _ rfl)
    | 4, _ =>
      have e4 : (I3 4300 4).toInt64 = q.2.1 := q3.2.1
      refine V_swOut C 100 dX6_isSoBehind_14 (by decide) (by decide) ?_
      refine V_aload_n C dX6_isSoBehind_100 rfl ?_
      refine V_getR C fl_X6_35 (ob_K k1) s1 rfl dX6_isSoBehind_101 ?_
      refine V_getI C fl_X6_196 (ob_K kK2) rfl dX6_isSoBehind_104 ?_
      refine V_iload C dX6_isSoBehind_107 rfl ?_
      refine V_icmp_lt C 116 dX6_isSoBehind_109 (by decide) (fun h109 => ?_) (fun h109 => ?_)
      · refine V_iconst C (v := nI 0) dX6_isSoBehind_116 (by decide +kernel) ?_
        exact V_zret C (by first | exact Or.inl rfl | exact Or.inr rfl | (simp only [bI]; split <;> first | exact Or.inl rfl | exact Or.inr rfl) | assumption) (Nat.zero_le _) (Nat.zero_le _) dX6_isSoBehind_117 (fin _ (by show _ = bI (v.toInt64 ≤ q.2.1); rw [← e4]; first | (rw [bI_f (fun q => absurd (le64.mpr q) (Int32.not_le.mpr h109))]; rfl) | (rw [bI_t (le64.mp (Int32.not_lt.mp h109))]; rfl)))
      · refine V_iconst C (v := nI 1) dX6_isSoBehind_112 (by decide +kernel) ?_
        refine V_goto C 117 dX6_isSoBehind_113 (by decide) ?_
        exact V_zret C (by first | exact Or.inl rfl | exact Or.inr rfl | (simp only [bI]; split <;> first | exact Or.inl rfl | exact Or.inr rfl) | assumption) (Nat.zero_le _) (Nat.zero_le _) dX6_isSoBehind_117 (fin _ (by show _ = bI (v.toInt64 ≤ q.2.1); rw [← e4]; first | (rw [bI_f (fun q => absurd (le64.mpr q) (Int32.not_le.mpr h109))]; rfl) | (rw [bI_t (le64.mp (Int32.not_lt.mp h109))]; rfl)))
  have mid : ∀ I2 J2, CQ I2 J2 4300 z.1 → Kc I J I2 J2 → I2 1140 2 = nI e → V X P 0 0 5 [some (.ref 1100), some (.int (nI e)), some (.int (nI n)), some (.int (nI w)), some (.int v)] [] (enS S 4300) I2 J2 := by
    intro I2 J2 q2 k2 e2
    obtain ⟨G, sh4⟩ := kc_G hla hO hC k2 he e2
    have hn := hn'
    refine V_aload_n C dX6_isSoBehind_5 rfl ?_
    refine V_getR C fl_X6_30 (ob_K k1) s5 rfl dX6_isSoBehind_6 ?_
    refine V_iload_n C dX6_isSoBehind_9 rfl ?_
    refine V_callV (F := fun _ => True) C (c_go hX G (sh4.trans esh) h101 q2 hO.1.1 (n := n) (by omega)) mi_X0_go ml_X6_130 rfl (ob_K kF) (by decide) (by decide) (by decide) (Nat.le_of_ble_eq_true rfl) (fun _ _ => trivial) (fun v _ => clo_T v) rfl dX6_isSoBehind_10 ?_
    rintro v S' I3 J3 ⟨hS9, rfl, q3, f3⟩
    obtain rfl := hS9.symm
    obtain ⟨q4, k4, -⟩ := go_kc esh k2 e2 q3 f3
    exact last _ _ (by rw [hq']; exact q4) k4
  refine V_aload_n C dX6_isSoBehind_0 rfl ?_
  refine V_iload_n C dX6_isSoBehind_1 rfl ?_
  refine V_callV (F := fun _ => True) C (f_beginTry hSS0 hO cc.1 (nI e)) mi_X6_beginTry ml_X6_215 rfl (ob_K h1) (by decide) (by decide) (by decide) (Nat.le_of_ble_eq_true rfl) (fun _ _ => trivial) (fun v _ => clo_T v) rfl dX6_isSoBehind_2 ?_
  rintro v S' I2 J2 ⟨rfl, hS9, q2, k2, e2⟩
  rw [eS0] at hS9
  subst hS9
  exact mid _ _ q2 (k0.tr k2) e2
theorem ask_ex {n w v : Int32} (h : ¬ askV z.1.1 n w v = 0) : wi n (nI 0) (nI 100) ∧ wi w (nI 0) (nI 4) ∧ (w = nI 0 ∨ w = nI 1 ∨ w = nI 3 → isR z.1.1 v) := by
  unfold askV at h
  by_cases h1 : bI (nI 0 ≤ n ∧ n ≤ nI 100) = 0
  · rw [if_pos h1] at h; exact absurd rfl h
  · rw [if_neg h1] at h
    by_cases h2 : bI (nI 0 ≤ w ∧ w ≤ nI 4) = 0
    · rw [if_pos h2] at h; exact absurd rfl h
    · rw [if_neg h2] at h
      refine ⟨Decidable.not_not.mp (fun q => h1 (bI_0.mpr q)), Decidable.not_not.mp (fun q => h2 (bI_0.mpr q)), fun hw => ?_⟩
      have er : ¬ rfl_w w = 0 := by
        unfold rfl_w
        rcases hw with e | e | e
        · rw [e]; decide
        · rw [e]; decide
        · rw [e]; decide
      rw [if_neg er] at h
      exact Decidable.not_not.mp (fun q => h (bI_0.mpr q))
set_option maxRecDepth 100000 in
set_option maxHeartbeats 1000000 in
theorem f_isQ (hS : SS S la lb) (hO : OkC z) (hq : CQ I J 1500 z.1) (n w v : Int32) : Mn l yX6_isQuestion cX6_isQuestion 4 (some .boolean) 2 [.ref 1100, .int n, .int w, .int v] S I J (fun r I' J' => r = some (.int (askV z.1.1 n w v)) ∧ I' = I ∧ J' = J) := by
  refine Mn.of (by decide) (fun ad => by simp [lg_sl, vv, Value.category]) (fun X P hP hn C => ?_)
  obtain ⟨h1, ⟨r0, r1, r3, r4, r5, r6, r7⟩, hF, -, -, -, -, -, h9, h10, -⟩ := id hS
  have hK1 := h9.1
  by_cases hn0 : wi n (nI 0) (nI 100)
  · have e0 : ¬ bI (nI 0 ≤ n ∧ n ≤ nI 100) = 0 := by rw [bI_0]; exact fun q => q hn0
    unfold askV at hP
    rw [if_neg e0] at hP
    refine V_iload_n C dX6_isQuestion_0 rfl ?_
    have sw : V X P 0 0 13 [some (.ref 1100), some (.int n), some (.int w), some (.int v)] [.int w] S I J := by
      rcases pk_ix w (n := 5) (by decide) with hw | hw | ⟨j, hj, hw⟩
      · refine V_swOut C 65 dX6_isQuestion_13 (Or.inl (sw_lo hw)) (by decide) ?_
        refine V_iconst C (v := nI 0) dX6_isQuestion_65 (by decide +kernel) ?_
        exact V_zret C (by first | exact Or.inl rfl | exact Or.inr rfl | (simp only [bI]; split <;> first | exact Or.inl rfl | exact Or.inr rfl) | assumption) (Nat.zero_le _) (Nat.zero_le _) dX6_isQuestion_66 (hP _ _ _ ⟨by rw [if_pos (by first | exact bI_f (fun q => absurd q.1 (Int32.not_le.mpr hw)) | exact bI_f (fun q => absurd (Int32.le_trans hw q.2) (by decide)))]; rfl, rfl, rfl⟩)
      · refine V_swOut C 65 dX6_isQuestion_13 (Or.inr (sw_hi hw (by decide))) (by decide) ?_
        refine V_iconst C (v := nI 0) dX6_isQuestion_65 (by decide +kernel) ?_
        exact V_zret C (by first | exact Or.inl rfl | exact Or.inr rfl | (simp only [bI]; split <;> first | exact Or.inl rfl | exact Or.inr rfl) | assumption) (Nat.zero_le _) (Nat.zero_le _) dX6_isQuestion_66 (hP _ _ _ ⟨by rw [if_pos (by first | exact bI_f (fun q => absurd q.1 (Int32.not_le.mpr hw)) | exact bI_f (fun q => absurd (Int32.le_trans hw q.2) (by decide)))]; rfl, rfl, rfl⟩)
      · match j, hj, hw with
        | 0, _, hw =>
          subst hw
          refine V_swIn C 48 dX6_isQuestion_13 (by decide) (by decide) (off := 35) (by decide +kernel) (by decide) ?_
          refine V_aload_n C dX6_isQuestion_48 rfl ?_
          refine V_getR C fl_X6_10 (ob_K h1) r0 rfl dX6_isQuestion_49 ?_
          refine V_iload_n C dX6_isQuestion_52 rfl ?_
          refine V_callV (F := fun _ => True) C (c_isRing h9 hq.1 hO.1.1.1 v) mi_X1_isRing ml_X6_79 rfl (ob_K hK1) (by decide) (by decide) (by decide) (Nat.le_of_ble_eq_true rfl) (fun _ _ => trivial) (fun v _ => clo_T v) rfl dX6_isQuestion_53 ?_
          rintro v S' I' J' ⟨hS9, rfl, hI9, hJ9⟩
          obtain rfl := hS9.symm
          obtain rfl := hI9.symm
          obtain rfl := hJ9.symm
          exact V_zret C (by first | exact Or.inl rfl | exact Or.inr rfl | (simp only [bI]; split <;> first | exact Or.inl rfl | exact Or.inr rfl) | assumption) (Nat.zero_le _) (Nat.zero_le _) dX6_isQuestion_56 (hP _ _ _ ⟨rfl, rfl, rfl⟩)
        | 1, _, hw =>
          subst hw
          refine V_swIn C 48 dX6_isQuestion_13 (by decide) (by decide) (off := 35) (by decide +kernel) (by decide) ?_
          refine V_aload_n C dX6_isQuestion_48 rfl ?_
          refine V_getR C fl_X6_10 (ob_K h1) r0 rfl dX6_isQuestion_49 ?_
          refine V_iload_n C dX6_isQuestion_52 rfl ?_
          refine V_callV (F := fun _ => True) C (c_isRing h9 hq.1 hO.1.1.1 v) mi_X1_isRing ml_X6_79 rfl (ob_K hK1) (by decide) (by decide) (by decide) (Nat.le_of_ble_eq_true rfl) (fun _ _ => trivial) (fun v _ => clo_T v) rfl dX6_isQuestion_53 ?_
          rintro v S' I' J' ⟨hS9, rfl, hI9, hJ9⟩
          obtain rfl := hS9.symm
          obtain rfl := hI9.symm
          obtain rfl := hJ9.symm
          exact V_zret C (by first | exact Or.inl rfl | exact Or.inr rfl | (simp only [bI]; split <;> first | exact Or.inl rfl | exact Or.inr rfl) | assumption) (Nat.zero_le _) (Nat.zero_le _) dX6_isQuestion_56 (hP _ _ _ ⟨rfl, rfl, rfl⟩)
        | 2, _, hw =>
          subst hw
          refine V_swIn C 57 dX6_isQuestion_13 (by decide) (by decide) (off := 44) (by decide +kernel) (by decide) ?_
          refine V_iload_n C dX6_isQuestion_57 rfl ?_
          refine V_iconst C (v := nI 0) dX6_isQuestion_58 (by decide +kernel) ?_
          refine V_ldc C dX6_isQuestion_59 kc_X6_246 ?_
          refine V_callS (F := fun _ => True) C (m_isW _ _ _) ms_X6_isWithin ml_X6_71 rfl (by decide) (by decide) (Nat.le_of_ble_eq_true rfl) (fun _ _ => trivial) (fun v _ => clo_T v) rfl dX6_isQuestion_61 ?_
          rintro v S' I' J' ⟨hS9, rfl, hI9, hJ9⟩
          obtain rfl := hS9.symm
          obtain rfl := hI9.symm
          obtain rfl := hJ9.symm
          exact V_zret C (by first | exact Or.inl rfl | exact Or.inr rfl | (simp only [bI]; split <;> first | exact Or.inl rfl | exact Or.inr rfl) | assumption) (Nat.zero_le _) (Nat.zero_le _) dX6_isQuestion_64 (hP _ _ _ ⟨rfl, rfl, rfl⟩)
        | 3, _, hw =>
          subst hw
          refine V_swIn C 48 dX6_isQuestion_13 (by decide) (by decide) (off := 35) (by decide +kernel) (by decide) ?_
          refine V_aload_n C dX6_isQuestion_48 rfl ?_
          refine V_getR C fl_X6_10 (ob_K h1) r0 rfl dX6_isQuestion_49 ?_
          refine V_iload_n C dX6_isQuestion_52 rfl ?_
          refine V_callV (F := fun _ => True) C (c_isRing h9 hq.1 hO.1.1.1 v) mi_X1_isRing ml_X6_79 rfl (ob_K hK1) (by decide) (by decide) (by decide) (Nat.le_of_ble_eq_true rfl) (fun _ _ => trivial) (fun v _ => clo_T v) rfl dX6_isQuestion_53 ?_
          rintro v S' I' J' ⟨hS9, rfl, hI9, hJ9⟩
          obtain rfl := hS9.symm
          obtain rfl := hI9.symm
          obtain rfl := hJ9.symm
          exact V_zret C (by first | exact Or.inl rfl | exact Or.inr rfl | (simp only [bI]; split <;> first | exact Or.inl rfl | exact Or.inr rfl) | assumption) (Nat.zero_le _) (Nat.zero_le _) dX6_isQuestion_56 (hP _ _ _ ⟨rfl, rfl, rfl⟩)
        | 4, _, hw =>
          subst hw
          refine V_swIn C 57 dX6_isQuestion_13 (by decide) (by decide) (off := 44) (by decide +kernel) (by decide) ?_
          refine V_iload_n C dX6_isQuestion_57 rfl ?_
          refine V_iconst C (v := nI 0) dX6_isQuestion_58 (by decide +kernel) ?_
          refine V_ldc C dX6_isQuestion_59 kc_X6_246 ?_
          refine V_callS (F := fun _ => True) C (m_isW _ _ _) ms_X6_isWithin ml_X6_71 rfl (by decide) (by decide) (Nat.le_of_ble_eq_true rfl) (fun _ _ => trivial) (fun v _ => clo_T v) rfl dX6_isQuestion_61 ?_
          rintro v S' I' J' ⟨hS9, rfl, hI9, hJ9⟩
          obtain rfl := hS9.symm
          obtain rfl := hI9.symm
          obtain rfl := hJ9.symm
          exact V_zret C (by first | exact Or.inl rfl | exact Or.inr rfl | (simp only [bI]; split <;> first | exact Or.inl rfl | exact Or.inr rfl) | assumption) (Nat.zero_le _) (Nat.zero_le _) dX6_isQuestion_64 (hP _ _ _ ⟨rfl, rfl, rfl⟩)
    refine V_iconst C (v := nI 0) dX6_isQuestion_1 (by decide +kernel) ?_
    refine V_bipush C (v := nI 100) dX6_isQuestion_2 (by decide +kernel) ?_
    refine V_callS (F := fun _ => True) C (m_isW _ _ _) ms_X6_isWithin ml_X6_71 rfl (by decide) (by decide) (Nat.le_of_ble_eq_true rfl) (fun _ _ => trivial) (fun v _ => clo_T v) rfl dX6_isQuestion_4 ?_
    rintro v S' I' J' ⟨hS9, rfl, hI9, hJ9⟩
    obtain rfl := hS9.symm
    obtain rfl := hI9.symm
    obtain rfl := hJ9.symm
    refine V_if_ne C 12 dX6_isQuestion_7 (by decide) (fun h7 => ?_) (fun h7 => absurd h7 (by rw [bI_0]; exact fun q => q hn0))
    refine V_iload_n C dX6_isQuestion_12 rfl ?_
    exact sw
  · have e0 : bI (nI 0 ≤ n ∧ n ≤ nI 100) = 0 := bI_f hn0
    unfold askV at hP
    rw [if_pos e0] at hP
    refine V_iload_n C dX6_isQuestion_0 rfl ?_
    refine V_iconst C (v := nI 0) dX6_isQuestion_1 (by decide +kernel) ?_
    refine V_bipush C (v := nI 100) dX6_isQuestion_2 (by decide +kernel) ?_
    refine V_callS (F := fun _ => True) C (m_isW _ _ _) ms_X6_isWithin ml_X6_71 rfl (by decide) (by decide) (Nat.le_of_ble_eq_true rfl) (fun _ _ => trivial) (fun v _ => clo_T v) rfl dX6_isQuestion_4 ?_
    rintro v S' I' J' ⟨hS9, rfl, hI9, hJ9⟩
    obtain rfl := hS9.symm
    obtain rfl := hI9.symm
    obtain rfl := hJ9.symm
    refine V_if_ne C 12 dX6_isQuestion_7 (by decide) (fun h7 => absurd (e0) h7) (fun h7 => ?_)
    refine V_iconst C (v := nI 0) dX6_isQuestion_10 (by decide +kernel) ?_
    exact V_zret C (by first | exact Or.inl rfl | exact Or.inr rfl | (simp only [bI]; split <;> first | exact Or.inl rfl | exact Or.inr rfl) | assumption) (Nat.zero_le _) (Nat.zero_le _) dX6_isQuestion_11 (hP _ _ _ ⟨rfl, rfl, rfl⟩)
end C17
