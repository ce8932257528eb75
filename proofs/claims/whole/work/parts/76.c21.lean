/-! the class's face: fits, barred -/
section C21
variable {l : Launch} {S S' S0 : HS} {I I' Ic : HI} {J J' Jc : HJ} {z : SV} {la lb e : Nat} {q : QV}
theorem ch_up {T : List (Int32 × Int32)} {th k : Int32} {n : Nat} (h : chN T th k n = 0) : ∀ m, chN T th k (n + m) = 0
  | 0 => h
  | m + 1 => by
    show chN T th k (n + m + 1) = 0
    rw [chN, ch_up h m, if_pos rfl]
set_option maxRecDepth 100000 in
set_option maxHeartbeats 1000000 in
theorem f_isFit (hS : SS S la lb) (hO : OkC z) (hC : CR la z S I J) (k0 : Kc I J Ic Jc) (hS0 : S0 = S ∨ S0 = enS S 4300) (he : e < 16) : Mf l yX6_isFit cX6_isFit 5 (some .boolean) 6 [.ref 1100, .int (nI e)] S0 Ic Jc (fun r S' I' J' => r = some (.int (fitV z (nI e))) ∧ S' = enS S 4300 ∧ Kc I J I' J') := by
  refine Mf.of (by decide) (fun ad => by simp [lg_sl, vv, Value.category]) (fun X P hP hn C => ?_)
  have hla : la = 1160 ∨ la = 1180 := by have := hS.2.2.2.2.2.2.2.2.2.2; omega
  have hSS0 : SS S0 la lb := by rcases hS0 with rfl | rfl; exact hS; exact hS.en
  have eS0 : enS S0 4300 = enS S 4300 := by
    rcases hS0 with rfl | rfl
    · rfl
    · show (S.1, S.2.1, up2 (up2 S.2.2 1140 0 (some 4300)) 1140 0 (some 4300)) = _
      rw [up2_up2]
      rfl
  have cc := hC.ks hO hla k0
  obtain ⟨h1, ⟨r0, r1, r3, r4, r5, r6, r7⟩, hF, -, -, -, -, -, h9, h10, -⟩ := id hSS0
  obtain ⟨sh, esh, h101⟩ := hO.2.2.2.2.2.2.1
  have hS2 : SS (enS S 4300) la lb := hS.en
  have hX := hS.co (b := 4300) hS.2.2.2.2.2.2.2.2.2.1 (by omega)
  obtain ⟨k1, ⟨s0, s1, s3, s4, s5, s6, s7⟩, kF, -, -, -, -, -, k9, k10, -⟩ := id hS2
  have kK2 := k10.1
  obtain ⟨T, hT⟩ : ∃ T, T = z.2.2.2.2 := ⟨_, rfl⟩
  have hlen : T.length ≤ 10 := by rw [hT]; exact hO.2.2.2.2.2.2.2.1
  obtain ⟨ls, hls, hls2⟩ := lsT_ex (T := T) (by rw [hT]; exact hO.2.2.2.2.2.2.2.2.1) T.length (Nat.le_refl _)
  have hP' : ∀ I' J', Kc I J I' J' → ∀ v, v = fitN (stZ z (nI e)) T (ls + 1) 0 z.1 → P (some (.int v)) (enS S 4300) I' J' := fun I' J' k v hv => hP _ _ _ _ ⟨by rw [hv, fitV, ← hT, hls, show cl (nI ls) = ls from nI_clamp (by omega)], rfl, k⟩
  clear hP
  have outer : ∀ (c k : Nat) (In : HI) (Jn : HJ) (q' q : QV) (x4 : Option Value), k + c = ls + 1 → Kc I J In Jn → In 1140 2 = nI e → CQ In Jn 4300 q' → iOk q' → (k = 0 → q' = q) → (¬ k = 0 → stZ z (nI e) q' = q) → (∀ v, v = fitN (stZ z (nI e)) T c k q → v = fitN (stZ z (nI e)) T (ls + 1) 0 z.1) → V X P 0 0 36 [some (.ref 1100), some (.int (nI e)), some (.int (nI ls)), some (.int (nI k)), x4] [] (enS S 4300) In Jn := by
    intro c
    induction c with
    | zero =>
      intro k In Jn q' q x4 hk kk e2 hq hi ha hb hv
      refine V_iload_n C dX6_isFit_36 rfl ?_
      refine V_iload_n C dX6_isFit_37 rfl ?_
      refine V_icmp_gt C 107 dX6_isFit_38 (by decide) (fun h38 => ?_) (fun h38 => absurd (nI_lt (by omega) (by omega)) h38)
      refine V_iconst C (v := nI 1) dX6_isFit_107 (by decide +kernel) ?_
      exact V_zret C (by first | exact Or.inl rfl | exact Or.inr rfl | (simp only [bI]; split <;> first | exact Or.inl rfl | exact Or.inr rfl) | assumption) (Nat.zero_le _) (Nat.zero_le _) dX6_isFit_108 (hP' _ _ kk _ (hv _ rfl))
    | succ c ih =>
      intro k In Jn q' q x4 hk kk e2 hq hi ha hb hv
      have inner : ∀ I2 J2, Kc I J I2 J2 → I2 1140 2 = nI e → CQ I2 J2 4300 q → iOk q → ∀ (d x : Nat), x + d = T.length → ¬ chN T (thD q.1) (nI k) x = 0 → V X P 0 0 56 [some (.ref 1100), some (.int (nI e)), some (.int (nI ls)), some (.int (nI k)), some (.int (nI x))] [] (enS S 4300) I2 J2 := by
        intro I2 J2 k2 e3 hq2 hi2 d
        have e87 : I2 4300 7 = thD q.1 := hq2.1.1.2.2.2.2.2
        obtain ⟨t0, t1⟩ := (hC.ks hO hla k2).2.2.2.2.2.2.2
        rw [← hT] at t0 t1
        induction d with
        | zero =>
          intro x hx hc
          have hx : x = T.length := hx
          subst hx
          have nx := ih (k + 1) I2 J2 q (stZ z (nI e) q) (some (.int (nI T.length))) (by omega) k2 e3 hq2 hi2 (fun q => absurd q (by omega)) (fun _ => rfl) (fun v hv2 => hv v (by rw [fitN, if_neg hc]; exact hv2))
          refine V_iload C dX6_isFit_56 rfl ?_
          refine V_aload_n C dX6_isFit_58 rfl ?_
          refine V_getI C fl_X6_224 (ob_K k1) rfl dX6_isFit_59 ?_
          rw [t0]
          refine V_icmp_ge C 101 dX6_isFit_62 (by decide) (fun h62 => ?_) (fun h62 => absurd (Int32.le_refl _) h62)
          refine V_iincU C dX6_isFit_101 rfl (hn _ (by decide)) ?_
          refine V_goto C 36 dX6_isFit_104 (by decide) ?_
          exact nx
        | succ d ih2 =>
          intro x hx hc
          obtain ⟨t1x, t2x⟩ := t1 x (by omega)
          have nx := fun h => ih2 (x + 1) (by omega) h
          have hno : ¬ thD q.1 = (T.getD x (0, 0)).1 → (T.getD x (0, 0)).2 = nI k → chN T (thD q.1) (nI k) T.length = 0 := by
            intro g1 g2
            have h3 : chN T (thD q.1) (nI k) (x + 1) = 0 := by rw [chN, if_neg hc, if_pos g2, if_neg g1]
            have h4 := ch_up h3 d
            rw [show x + 1 + d = T.length by omega] at h4
            exact h4
          refine V_iload C dX6_isFit_56 rfl ?_
          refine V_aload_n C dX6_isFit_58 rfl ?_
          refine V_getI C fl_X6_224 (ob_K k1) rfl dX6_isFit_59 ?_
          rw [t0]
          refine V_icmp_ge C 101 dX6_isFit_62 (by decide) (fun h62 => absurd h62 (nI_ge (by omega) (by omega))) (fun h62 => ?_)
          refine V_aload_n C dX6_isFit_65 rfl ?_
          refine V_getR C fl_X6_64 (ob_K k1) (ob_R k1 10 1111 rfl rfl) rfl dX6_isFit_66 ?_
          refine V_iload C dX6_isFit_69 rfl ?_
          refine V_iald C (x) (ob_A k1 10 1111 rfl rfl) (by first | rfl | (simp only [nI_add, pk_mul]; done) | (simp only [nI_add, pk_mul]; congr 1; omega)) (by rw [ob_N k1 10 1111 rfl rfl]; omega) (by rw [ob_N k1 10 1111 rfl rfl]; decide) dX6_isFit_71 ?_
          rw [t2x]
          refine V_iload_n C dX6_isFit_72 rfl ?_
          refine V_icmp_ne C 95 dX6_isFit_73 (by decide) (fun h73 => ?_) (fun h73 => ?_)
          · refine V_iincU C dX6_isFit_95 rfl (hn _ (by decide)) ?_
            refine V_goto C 56 dX6_isFit_98 (by decide) ?_
            first | exact nx (by rw [chN, if_neg hc, if_neg h73]; decide) | exact nx (by rw [chN, if_neg hc, if_pos h73, if_pos h90.symm]; decide)
          · refine V_aload_n C dX6_isFit_76 rfl ?_
            refine V_getR C fl_X6_60 (ob_K k1) (ob_R k1 9 1110 rfl rfl) rfl dX6_isFit_77 ?_
            refine V_iload C dX6_isFit_80 rfl ?_
            refine V_iald C (x) (ob_A k1 9 1110 rfl rfl) (by first | rfl | (simp only [nI_add, pk_mul]; done) | (simp only [nI_add, pk_mul]; congr 1; omega)) (by rw [ob_N k1 9 1110 rfl rfl]; omega) (by rw [ob_N k1 9 1110 rfl rfl]; decide) dX6_isFit_82 ?_
            rw [t1x]
            refine V_aload_n C dX6_isFit_83 rfl ?_
            refine V_getR C fl_X6_35 (ob_K k1) s1 rfl dX6_isFit_84 ?_
            refine V_getI C fl_X6_218 (ob_K kK2) rfl dX6_isFit_87 ?_
            rw [e87]
            refine V_icmp_eq C 95 dX6_isFit_90 (by decide) (fun h90 => ?_) (fun h90 => ?_)
            · refine V_iincU C dX6_isFit_95 rfl (hn _ (by decide)) ?_
              refine V_goto C 56 dX6_isFit_98 (by decide) ?_
              first | exact nx (by rw [chN, if_neg hc, if_neg h73]; decide) | exact nx (by rw [chN, if_neg hc, if_pos h73, if_pos h90.symm]; decide)
            · refine V_iconst C (v := nI 0) dX6_isFit_93 (by decide +kernel) ?_
              exact V_zret C (by first | exact Or.inl rfl | exact Or.inr rfl | (simp only [bI]; split <;> first | exact Or.inl rfl | exact Or.inr rfl) | assumption) (Nat.zero_le _) (Nat.zero_le _) dX6_isFit_94 (hP' _ _ k2 _ (hv _ (by rw [fitN, if_pos (hno (fun g => h90 g.symm) h73)]; rfl)))
      have start : ∀ I2 J2, Kc I J I2 J2 → I2 1140 2 = nI e → CQ I2 J2 4300 q → iOk q → V X P 0 0 53 [some (.ref 1100), some (.int (nI e)), some (.int (nI ls)), some (.int (nI k)), x4] [] (enS S 4300) I2 J2 := by
        intro I2 J2 k2 e3 hq2 hi2
        refine V_iconst C (v := nI 0) dX6_isFit_53 (by decide +kernel) ?_
        refine V_istore C dX6_isFit_54 (hn _ (by decide)) ?_
        exact inner _ _ k2 e3 hq2 hi2 _ 0 (Nat.zero_add _) (show ¬ (1 : Int32) = 0 by decide)
      by_cases h0 : k = 0
      · obtain rfl := ha h0
        refine V_iload_n C dX6_isFit_36 rfl ?_
        refine V_iload_n C dX6_isFit_37 rfl ?_
        refine V_icmp_gt C 107 dX6_isFit_38 (by decide) (fun h38 => absurd h38 (Int32.not_lt.mpr (nI_le (by omega) (by omega)))) (fun h38 => ?_)
        refine V_iload_n C dX6_isFit_41 rfl ?_
        refine V_if_le C 53 dX6_isFit_42 (by decide) (fun h42 => ?_) (fun h42 => absurd (by rw [h0]; decide) h42)
        exact start _ _ kk e2 hq hi
      · obtain ⟨G, sh4⟩ := kc_G hla hO hC kk he e2
        have hb' := hb h0
        refine V_iload_n C dX6_isFit_36 rfl ?_
        refine V_iload_n C dX6_isFit_37 rfl ?_
        refine V_icmp_gt C 107 dX6_isFit_38 (by decide) (fun h38 => absurd h38 (Int32.not_lt.mpr (nI_le (by omega) (by omega)))) (fun h38 => ?_)
        refine V_iload_n C dX6_isFit_41 rfl ?_
        refine V_if_le C 53 dX6_isFit_42 (by decide) (fun h42 => absurd h42 (Int32.not_le.mpr (nI_lt (a := 0) (by omega) (by omega)))) (fun h42 => ?_)
        refine V_aload_n C dX6_isFit_45 rfl ?_
        refine V_getR C fl_X6_30 (ob_K k1) s5 rfl dX6_isFit_46 ?_
        refine V_iconst C (v := nI 1) dX6_isFit_49 (by decide +kernel) ?_
        refine V_callV (F := fun _ => True) C (c_go hX G (sh4.trans esh) h101 hq hi (n := 1) (by omega)) mi_X0_go ml_X6_130 rfl (ob_K kF) (by decide) (by decide) (by decide) (Nat.le_of_ble_eq_true rfl) (fun _ _ => trivial) (fun v _ => clo_T v) rfl dX6_isFit_50 ?_
        rintro v S' I3 J3 ⟨hS9, rfl, q3, f3⟩
        obtain rfl := hS9.symm
        obtain ⟨q4, k4, e4⟩ := go_kc esh kk e2 q3 f3
        exact start _ _ k4 e4 (by rw [← hb']; exact q4) (by rw [← hb']; exact itZ_i hO 1 _ hi)
  have mid : ∀ (x3 x4 : Option Value), V X P 0 0 29 [some (.ref 1100), some (.int (nI e)), some (.int (nI ls)), x3, x4] [] S0 Ic Jc := by
    intro x3 x4
    refine V_aload_n C dX6_isFit_29 rfl ?_
    refine V_iload_n C dX6_isFit_30 rfl ?_
    refine V_callV (F := fun _ => True) C (f_beginTry hSS0 hO cc.1 (nI e)) mi_X6_beginTry ml_X6_215 rfl (ob_K h1) (by decide) (by decide) (by decide) (Nat.le_of_ble_eq_true rfl) (fun _ _ => trivial) (fun v _ => clo_T v) rfl dX6_isFit_31 ?_
    rintro v S' I2 J2 ⟨rfl, hS9, q2, k2, e2⟩
    rw [eS0] at hS9
    subst hS9
    refine V_iconst C (v := nI 0) dX6_isFit_34 (by decide +kernel) ?_
    refine V_istore_n C dX6_isFit_35 (hn _ (by decide)) ?_
    exact outer _ 0 _ _ _ _ _ (Nat.zero_add _) (k0.tr k2) e2 q2 hO.1.1 (fun _ => rfl) (fun q => absurd rfl q) (fun _ h => h)
  obtain ⟨t0, t1⟩ := cc.2.2.2.2.2.2.2
  rw [← hT] at t0 t1
  have first : ∀ (d x : Nat) (x4 : Option Value), x + d = T.length → V X P 0 0 4 [some (.ref 1100), some (.int (nI e)), some (.int (lsT T x)), some (.int (nI x)), x4] [] S0 Ic Jc := by
    intro d
    induction d with
    | zero =>
      intro x x4 hx
      have hx : x = T.length := hx
      subst hx
      rw [hls]
      refine V_iload_n C dX6_isFit_4 rfl ?_
      refine V_aload_n C dX6_isFit_5 rfl ?_
      refine V_getI C fl_X6_224 (ob_K h1) rfl dX6_isFit_6 ?_
      rw [t0]
      refine V_icmp_ge C 29 dX6_isFit_9 (by decide) (fun h9 => ?_) (fun h9 => absurd (Int32.le_refl _) h9)
      exact mid _ _
    | succ d ih =>
      intro x x4 hx
      obtain ⟨t1x, t2x⟩ := t1 x (by omega)
      have em : lsT T (x + 1) = if lsT T x < (T.getD x (0, 0)).2 then (T.getD x (0, 0)).2 else lsT T x := by
        rw [lsT]
        by_cases g : (T.getD x (0, 0)).2 ≤ lsT T x
        · rw [if_pos g, if_neg (Int32.not_lt.mpr g)]
        · rw [if_neg g, if_pos (Int32.not_le.mp g)]
      have nx := ih (x + 1) x4 (by omega)
      rw [em] at nx
      refine V_iload_n C dX6_isFit_4 rfl ?_
      refine V_aload_n C dX6_isFit_5 rfl ?_
      refine V_getI C fl_X6_224 (ob_K h1) rfl dX6_isFit_6 ?_
      rw [t0]
      refine V_icmp_ge C 29 dX6_isFit_9 (by decide) (fun h9 => absurd h9 (nI_ge (by omega) (by omega))) (fun h9 => ?_)
      refine V_iload_n C dX6_isFit_12 rfl ?_
      refine V_aload_n C dX6_isFit_13 rfl ?_
      refine V_getR C fl_X6_64 (ob_K h1) (ob_R h1 10 1111 rfl rfl) rfl dX6_isFit_14 ?_
      refine V_iload_n C dX6_isFit_17 rfl ?_
      refine V_iald C (x) (ob_A h1 10 1111 rfl rfl) (by first | rfl | (simp only [nI_add, pk_mul]; done) | (simp only [nI_add, pk_mul]; congr 1; omega)) (by rw [ob_N h1 10 1111 rfl rfl]; omega) (by rw [ob_N h1 10 1111 rfl rfl]; decide) dX6_isFit_18 ?_
      rw [t2x]
      refine V_max C ml_X6_257 (by decide) (by decide) (Nat.zero_le _) (Nat.zero_le _) dX6_isFit_19 ?_
      refine V_istore_n C dX6_isFit_22 (hn _ (by decide)) ?_
      refine V_iincU C dX6_isFit_23 rfl (hn _ (by decide)) ?_
      refine V_goto C 4 dX6_isFit_26 (by decide) ?_
      exact nx
  refine V_iconst C (v := nI 0) dX6_isFit_0 (by decide +kernel) ?_
  refine V_istore_n C dX6_isFit_1 (hn _ (by decide)) ?_
  refine V_iconst C (v := nI 0) dX6_isFit_2 (by decide +kernel) ?_
  refine V_istore_n C dX6_isFit_3 (hn _ (by decide)) ?_
  exact first _ 0 _ (Nat.zero_add _)
set_option maxRecDepth 100000 in
theorem f_fits (hR : ClsR z S I J) (hO : OkC z) (g : Int32) : Mf l yX6_fits cX6_fits 2 (some .int) 7 [.ref 1100, .int g] S I J (fun v S' I' J' => v = some (.int (if isE z g then (if fitV z g = 0 then 0 else 1) else -1)) ∧ ClsR z S' I' J') := by
  refine Mf.of (by decide) (fun ad => by simp [lg_sl, vv, Value.category]) (fun X P hP hn C => ?_)
  obtain ⟨la, lb, hS, hC⟩ := hR
  have h1 := hS.1
  have last : isE z g → V X P 0 0 10 [some (.ref 1100), some (.int g)] [] S I J := by
    intro o1
    obtain ⟨e, he, he2, ee⟩ := isE_ex hO.2.2.2.2.2.1 o1
    subst ee
    refine V_aload_n C dX6_fits_10 rfl ?_
    refine V_iload_n C dX6_fits_11 rfl ?_
    refine V_callV (F := fun _ => True) C (f_isFit hS hO hC Kc.re (Or.inl rfl) he) mi_X6_isFit ml_X6_227 rfl (ob_K h1) (by decide) (by decide) (by decide) (Nat.le_of_ble_eq_true rfl) (fun _ _ => trivial) (fun v _ => clo_T v) rfl dX6_fits_12 ?_
    rintro v S' I2 J2 ⟨rfl, hS9, k2⟩
    subst hS9
    refine V_if_eq C 22 dX6_fits_15 (by decide) (fun h15 => ?_) (fun h15 => ?_)
    · refine V_iconst C (v := nI 0) dX6_fits_22 (by decide +kernel) ?_
      exact V_iret C (Nat.zero_le _) (Nat.zero_le _) dX6_fits_23 (hP _ _ _ _ ⟨by rw [if_pos o1]; first | (rw [if_pos h15]; rfl) | (rw [if_neg h15]; rfl), hC.cls hS hO k2 (Or.inr rfl)⟩)
    · refine V_iconst C (v := nI 1) dX6_fits_18 (by decide +kernel) ?_
      refine V_goto C 23 dX6_fits_19 (by decide) ?_
      exact V_iret C (Nat.zero_le _) (Nat.zero_le _) dX6_fits_23 (hP _ _ _ _ ⟨by rw [if_pos o1]; first | (rw [if_pos h15]; rfl) | (rw [if_neg h15]; rfl), hC.cls hS hO k2 (Or.inr rfl)⟩)
  refine V_aload_n C dX6_fits_0 rfl ?_
  refine V_iload_n C dX6_fits_1 rfl ?_
  refine V_callV (F := fun _ => True) C (f_isEnd hS hC.2.2.1 hO.2.2.2.2.2.1 g) mi_X6_isEnd ml_X6_123 rfl (ob_K h1) (by decide) (by decide) (by decide) (Nat.le_of_ble_eq_true rfl) (fun _ _ => trivial) (fun v _ => clo_T v) rfl dX6_fits_2 ?_
  rintro v S' I' J' ⟨hS9, rfl, hI9, hJ9⟩
  obtain rfl := hS9.symm
  obtain rfl := hI9.symm
  obtain rfl := hJ9.symm
  refine V_if_ne C 10 dX6_fits_5 (by decide) (fun h5 => ?_) (fun h5 => ?_)
  · exact last (Decidable.not_not.mp (fun q => h5 (bI_0.mpr q)))
  · refine V_iconst C (v := (-1)) dX6_fits_8 (by decide +kernel) ?_
    exact V_iret C (Nat.zero_le _) (Nat.zero_le _) dX6_fits_9 (hP _ _ _ _ ⟨by rw [if_neg (bI_0.mp h5)], la, lb, hS, hC⟩)
set_option maxRecDepth 100000 in
set_option maxHeartbeats 1000000 in
theorem f_barred (hR : ClsR z S I J) (hO : OkC z) (i s : Int32) : Mf l yX6_barred cX6_barred 5 (some .int) 7 [.ref 1100, .int i, .int s] S I J (fun v S' I' J' => v = some (.int (barV z i s)) ∧ ClsR z S' I' J') := by
  refine Mf.of (by decide) (fun ad => by simp [lg_sl, vv, Value.category]) (fun X P hP hn C => ?_)
  obtain ⟨la, lb, hS, hC⟩ := hR
  obtain ⟨h1, ⟨r0, r1, r3, r4, r5, r6, r7⟩, hF, -, -, -, hLa, -, h9, h10, -⟩ := id hS
  obtain ⟨hE, hE2, hE0⟩ := eN_ex (z := z) hO.2.2.2.2.2.1
  have loop : ∀ (c e : Nat) (S0 : HS) (In : HI) (Jn : HJ), e + c = 2 ^ opN z.2.2.1.1 → (S0 = S ∨ S0 = enS S 4300) → Kc I J In Jn → (∀ v, v = brN z i s c e → v = barV z i s) → V X P 0 0 39 [some (.ref 1100), some (.int i), some (.int s), some (.int (nI (2 ^ opN z.2.2.1.1))), some (.int (nI e))] [] S0 In Jn := by
    intro c
    induction c with
    | zero =>
      intro e S0 In Jn hx hS0 kk hv
      have hx : e = 2 ^ opN z.2.2.1.1 := hx
      have hcl := hC.cls hS hO kk hS0
      refine V_iload C dX6_barred_39 rfl ?_
      refine V_iload_n C dX6_barred_41 rfl ?_
      refine V_icmp_ge C 72 dX6_barred_42 (by decide) (fun h42 => ?_) (fun h42 => absurd (by rw [hx]; exact Int32.le_refl _) h42)
      refine V_iconst C (v := nI 1) dX6_barred_72 (by decide +kernel) ?_
      exact V_iret C (Nat.zero_le _) (Nat.zero_le _) dX6_barred_73 (hP _ _ _ _ ⟨by rw [← hv _ rfl]; rfl, hcl⟩)
    | succ c ih =>
      intro e S0 In Jn hx hS0 kk hv
      have j1 : Ob S0 6 1100 := by rcases hS0 with rfl | rfl; exact h1; exact h1.en (Or.inl (by omega))
      refine V_iload C dX6_barred_39 rfl ?_
      refine V_iload_n C dX6_barred_41 rfl ?_
      refine V_icmp_ge C 72 dX6_barred_42 (by decide) (fun h42 => absurd h42 (nI_ge (by omega) (by omega))) (fun h42 => ?_)
      refine V_iload C dX6_barred_45 rfl ?_
      refine V_iload_n C dX6_barred_47 rfl ?_
      refine V_ishr C dX6_barred_48 ?_
      refine V_iconst C (v := nI 1) dX6_barred_49 (by decide +kernel) ?_
      refine V_iand C dX6_barred_50 ?_
      refine V_iload_n C dX6_barred_51 rfl ?_
      refine V_icmp_ne C 66 dX6_barred_52 (by decide) (fun h52 => ?_) (fun h52 => ?_)
      · refine V_iincU C dX6_barred_66 rfl (hn _ (by decide)) ?_
        refine V_goto C 39 dX6_barred_69 (by decide) ?_
        first | exact ih (e + 1) _ _ _ (by omega) hS0 kk (fun v q => hv v (by rw [brN, if_neg h52]; exact q)) | exact ih (e + 1) _ _ _ (by omega) (Or.inr rfl) k2 (fun v q => hv v (by rw [brN, if_pos h52, if_pos h61]; exact q))
      · refine V_aload_n C dX6_barred_55 rfl ?_
        refine V_iload C dX6_barred_56 rfl ?_
        refine V_callV (F := fun _ => True) C (f_isFit hS hO hC kk hS0 (e := e) (by omega)) mi_X6_isFit ml_X6_227 rfl (ob_K j1) (by decide) (by decide) (by decide) (Nat.le_of_ble_eq_true rfl) (fun _ _ => trivial) (fun v _ => clo_T v) rfl dX6_barred_58 ?_
        rintro v S' I2 J2 ⟨rfl, hS9, k2⟩
        subst hS9
        refine V_if_eq C 66 dX6_barred_61 (by decide) (fun h61 => ?_) (fun h61 => ?_)
        · refine V_iincU C dX6_barred_66 rfl (hn _ (by decide)) ?_
          refine V_goto C 39 dX6_barred_69 (by decide) ?_
          first | exact ih (e + 1) _ _ _ (by omega) hS0 kk (fun v q => hv v (by rw [brN, if_neg h52]; exact q)) | exact ih (e + 1) _ _ _ (by omega) (Or.inr rfl) k2 (fun v q => hv v (by rw [brN, if_pos h52, if_pos h61]; exact q))
        · refine V_iconst C (v := nI 0) dX6_barred_64 (by decide +kernel) ?_
          exact V_iret C (Nat.zero_le _) (Nat.zero_le _) dX6_barred_65 (hP _ _ _ _ ⟨by rw [← hv _ rfl, brN, if_pos h52, if_neg h61]; rfl, hC.cls hS hO k2 (Or.inr rfl)⟩)
  have e6 : I la 1 = nI (opN z.2.2.1.1) := hC.2.2.1.2.1
  have hE' : nI 1 <<< (nI (opN z.2.2.1.1) &&& 31) = nI (2 ^ opN z.2.2.1.1) := hE
  refine V_iload_n C dX6_barred_0 rfl ?_
  refine V_iconst C (v := nI 0) dX6_barred_1 (by decide +kernel) ?_
  refine V_aload_n C dX6_barred_2 rfl ?_
  refine V_getR C fl_X6_42 (ob_K h1) r6 rfl dX6_barred_3 ?_
  refine V_getI C fl_X6_230 (ob_K hLa) rfl dX6_barred_6 ?_
  rw [e6]
  refine V_iconst C (v := nI 1) dX6_barred_9 (by decide +kernel) ?_
  refine V_isub C dX6_barred_10 ?_
  refine V_callS (F := fun _ => True) C (m_isW _ _ _) ms_X6_isWithin ml_X6_71 rfl (by decide) (by decide) (Nat.le_of_ble_eq_true rfl) (fun _ _ => trivial) (fun v _ => clo_T v) rfl dX6_barred_11 ?_
  rintro v S' I' J' ⟨hS9, rfl, hI9, hJ9⟩
  obtain rfl := hS9.symm
  obtain rfl := hI9.symm
  obtain rfl := hJ9.symm
  refine V_if_eq C 26 dX6_barred_14 (by decide) (fun h14 => ?_) (fun h14 => ?_)
  · refine V_iconst C (v := (-1)) dX6_barred_26 (by decide +kernel) ?_
    exact V_iret C (Nat.zero_le _) (Nat.zero_le _) dX6_barred_27 (hP _ _ _ _ (by have no : ¬ okBar z i s := (by first | exact fun q => (bI_0.mp h14) q.1 | exact fun q => (bI_0.mp h23) q.2); exact ⟨by rw [barV, if_neg no], la, lb, hS, hC⟩))
  · refine V_iload_n C dX6_barred_17 rfl ?_
    refine V_iconst C (v := nI 0) dX6_barred_18 (by decide +kernel) ?_
    refine V_iconst C (v := nI 1) dX6_barred_19 (by decide +kernel) ?_
    refine V_callS (F := fun _ => True) C (m_isW _ _ _) ms_X6_isWithin ml_X6_71 rfl (by decide) (by decide) (Nat.le_of_ble_eq_true rfl) (fun _ _ => trivial) (fun v _ => clo_T v) rfl dX6_barred_20 ?_
    rintro v S' I' J' ⟨hS9, rfl, hI9, hJ9⟩
    obtain rfl := hS9.symm
    obtain rfl := hI9.symm
    obtain rfl := hJ9.symm
    refine V_if_ne C 28 dX6_barred_23 (by decide) (fun h23 => ?_) (fun h23 => ?_)
    · refine V_aload_n C dX6_barred_28 rfl ?_
      refine V_getR C fl_X6_42 (ob_K h1) r6 rfl dX6_barred_29 ?_
      refine V_callV (F := fun _ => True) C (c_howManyEnds hLa hC.2.2.1) mi_X2_howManyEnds ml_X6_211 rfl (ob_K hLa) (by decide) (by decide) (by decide) (Nat.le_of_ble_eq_true rfl) (fun _ _ => trivial) (fun v _ => clo_T v) rfl dX6_barred_32 ?_
      rintro v S' I' J' ⟨hS9, rfl, hI9, hJ9⟩
      obtain rfl := hS9.symm
      obtain rfl := hI9.symm
      obtain rfl := hJ9.symm
      rw [hE']
      refine V_istore_n C dX6_barred_35 (hn _ (by decide)) ?_
      refine V_iconst C (v := nI 0) dX6_barred_36 (by decide +kernel) ?_
      refine V_istore C dX6_barred_37 (hn _ (by decide)) ?_
      have ok : okBar z i s := ⟨Decidable.not_not.mp (fun q => h14 (bI_0.mpr q)), Decidable.not_not.mp (fun q => h23 (bI_0.mpr q))⟩
      exact loop _ 0 _ _ _ (Nat.zero_add _) (Or.inl rfl) Kc.re (fun v q => by rw [barV, if_pos ok]; exact q)
    · refine V_iconst C (v := (-1)) dX6_barred_26 (by decide +kernel) ?_
      exact V_iret C (Nat.zero_le _) (Nat.zero_le _) dX6_barred_27 (hP _ _ _ _ (by have no : ¬ okBar z i s := (by first | exact fun q => (bI_0.mp h14) q.1 | exact fun q => (bI_0.mp h23) q.2); exact ⟨by rw [barV, if_neg no], la, lb, hS, hC⟩))
end C21
