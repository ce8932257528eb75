/-! the class's face: the tape, feed, has -/
section C22
variable {l : Launch} {S S' S0 : HS} {I I' Ic : HI} {J J' Jc : HJ} {z : SV} {la lb e : Nat} {q : QV}
theorem CR.tp {T : List Int32} (hla : la = 1160 ∨ la = 1180) (h : CR la z S I J) (r : ∀ a, a ≠ 1120 → a ≠ 1122 → I' a = I a) (et : tpK I' T) : CR la (setP z T) S I' J := by
  obtain ⟨g1, g2, g3, g4, g5, g6, g7, g8⟩ := h
  have sm : ∀ {b : Nat} {q : QV}, 1500 ≤ b → CQ I J b q → CQ I' J b q := fun {b q} hb hq => by
    obtain ⟨⟨a1, a2, a3, a4⟩, a5, a6⟩ := hq
    refine ⟨⟨by rw [r b (by omega) (by omega)]; exact a1, fun k hk => by rw [r (b + 9) (by omega) (by omega), r (b + 10) (by omega) (by omega), r (b + 11) (by omega) (by omega)]; exact a2 k hk, fun k hk => by rw [r (b + 12) (by omega) (by omega)]; exact a3 k hk, fun u hu => (a4 u hu).cg (r _ (by omega) (by omega)) (r _ (by omega) (by omega)) (fun _ _ _ => rfl)⟩, by rw [r b (by omega) (by omega)]; exact a5, by rw [r b (by omega) (by omega)]; exact a6⟩
  refine ⟨sm (by omega) g1, fun m hm => ?_, g3.cg (fun x _ => by rw [r la (by omega) (by omega)]) (fun a q1 q2 => r a (by omega) (by omega)), by rw [r 1100 (by omega) (by omega)]; exact g4, by rw [r 1140 (by omega) (by omega)]; exact g5, by rw [r 1140 (by omega) (by omega)]; exact g6, et, by show tdK I' z.2.2.2.2; unfold tdK; rw [r 1100 (by omega) (by omega), r 1110 (by omega) (by omega), r 1111 (by omega) (by omega)]; exact g8⟩
  have hm2 := g2 m hm
  show mkC (setP z T) S I' J m
  unfold mkC at hm2 ⊢
  show (match z.2.1 m with | none => S.2.2 1103 m = none ∧ ∀ a, 1900 + 400 * m ≤ a → a < 2300 + 400 * m → S.1 a = 0 | some q => S.2.2 1103 m = some (1900 + 400 * m) ∧ Dk S (1900 + 400 * m) ∧ CQ I' J (1900 + 400 * m) q)
  cases hz : z.2.1 m with
  | none => rw [hz] at hm2; exact hm2
  | some q => rw [hz] at hm2; exact ⟨hm2.1, hm2.2.1, sm (by omega) hm2.2.2⟩
theorem ch_all : ∀ m, m < 127 → vp_nar .char ((nI m).toUInt32 % 65536).toInt32 = nI m := by decide +kernel
theorem ch_b {b : Int32} (h : okB b) : vp_nar .char (b.toUInt32 % 65536).toInt32 = b := by
  obtain ⟨m, hm, e⟩ : ∃ m, m < 127 ∧ b = nI m := by
    rcases h with e | ⟨h1, h2⟩
    · exact ⟨10, by omega, e⟩
    · obtain ⟨x, hx, e⟩ := nI_ofge (Int32.le_trans (show (0 : Int32) ≤ nI 32 by decide) h1)
      refine ⟨x, ?_, e⟩
      rw [e] at h2
      rcases Nat.lt_or_ge x 127 with g | g
      · exact g
      · exact absurd h2 (Int32.not_le.mpr (nI_lt (by omega) hx))
  rw [e]
  exact ch_all m hm
set_option maxRecDepth 100000 in
set_option maxHeartbeats 1000000 in
theorem c_addBytes (hM : Ob S 5 1120) {T0 : List Int32} (hT : tpK I T0) (h1000 : T0.length ≤ 1000) (v : Int64) : Mn l yX5_addBytes cX5_addBytes 5 none 1 [.ref 1120, .long v] S I J (fun r I' J' => r = none ∧ tpK I' (layN T0 v 8) ∧ (∀ a, a ≠ 1120 → a ≠ 1122 → I' a = I a) ∧ J' = J) := by
  refine Mn.of (by decide) (fun ad => by simp [lg_sl, vv, Value.category]) (fun X P hP hn C => ?_)
  have loop : ∀ (c x : Nat) (In : HI) (x4 : Option Value), x + c = 8 → tpK In (layN T0 v x) → (∀ a, a ≠ 1120 → a ≠ 1122 → In a = I a) → V X P 0 0 3 [some (.ref 1120), some (.long v), none, some (.int (kv x)), x4] [] S In J := by
    intro c
    induction c with
    | zero =>
      intro x In x4 hx ht hr
      have hx : x = 8 := hx
      subst hx
      refine V_iload_n C dX5_addBytes_3 rfl ?_
      refine V_if_lt C 74 dX5_addBytes_4 (by decide) (fun h4 => ?_) (fun h4 => absurd (by decide) h4)
      exact V_vret C (Nat.zero_le _) (Nat.zero_le _) dX5_addBytes_74 (hP _ _ _ ⟨rfl, ht, hr, rfl⟩)
    | succ c ih =>
      intro x In x4 hx ht hr
      have nx := fun (I2 : HI) (h : tpK I2 (layN T0 v (x + 1))) (h' : ∀ a, a ≠ 1120 → a ≠ 1122 → I2 a = I a) x4 => ih (x + 1) I2 x4 (by omega) h h'
      have hl := layN_len (v := v) h1000 x
      rw [layN] at nx
      obtain ⟨T, eT⟩ : ∃ T, T = layN T0 v x := ⟨_, rfl⟩
      obtain ⟨b, eb⟩ : ∃ b, b = byV v x := ⟨_, rfl⟩
      rw [← eT, ← eb] at nx
      rw [← eT] at ht hl
      have ht0 := ht
      obtain ⟨t1, t2⟩ := ht
      have skip : ∀ x4, ¬ (okB b ∧ T.length < 1000) → V X P 0 0 68 [some (.ref 1120), some (.long v), none, some (.int (kv x)), x4] [] S In J := by
        intro x4 no
        rw [appT, if_neg no] at nx
        refine V_iinc C dX5_addBytes_68 rfl (hn _ (by decide)) ?_
        refine V_goto C 3 dX5_addBytes_71 (by decide) ?_
        rw [kv_s]
        exact nx _ ht0 hr _
      have put : okB b → V X P 0 0 36 [some (.ref 1120), some (.long v), none, some (.int (kv x)), some (.int b)] [] S In J := by
        intro ob
        by_cases hlt : T.length < 1000
        · have ec := ch_b ob
          have fin : tpK (up2 (up2 In 1122 T.length b) 1120 0 (In 1120 0 + nI 1)) (appT T b) := by
            rw [appT, if_pos ⟨ob, hlt⟩]
            refine ⟨?_, fun i hi => ?_⟩
            · rw [up2_row, va_up_self, t1, nI_add, List.length_append]
              rfl
            · rw [List.length_append] at hi
              have hi : i < T.length + 1 := hi
              show va_up (In 1122) T.length b i = _
              by_cases e : i = T.length
              · subst e
                rw [va_up_self, gd_app]
              · rw [va_up_ne _ _ e, gd_app2 (by omega)]
                exact t2 i (by omega)
          refine V_aload_n C dX5_addBytes_36 rfl ?_
          refine V_getI C fl_X5_15 (ob_K hM) rfl dX5_addBytes_37 ?_
          refine V_sipush C (v := nI 1000) dX5_addBytes_40 (by decide +kernel) ?_
          refine V_icmp_ge C 68 dX5_addBytes_43 (by decide) (fun h43 => absurd h43 (by rw [t1]; exact nI_ge hlt (by omega))) (fun h43 => ?_)
          refine V_aload_n C dX5_addBytes_46 rfl ?_
          refine V_getR C fl_X5_9 (ob_K hM) (ob_R hM 1 1122 rfl rfl) rfl dX5_addBytes_47 ?_
          refine V_aload_n C dX5_addBytes_50 rfl ?_
          refine V_getI C fl_X5_15 (ob_K hM) rfl dX5_addBytes_51 ?_
          refine V_iload C dX5_addBytes_54 rfl ?_
          refine V_i2c C dX5_addBytes_56 ?_
          refine V_cast C (T.length) (ob_A hM 1 1122 rfl rfl) t1 (by rw [ob_N hM 1 1122 rfl rfl]; omega) (by rw [ob_N hM 1 1122 rfl rfl]; decide) dX5_addBytes_57 ?_
          rw [ec]
          refine V_aload_n C dX5_addBytes_58 rfl ?_
          refine V_dup C dX5_addBytes_59 rfl ?_
          refine V_getI C fl_X5_15 (ob_K hM) rfl dX5_addBytes_60 ?_
          refine V_iconst C (v := nI 1) dX5_addBytes_63 (by decide +kernel) ?_
          refine V_iadd C dX5_addBytes_64 ?_
          refine V_putI C fl_X5_15 (ob_K hM) rfl rfl dX5_addBytes_65 ?_
          refine V_iinc C dX5_addBytes_68 rfl (hn _ (by decide)) ?_
          refine V_goto C 3 dX5_addBytes_71 (by decide) ?_
          rw [kv_s]
          exact nx _ fin (fun a g1 g2 => by rw [up2_ne _ _ _ g1, up2_ne _ _ _ g2]; exact hr a g1 g2) _
        · refine V_aload_n C dX5_addBytes_36 rfl ?_
          refine V_getI C fl_X5_15 (ob_K hM) rfl dX5_addBytes_37 ?_
          refine V_sipush C (v := nI 1000) dX5_addBytes_40 (by decide +kernel) ?_
          refine V_icmp_ge C 68 dX5_addBytes_43 (by decide) (fun h43 => ?_) (fun h43 => absurd (by rw [t1]; exact nI_le (by omega) (by omega)) h43)
          exact skip _ (fun q => hlt q.2)
      have e255 : (v >>> ((kv x).toInt64 &&& 63) &&& 255).toInt32 = b := by
        rw [eb, byV, Int64.toInt32_and]
        rfl
      refine V_iload_n C dX5_addBytes_3 rfl ?_
      refine V_if_lt C 74 dX5_addBytes_4 (by decide) (fun h4 => absurd h4 (kv_p (by omega))) (fun h4 => ?_)
      refine V_lload_n C dX5_addBytes_7 rfl ?_
      refine V_iload_n C dX5_addBytes_8 rfl ?_
      refine V_lshr C dX5_addBytes_9 ?_
      refine V_ldc2 C dX5_addBytes_10 kl_X5_19 ?_
      refine V_land C dX5_addBytes_13 ?_
      refine V_l2i C dX5_addBytes_14 ?_
      rw [e255]
      refine V_istore C dX5_addBytes_15 (hn _ (by decide)) ?_
      refine V_iload C dX5_addBytes_17 rfl ?_
      refine V_bipush C (v := nI 10) dX5_addBytes_19 (by decide +kernel) ?_
      refine V_icmp_eq C 36 dX5_addBytes_21 (by decide) (fun h21 => ?_) (fun h21 => ?_)
      · first | exact put (Or.inl h21) | exact put (Or.inr (Decidable.not_not.mp (fun q => h33 (bI_0.mpr q))))
      · refine V_iload C dX5_addBytes_24 rfl ?_
        refine V_bipush C (v := nI 32) dX5_addBytes_26 (by decide +kernel) ?_
        refine V_bipush C (v := nI 126) dX5_addBytes_28 (by decide +kernel) ?_
        refine V_callSN (F := fun _ => True) C (m_isW _ _ _) ms_X6_isWithin (fun q => q.2.1) rfl (by decide) (by decide) (Nat.le_of_ble_eq_true rfl) (fun _ _ => trivial) (fun v _ => clo_T v) rfl dX5_addBytes_30 ?_
        rintro v S' I' J' ⟨hS9, rfl, hI9, hJ9⟩
        obtain rfl := hS9.symm
        obtain rfl := hI9.symm
        obtain rfl := hJ9.symm
        refine V_if_eq C 68 dX5_addBytes_33 (by decide) (fun h33 => ?_) (fun h33 => ?_)
        · exact skip _ (fun q => q.1.elim h21 (bI_0.mp h33))
        · first | exact put (Or.inl h21) | exact put (Or.inr (Decidable.not_not.mp (fun q => h33 (bI_0.mpr q))))
  refine V_bipush C (v := nI 56) dX5_addBytes_0 (by decide +kernel) ?_
  refine V_istore_n C dX5_addBytes_2 (hn _ (by decide)) ?_
  exact loop 8 0 _ _ rfl hT (fun _ _ _ => rfl)
set_option maxRecDepth 100000 in
theorem f_feed (hR : ClsR z S I J) (hO : OkC z) (a b c : Int64) : Mf l yX6_feed cX6_feed 7 (some .int) 2 [.ref 1100, .long a, .long b, .long c] S I J (fun r S' I' J' => r = some (.int (nI (nFeed z a b c).2.2.2.1.length)) ∧ ClsR (nFeed z a b c) S' I' J') := by
  refine Mf.of (by decide) (fun ad => by simp [lg_sl, vv, Value.category]) (fun X P hP hn C => ?_)
  obtain ⟨la, lb, hS, hC⟩ := hR
  have hla : la = 1160 ∨ la = 1180 := by have := hS.2.2.2.2.2.2.2.2.2.2; omega
  obtain ⟨h1, ⟨r0, r1, r3, r4, r5, r6, r7⟩, hF, -, -, hT, hL, -, h9, h10, -⟩ := id hS
  have t0 := hC.2.2.2.2.2.2.1
  have g0 : z.2.2.2.1.length ≤ 1000 := hO.r.2.2.2.2.2.2.2
  have g1 := layN_len (v := a) g0 8
  have g2 := layN_len (v := b) g1 8
  refine V_aload_n C dX6_feed_0 rfl ?_
  refine V_getR C fl_X6_23 (ob_K h1) r3 rfl dX6_feed_1 ?_
  refine V_lload_n C dX6_feed_4 rfl ?_
  refine V_callV (F := fun _ => True) C (c_addBytes hT t0 g0 a) mi_X5_addBytes ml_X6_109 rfl (ob_K hT) (by decide) (by decide) (by decide) (Nat.le_of_ble_eq_true rfl) (fun _ _ => trivial) (fun v _ => clo_T v) rfl dX6_feed_5 ?_
  rintro v S' I2 J2 ⟨hS9, rfl, t2, n2, hJ9⟩
  obtain rfl := hS9.symm
  obtain rfl := hJ9.symm
  refine V_aload_n C dX6_feed_8 rfl ?_
  refine V_getR C fl_X6_23 (ob_K h1) r3 rfl dX6_feed_9 ?_
  refine V_lload_n C dX6_feed_12 rfl ?_
  refine V_callV (F := fun _ => True) C (c_addBytes hT t2 g1 b) mi_X5_addBytes ml_X6_109 rfl (ob_K hT) (by decide) (by decide) (by decide) (Nat.le_of_ble_eq_true rfl) (fun _ _ => trivial) (fun v _ => clo_T v) rfl dX6_feed_13 ?_
  rintro v S' I3 J3 ⟨hS9, rfl, t3, n3, hJ9⟩
  obtain rfl := hS9.symm
  obtain rfl := hJ9.symm
  refine V_aload_n C dX6_feed_16 rfl ?_
  refine V_getR C fl_X6_23 (ob_K h1) r3 rfl dX6_feed_17 ?_
  refine V_lload C dX6_feed_20 rfl ?_
  refine V_callV (F := fun _ => True) C (c_addBytes hT t3 g2 c) mi_X5_addBytes ml_X6_109 rfl (ob_K hT) (by decide) (by decide) (by decide) (Nat.le_of_ble_eq_true rfl) (fun _ _ => trivial) (fun v _ => clo_T v) rfl dX6_feed_22 ?_
  rintro v S' I4 J4 ⟨hS9, rfl, t4, n4, hJ9⟩
  obtain rfl := hS9.symm
  obtain rfl := hJ9.symm
  refine V_aload_n C dX6_feed_25 rfl ?_
  refine V_getR C fl_X6_23 (ob_K h1) r3 rfl dX6_feed_26 ?_
  refine V_getI C fl_X6_113 (ob_K hT) rfl dX6_feed_29 ?_
  exact V_iret C (Nat.zero_le _) (Nat.zero_le _) dX6_feed_32 (hP _ _ _ _ ⟨by rw [t4.1]; rfl, la, lb, hS, hC.tp hla (fun a g1 g2 => (n4 a g1 g2).trans ((n3 a g1 g2).trans (n2 a g1 g2))) t4⟩)
set_option maxRecDepth 100000 in
set_option maxHeartbeats 1000000 in
/-- has, where it answers -/
theorem f_has (hR : ClsR z S I J) (hO : OkC z) {r s : Int32} (ok : okHas z r s) : Mf l yX6_has cX6_has 3 (some .int) 3 [.ref 1100, .int r, .int s] S I J (fun v S' I' J' => v = some (.int (hasV z.1.1 r s)) ∧ ClsR z S' I' J') := by
  refine Mf.of (by decide) (fun ad => by simp [lg_sl, vv, Value.category]) (fun X P hP hn C => ?_)
  have hR0 := hR
  obtain ⟨la, lb, hS, hC⟩ := hR
  obtain ⟨h1, ⟨r0, r1, r3, r4, r5, r6, r7⟩, hF, -, -, -, -, -, h9, h10, -⟩ := id hS
  have hK1 := h9.1
  obtain ⟨k, hk, ek, eck⟩ := isRx hO.1.1 ok.1
  obtain ⟨j, hj, ej⟩ := wi_ex (by omega) ok.2
  have h12 := hO.1.1.1.2.2.1
  have ea := hC.1.1.aD (r := k) (by omega)
  have e64 := (hC.1.1.2.1 k (by omega)).1
  have ehv : hasV z.1.1 r s = hasV z.1.1 (nI k) (nI j) := by rw [ek, ej]
  have ecj : cl (nI j) = j := nI_clamp (by omega)
  have eck2 : cl (nI k) = k := nI_clamp (by omega)
  have body : V X P 0 0 30 [some (.ref 1100), some (.int r), some (.int s)] [.int s] S I J := by
    rw [ehv] at hP
    subst ek
    subst ej
    unfold hasV at hP
    rw [eck2, ecj] at hP
    rcases Nat.lt_or_ge j 5 with hj5 | hj5
    · rw [if_neg (Int32.not_le.mpr (nI_lt hj5 (by omega)))] at hP
      have e104 := hC.1.1.2.2.1 (5 * k + j) (by omega)
      refine V_swOut C 92 dX6_has_30 (Or.inl (by rw [nI_toInt (by omega)]; omega)) (by decide) ?_
      refine V_aload_n C dX6_has_92 rfl ?_
      refine V_getR C fl_X6_10 (ob_K h1) r0 rfl dX6_has_93 ?_
      refine V_getR C fl_X6_93 (ob_K hK1) (ob_R hK1 11 1512 rfl rfl) rfl dX6_has_96 ?_
      refine V_iload_n C dX6_has_99 rfl ?_
      refine V_iconst C (v := nI 5) dX6_has_100 (by decide +kernel) ?_
      refine V_imul C dX6_has_101 ?_
      refine V_iload_n C dX6_has_102 rfl ?_
      refine V_iadd C dX6_has_103 ?_
      refine V_iald C (5 * k + j) (ob_A hK1 11 1512 rfl rfl) (by rw [pk_mul, nI_add]; congr 1; omega) (by rw [ob_N hK1 11 1512 rfl rfl]; omega) (by rw [ob_N hK1 11 1512 rfl rfl]; decide) dX6_has_104 ?_
      exact V_iret C (Nat.zero_le _) (Nat.zero_le _) dX6_has_105 (hP _ _ _ _ ⟨by rw [← e104], hR0⟩)
    · match j, hj, hj5 with
      | 5, _, _ =>
        refine V_swIn C 56 dX6_has_30 (by decide) (by decide) (off := 26) (by decide +kernel) (by decide) ?_
        refine V_aload_n C dX6_has_56 rfl ?_
        refine V_getR C fl_X6_10 (ob_K h1) r0 rfl dX6_has_57 ?_
        refine V_getR C fl_X6_84 (ob_K hK1) (ob_R hK1 8 1509 rfl rfl) rfl dX6_has_60 ?_
        refine V_iload_n C dX6_has_63 rfl ?_
        refine V_iald C (k) (ob_A hK1 8 1509 rfl rfl) (by first | rfl | (simp only [nI_add, pk_mul]; done) | (simp only [nI_add, pk_mul]; congr 1; omega)) (by rw [ob_N hK1 8 1509 rfl rfl]; omega) (by rw [ob_N hK1 8 1509 rfl rfl]; decide) dX6_has_64 ?_
        exact V_iret C (Nat.zero_le _) (Nat.zero_le _) dX6_has_65 (hP _ _ _ _ ⟨by rw [if_pos (by decide), if_pos rfl, ← e64], hR0⟩)
      | 6, _, _ =>
        refine V_swIn C 66 dX6_has_30 (by decide) (by decide) (off := 36) (by decide +kernel) (by decide) ?_
        refine V_aload_n C dX6_has_66 rfl ?_
        refine V_getR C fl_X6_10 (ob_K h1) r0 rfl dX6_has_67 ?_
        refine V_iload_n C dX6_has_70 rfl ?_
        refine V_callV (F := fun _ => True) C (c_allDustIn h9 (r := k) (by omega)) mi_X1_allDustIn ml_X6_136 rfl (ob_K hK1) (by decide) (by decide) (by decide) (Nat.le_of_ble_eq_true rfl) (fun _ _ => trivial) (fun v _ => clo_T v) rfl dX6_has_71 ?_
        rintro v S' I' J' ⟨hS9, rfl, hI9, hJ9⟩
        obtain rfl := hS9.symm
        obtain rfl := hI9.symm
        obtain rfl := hJ9.symm
        rw [ea]
        exact V_iret C (Nat.zero_le _) (Nat.zero_le _) dX6_has_74 (hP _ _ _ _ ⟨by rw [if_pos (by decide), if_neg (by decide), if_pos rfl], hR0⟩)
      | 7, _, _ =>
        refine V_swIn C 75 dX6_has_30 (by decide) (by decide) (off := 45) (by decide +kernel) (by decide) ?_
        refine V_aload_n C dX6_has_75 rfl ?_
        refine V_getR C fl_X6_10 (ob_K h1) r0 rfl dX6_has_76 ?_
        refine V_iload_n C dX6_has_79 rfl ?_
        refine V_callV (F := fun _ => True) C (c_isTrap h9 hC.1.1 hO.1.1.1 hk) mi_X1_isTrap ml_X6_140 rfl (ob_K hK1) (by decide) (by decide) (by decide) (Nat.le_of_ble_eq_true rfl) (fun _ _ => trivial) (fun v _ => clo_T v) rfl dX6_has_80 ?_
        rintro v S' I' J' ⟨hS9, rfl, hI9, hJ9⟩
        obtain rfl := hS9.symm
        obtain rfl := hI9.symm
        obtain rfl := hJ9.symm
        refine V_if_eq C 90 dX6_has_83 (by decide) (fun h83 => ?_) (fun h83 => ?_)
        · refine V_iconst C (v := nI 0) dX6_has_90 (by decide +kernel) ?_
          exact V_iret C (Nat.zero_le _) (Nat.zero_le _) dX6_has_91 (hP _ _ _ _ ⟨by rw [if_pos (by decide), if_neg (by decide), if_neg (by decide)]; first | rw [if_neg (bI_0.mp h83)] | rw [if_pos (Decidable.not_not.mp (fun q => h83 (bI_0.mpr q)))], hR0⟩)
        · refine V_iconst C (v := nI 1) dX6_has_86 (by decide +kernel) ?_
          refine V_goto C 91 dX6_has_87 (by decide) ?_
          exact V_iret C (Nat.zero_le _) (Nat.zero_le _) dX6_has_91 (hP _ _ _ _ ⟨by rw [if_pos (by decide), if_neg (by decide), if_neg (by decide)]; first | rw [if_neg (bI_0.mp h83)] | rw [if_pos (Decidable.not_not.mp (fun q => h83 (bI_0.mpr q)))], hR0⟩)
  refine V_aload_n C dX6_has_0 rfl ?_
  refine V_getR C fl_X6_10 (ob_K h1) r0 rfl dX6_has_1 ?_
  refine V_iload_n C dX6_has_4 rfl ?_
  refine V_callV (F := fun _ => True) C (c_isRing h9 hC.1.1 hO.1.1.1 r) mi_X1_isRing ml_X6_79 rfl (ob_K hK1) (by decide) (by decide) (by decide) (Nat.le_of_ble_eq_true rfl) (fun _ _ => trivial) (fun v _ => clo_T v) rfl dX6_has_5 ?_
  rintro v S' I' J' ⟨hS9, rfl, hI9, hJ9⟩
  obtain rfl := hS9.symm
  obtain rfl := hI9.symm
  obtain rfl := hJ9.symm
  refine V_if_eq C 21 dX6_has_8 (by decide) (fun h8 => absurd h8 (by rw [bI_0]; exact fun q => q ok.1)) (fun h8 => ?_)
  refine V_iload_n C dX6_has_11 rfl ?_
  refine V_iconst C (v := nI 0) dX6_has_12 (by decide +kernel) ?_
  refine V_bipush C (v := nI 7) dX6_has_13 (by decide +kernel) ?_
  refine V_callS (F := fun _ => True) C (m_isW _ _ _) ms_X6_isWithin ml_X6_71 rfl (by decide) (by decide) (Nat.le_of_ble_eq_true rfl) (fun _ _ => trivial) (fun v _ => clo_T v) rfl dX6_has_15 ?_
  rintro v S' I' J' ⟨hS9, rfl, hI9, hJ9⟩
  obtain rfl := hS9.symm
  obtain rfl := hI9.symm
  obtain rfl := hJ9.symm
  refine V_if_ne C 29 dX6_has_18 (by decide) (fun h18 => ?_) (fun h18 => absurd h18 (by rw [bI_0]; exact fun q => q ok.2))
  refine V_iload_n C dX6_has_29 rfl ?_
  exact body
end C22
