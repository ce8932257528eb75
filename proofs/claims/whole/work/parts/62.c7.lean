/-! the class's course: stick, break -/
section C7
variable {l : Launch} {S : HS} {I I' : HI} {J J' : HJ} {b la : Nat} {D : DV} {L : List Law} {e lk : Nat} {q : QV}
theorem up2_same {α : Type} (f : Nat → Nat → α) (a j : Nat) : up2 f a j (f a j) = f := by
  funext x
  by_cases e : x = a
  · subst e
    rw [up2_row]
    funext y
    by_cases e2 : y = j
    · subst e2; rw [va_up_self]
    · rw [va_up_ne _ _ e2]
  · rw [up2_ne _ _ _ e]
theorem mvD_0 {k k2 : Nat} : mvD D k k2 0 = D := by
  unfold mvD
  rw [Int32.sub_zero, up2_same, Int32.add_zero, up2_same]
theorem prt_r0 {a : Int32} : prt a 0 = 0 := by
  unfold prt
  rw [show (0 : Int32).toInt64 = 0 from rfl, Int64.mul_zero]
  rfl
theorem prt_l0 {n : Int32} : prt 0 n = 0 := by
  unfold prt
  rw [show (0 : Int32).toInt64 = 0 from rfl, Int64.zero_mul]
  rfl
theorem i_0 {a : Int32} (h1 : 0 ≤ a.toInt) (h2 : a ≤ 0) : a = 0 := Int32.le_antisymm h2 (i_nn.mpr h1)
theorem lnV_i {lw : LW} (hl : lwOk lw) {k : Nat} (hk : k < 9) (hk3 : k ≠ 3) {f : Nat → Int32} : 0 ≤ (lnV D (lw k f) lk).toInt ∧ (lnV D (lw k f) lk).toInt ≤ 100 := by
  unfold lnV
  split
  · exact ⟨by decide, by decide⟩
  · rename_i h
    have hn := hl.nn hk h
    split
    · exact ⟨hn.1, hn.2.1 hk3⟩
    · exact clN_i _
theorem stickAt_c {lw : LW} (hl : lwOk lw) (hlk : lk ≤ 20) {r s : Nat} : stickAt lw (nI lk) D r s = mvD (lnD D (lw 0 (fDu D r s)) lk) (5 * r + s) (5 * r + s + 1) (prt (D 4 (5 * r + s)) (lnV D (lw 0 (fDu D r s)) lk)) := by
  unfold stickAt lnD lnV
  by_cases h1 : lw 0 (fDu D r s) < 0
  · rw [if_pos h1, if_pos h1, if_pos h1, prt_r0, mvD_0]
  · rw [if_neg h1, if_neg h1, if_neg h1]
    have hn := hl.nn (by decide) h1
    by_cases h2 : lk = 0
    · rw [if_pos h2, if_pos h2, if_pos (by rw [h2]; decide)]
      by_cases h3 : lw 0 (fDu D r s) ≤ 0
      · rw [if_pos h3, i_0 hn.1 h3, prt_r0, mvD_0]
      · rw [if_neg h3]
    · rw [if_neg h2, if_neg h2, if_neg (nI_nle (by omega) (by omega))]
      by_cases h3 : clN (lkN (sdN (D 0 3)) (lw 0 (fDu D r s)) (nI lk)) ≤ 0
      · rw [if_pos h3, i_0 (clN_i _).1 h3, prt_r0, mvD_0]
      · rw [if_neg h3]
theorem lnD_4 {n : Int32} : lnD D n lk 4 = D 4 := by
  unfold lnD
  split
  · rfl
  · split <;> rfl
theorem breakAt_c {lw : LW} (hl : lwOk lw) {r s : Nat} (h : ¬ lw 1 (fDu D r s) < 0) : breakAt lw D r s = mvD D (5 * r + s) (5 * r) (prt (D 4 (5 * r + s)) (lw 1 (fDu D r s))) := by
  unfold breakAt
  have hn := hl.nn (by decide) h
  by_cases h3 : lw 1 (fDu D r s) ≤ 0
  · rw [if_pos h3, i_0 hn.1 h3, prt_r0, mvD_0]
  · rw [if_neg h3]
theorem stickN_no {lw : LW} {lk : Int32} (h : ∀ f, lw 0 f < 0) : ∀ (c r : Nat) (D : DV), stickN lw lk c r D = D := by
  have h1 : ∀ r s D, stickAt lw lk D r s = D := fun r s D => by unfold stickAt; rw [if_pos (h _)]
  intro c
  induction c with
  | zero => intro r D; rfl
  | succ c ih =>
    intro r D
    show stickN lw lk c (r + 1) (stickR lw lk r 4 D) = D
    rw [ih]
    show stickR lw lk r 0 (stickAt lw lk (stickAt lw lk (stickAt lw lk (stickAt lw lk D r 3) r 2) r 1) r 0) = D
    rw [h1, h1, h1, h1]
    rfl
theorem breakN_no {lw : LW} (h : ∀ f, lw 1 f < 0) : ∀ (c r : Nat) (D : DV), breakN lw c r D = D := by
  have h1 : ∀ r s D, breakAt lw D r s = D := fun r s D => by unfold breakAt; rw [if_pos (Int32.le_of_lt (h _))]
  intro c
  induction c with
  | zero => intro r D; rfl
  | succ c ih =>
    intro r D
    show breakN lw c (r + 1) (breakR lw r 4 1 D) = D
    rw [ih]
    show breakR lw r 0 5 (breakAt lw (breakAt lw (breakAt lw (breakAt lw D r 1) r 2) r 3) r 4) = D
    rw [h1, h1, h1, h1]
    rfl
theorem CQ.of {D' : DV} (h : CQ I J b q) (hc : CD I' J' b D') (e4 : I' b 4 = I b 4) (e5 : I' b 5 = I b 5) : CQ I' J' b (D', q.2) := ⟨hc, by rw [e4]; exact h.2.1, by rw [e5]; exact h.2.2⟩
theorem CQ.sk (hb : 1500 ≤ b) (h : CQ I J b q) (hI : Sk I I') (h30 : cmD q.1 ≤ 30) : CQ I' J b q := by
  have e := hI b (by omega) (by omega) (by omega) (by omega) (by omega)
  exact ⟨h.1.sk hb hI h30, by rw [e]; exact h.2.1, by rw [e]; exact h.2.2⟩
theorem CQ.mv {k k2 : Nat} {p : Int32} (h : CQ I J b q) (hk : k < 60) (hk2 : k2 < 60) : CQ (up2 (up2 I (b + 12) k (I (b + 12) k - p)) (b + 12) k2 (up2 I (b + 12) k (I (b + 12) k - p) (b + 12) k2 + p)) J b (mvD q.1 k k2 p, q.2) := h.of (h.1.mv hk hk2) (by rw [up2_ne _ _ _ (by omega), up2_ne _ _ _ (by omega)]) (by rw [up2_ne _ _ _ (by omega), up2_ne _ _ _ (by omega)])
theorem FC.mv {k k2 : Nat} {v w : Int32} : FC b I J (up2 (up2 I (b + 12) k v) (b + 12) k2 w) J := (FC.up (by omega)).tr (FC.up (by omega))
set_option maxRecDepth 100000 in
set_option maxHeartbeats 2000000 in
theorem c_stick (hX : CoS S b la) (hG : cG I la L e lk) (hQ : CQ I J b q) (hi : iOk q) : Mn l yX0_stick cX0_stick 5 none 4 [.ref 1140] S I J (fun v I' J' => v = none ∧ CQ I' J' b (s1D (kcl L (nI e)) (nI lk) q.1, q.2) ∧ FC b I J I' J') := by
  refine Mn.of (by decide) (fun ad => by simp [lg_sl, vv, Value.category]) (fun X P hP hn C => ?_)
  have hX' := hX
  obtain ⟨hF, hd0, hl1, hK, hL, hb, hla⟩ := hX
  have hK1 := hK.1
  obtain ⟨lw, hlw⟩ : ∃ lw, lw = kcl L (nI e) := ⟨_, rfl⟩
  have hlO : lwOk lw := by rw [hlw]; exact hG.2.2.2.2.2
  have l20 := hG.2.2.2.2.1
  obtain ⟨n, hnn⟩ : ∃ n, n = rgD q.1 := ⟨_, rfl⟩
  have h12 : n ≤ 12 := by rw [hnn]; exact hi.1.2.2.1
  have outer : ∀ (c r : Nat) (Dc : DV) (Ic : HI) (Jc : HJ) (x2 x3 x4 : Option Value), r + c = n → rgD Dc = n → FC b I J Ic Jc → CQ Ic Jc b (Dc, q.2) → iOk (Dc, q.2) → stickN lw (nI lk) c r Dc = stickN lw (nI lk) n 0 q.1 → V X P 0 0 14 [some (.ref 1140), some (.int (nI r)), x2, x3, x4] [] S Ic Jc := by
    intro c
    induction c with
    | zero =>
      intro r Dc Ic Jc x2 x3 x4 hr hg hf hq hio he
      have hr : r = n := hr
      have er : Ic b 0 = nI n := by rw [← hg]; exact hq.1.rg hio.1
      have he : Dc = stickN lw (nI lk) n 0 q.1 := he
      refine V_iload_n C dX0_stick_14 rfl ?_
      refine V_aload_n C dX0_stick_15 rfl ?_
      refine V_getR C fl_X0_12 (ob_K hF) hd0 rfl dX0_stick_16 ?_
      refine V_getI C fl_X0_108 (ob_K hK1) rfl dX0_stick_19 ?_
      refine V_icmp_ge C 123 dX0_stick_22 (by decide) (fun h22 => ?_) (fun h22 => absurd (by rw [er, hr]; exact Int32.le_refl _) h22)
      exact V_vret C (Nat.zero_le _) (Nat.zero_le _) dX0_stick_123 (hP _ _ _ ⟨rfl, by unfold s1D; rw [← hlw, ← hnn, ← he]; exact hq, hf⟩)
    | succ c ih =>
      intro r Dc Ic Jc x2 x3 x4 hr hg hf hq hio he
      have er : Ic b 0 = nI n := by rw [← hg]; exact hq.1.rg hio.1
      have inner : ∀ (m : Nat) (Dc : DV) (Ic : HI) (Jc : HJ) (x3 x4 : Option Value), m ≤ 4 → rgD Dc = n → FC b I J Ic Jc → CQ Ic Jc b (Dc, q.2) → iOk (Dc, q.2) → stickN lw (nI lk) c (r + 1) (stickR lw (nI lk) r m Dc) = stickN lw (nI lk) n 0 q.1 → V X P 0 0 27 [some (.ref 1140), some (.int (nI r)), some (.int (dn m)), x3, x4] [] S Ic Jc := by
        intro m
        induction m with
        | zero =>
          intro Dc Ic Jc x3 x4 hm hg hf hq hio he
          refine V_iload_n C dX0_stick_27 rfl ?_
          refine V_if_lt C 117 dX0_stick_28 (by decide) (fun h28 => ?_) (fun h28 => absurd (by decide) h28)
          refine V_iincU C dX0_stick_117 rfl (hn _ (by decide)) ?_
          refine V_goto C 14 dX0_stick_120 (by decide) ?_
          exact ih (r + 1) Dc Ic Jc _ _ _ (by omega) hg hf hq hio he
        | succ s ih2 =>
          intro Dc Ic Jc x3 x4 hm hg hf hq hio he
          have hk : 5 * r + s < 60 := by omega
          have hk2 : 5 * r + s + 1 < 60 := by omega
          have hrn : r < rgD Dc := by omega
          have eidx : nI r * nI 5 + nI s = nI (5 * r + s) := by rw [pk_mul, nI_add, Nat.mul_comm]
          have e45 : Ic (b + 12) (5 * r + s) = Dc 4 (5 * r + s) := hq.1.2.2.1 _ hk
          have hGc := hG.fc hb hla hf
          have hio2 := stickAt_i (lk := nI lk) hlO hio hrn (show s < 4 by omega)
          have fin : ∀ (In : HI) (Jn : HJ) (x3 x4 : Option Value), FC b Ic Jc In Jn → CQ In Jn b (stickAt lw (nI lk) Dc r s, q.2) → V X P 0 0 27 [some (.ref 1140), some (.int (nI r)), some (.int (nI s + Int32.ofInt (-1))), x3, x4] [] S In Jn := by
            intro In Jn x3 x4 f2 q2
            rw [dn_dec]
            exact ih2 _ In Jn x3 x4 (by omega) (by rw [rg_kp stickAt_kp]; exact hg) (hf.tr f2) q2 hio2 he
          show V X P 0 0 27 [some (.ref 1140), some (.int (nI r)), some (.int (nI s)), x3, x4] [] S Ic Jc
          have go : ∀ (x4 : Option Value), V X P 0 0 56 [some (.ref 1140), some (.int (nI r)), some (.int (nI s)), some (.int (nI (5 * r + s))), x4] [] S Ic Jc := by
            intro x4
            obtain ⟨nv, hnv⟩ : ∃ nv, nv = lw 0 (fDu Dc r s) := ⟨_, rfl⟩
            have hrange := lnV_i (D := Dc) (lk := lk) hlO (k := 0) (by decide) (by decide) (f := fDu Dc r s)
            rw [← hnv] at hrange
            obtain ⟨p0, -, -⟩ := prt_i (hio.2.1.2.1 _ hk) (hio.2.1.le.2.1 _ hk) hrange.1 hrange.2
            have hs0 := stickAt_c (D := Dc) (lk := lk) hlO l20 (r := r) (s := s)
            rw [← hnv] at hs0
            have hn1 : nv < 0 ↔ nv = -1 := by rw [hnv]; exact hlO.n1 (by decide)
            have sd0 : 0 ≤ Dc 0 3 := i_nn.mpr hio.2.2.2
            have after : ∀ (I2 : HI) (J2 : HJ), Sk Ic I2 → CD I2 J2 b (lnD Dc nv lk) → FC b I2 Jc I2 J2 → V X P 0 0 76 [some (.ref 1140), some (.int (nI r)), some (.int (nI s)), some (.int (nI (5 * r + s))), x4] [.int (lnV Dc nv lk), .int (Dc 4 (5 * r + s))] S I2 J2 := by
              intro I2 J2 sk cd fj
              have q2 : CQ I2 J2 b (lnD Dc nv lk, q.2) := by
                have ee := sk b (by omega) (by omega) (by omega) (by omega) (by omega)
                exact hq.of cd (by rw [ee]) (by rw [ee])
              have q3 := q2.mv (k := 5 * r + s) (k2 := 5 * r + s + 1) (p := prt (Dc 4 (5 * r + s)) (lnV Dc nv lk)) hk hk2
              rw [show mvD (lnD Dc nv lk, q.2).1 (5 * r + s) (5 * r + s + 1) (prt (Dc 4 (5 * r + s)) (lnV Dc nv lk)) = stickAt lw (nI lk) Dc r s from hs0.symm] at q3
              refine V_callS (F := fun _ => True) C (c_shareOf _ _) ms_X0_shareOf ml_X0_121 rfl (by decide) (by decide) (Nat.le_of_ble_eq_true rfl) (fun _ _ => trivial) (fun v _ => clo_T v) rfl dX0_stick_76 ?_
              rintro v S' I' J' ⟨hS9, rfl, hI9, hJ9⟩
              obtain rfl := hS9.symm
              obtain rfl := hI9.symm
              obtain rfl := hJ9.symm
              rw [p0]
              refine V_istore C dX0_stick_79 (hn _ (by decide)) ?_
              refine V_aload_n C dX0_stick_81 rfl ?_
              refine V_getR C fl_X0_12 (ob_K hF) hd0 rfl dX0_stick_82 ?_
              refine V_getR C fl_X0_80 (ob_K hK1) (ob_R hK1 11 (b + 12) rfl rfl) rfl dX0_stick_85 ?_
              refine V_iload_n C dX0_stick_88 rfl ?_
              refine V_dup2 C dX0_stick_89 rfl rfl ?_
              refine V_iald C (5 * r + s) (ob_A hK1 11 (b + 12) rfl rfl) (by first | rfl | (simp only [nI_add, pk_mul]; done) | (simp only [nI_add, pk_mul]; congr 1; omega)) (by rw [ob_N hK1 11 (b + 12) rfl rfl]; omega) (by rw [ob_N hK1 11 (b + 12) rfl rfl]; decide) dX0_stick_90 ?_
              refine V_iload C dX0_stick_91 rfl ?_
              refine V_isub C dX0_stick_93 ?_
              refine V_iast C (5 * r + s) (ob_A hK1 11 (b + 12) rfl rfl) (by first | rfl | (simp only [nI_add, pk_mul]; done) | (simp only [nI_add, pk_mul]; congr 1; omega)) (by rw [ob_N hK1 11 (b + 12) rfl rfl]; omega) (by rw [ob_N hK1 11 (b + 12) rfl rfl]; decide) dX0_stick_94 ?_
              refine V_aload_n C dX0_stick_95 rfl ?_
              refine V_getR C fl_X0_12 (ob_K hF) hd0 rfl dX0_stick_96 ?_
              refine V_getR C fl_X0_80 (ob_K hK1) (ob_R hK1 11 (b + 12) rfl rfl) rfl dX0_stick_99 ?_
              refine V_iload_n C dX0_stick_102 rfl ?_
              refine V_iconst C (v := nI 1) dX0_stick_103 (by decide +kernel) ?_
              refine V_iadd C dX0_stick_104 ?_
              refine V_dup2 C dX0_stick_105 rfl rfl ?_
              refine V_iald C (5 * r + s + 1) (ob_A hK1 11 (b + 12) rfl rfl) (by first | rfl | (simp only [nI_add, pk_mul]; done) | (simp only [nI_add, pk_mul]; congr 1; omega)) (by rw [ob_N hK1 11 (b + 12) rfl rfl]; omega) (by rw [ob_N hK1 11 (b + 12) rfl rfl]; decide) dX0_stick_106 ?_
              refine V_iload C dX0_stick_107 rfl ?_
              refine V_iadd C dX0_stick_109 ?_
              refine V_iast C (5 * r + s + 1) (ob_A hK1 11 (b + 12) rfl rfl) (by first | rfl | (simp only [nI_add, pk_mul]; done) | (simp only [nI_add, pk_mul]; congr 1; omega)) (by rw [ob_N hK1 11 (b + 12) rfl rfl]; omega) (by rw [ob_N hK1 11 (b + 12) rfl rfl]; decide) dX0_stick_110 ?_
              refine V_iinc C dX0_stick_111 rfl (hn _ (by decide)) ?_
              refine V_goto C 27 dX0_stick_114 (by decide) ?_
              exact fin _ _ _ _ ((sk.fc (J := Jc)).tr (fj.tr FC.mv)) q3
            have mid : ∀ (I2 : HI), Sk Ic I2 → V X P 0 0 73 [some (.ref 1140), some (.int (nI r)), some (.int (nI s)), some (.int (nI (5 * r + s))), x4] [.int nv, .ref 1140, .int (Dc 4 (5 * r + s))] S I2 Jc := by
              intro I2 sk
              have cd2 := hq.1.sk hb sk hio.1.2.2.2.2.1
              have hG2 := hGc.fc hb hla (sk.fc (b := b) (J := Jc))
              refine V_callV (F := fun _ => True) C (c_lucky hX' hG2 cd2 sd0 hn1) mi_X0_luckyNumber ml_X0_118 rfl (ob_K hF) (by decide) (by decide) (by decide) (Nat.le_of_ble_eq_true rfl) (fun _ _ => trivial) (fun v _ => clo_T v) rfl dX0_stick_73 ?_
              rintro v S' I3 J3 ⟨hS9, rfl, hI9, cd3, fj⟩
              obtain rfl := hS9.symm
              obtain rfl := hI9.symm
              exact after _ _ sk cd3 fj
            refine V_aload_n C dX0_stick_56 rfl ?_
            refine V_getR C fl_X0_12 (ob_K hF) hd0 rfl dX0_stick_57 ?_
            refine V_getR C fl_X0_80 (ob_K hK1) (ob_R hK1 11 (b + 12) rfl rfl) rfl dX0_stick_60 ?_
            refine V_iload_n C dX0_stick_63 rfl ?_
            refine V_iald C (5 * r + s) (ob_A hK1 11 (b + 12) rfl rfl) (by first | rfl | (simp only [nI_add, pk_mul]; done) | (simp only [nI_add, pk_mul]; congr 1; omega)) (by rw [ob_N hK1 11 (b + 12) rfl rfl]; omega) (by rw [ob_N hK1 11 (b + 12) rfl rfl]; decide) dX0_stick_64 ?_
            rw [e45]
            refine V_aload_n C dX0_stick_65 rfl ?_
            refine V_aload_n C dX0_stick_66 rfl ?_
            refine V_iconst C (v := nI 0) dX0_stick_67 (by decide +kernel) ?_
            refine V_iload_n C dX0_stick_68 rfl ?_
            refine V_iload_n C dX0_stick_69 rfl ?_
            refine V_callV (F := fun _ => True) C (c_lawForDust hX' hGc hq.1 hio.1 (k := 0) (r := r) (s := s) (by decide) (by omega) (by omega)) mi_X0_lawForDust ml_X0_114 rfl (ob_K hF) (by decide) (by decide) (by decide) (Nat.le_of_ble_eq_true rfl) (fun _ _ => trivial) (fun v _ => clo_T v) rfl dX0_stick_70 ?_
            rintro v S' I2 J2 ⟨hS9, rfl, sn, hJ9⟩
            have sk := sn.k
            obtain rfl := hS9.symm
            obtain rfl := hJ9.symm
            rw [← hlw, ← hnv]
            exact mid _ sk
          by_cases hd : 0 < Dc 4 (5 * r + s)
          · refine V_iload_n C dX0_stick_27 rfl ?_
            refine V_if_lt C 117 dX0_stick_28 (by decide) (fun h28 => absurd h28 (nI_pos (by omega))) (fun h28 => ?_)
            refine V_iload_n C dX0_stick_31 rfl ?_
            refine V_iconst C (v := nI 5) dX0_stick_32 (by decide +kernel) ?_
            refine V_imul C dX0_stick_33 ?_
            refine V_iload_n C dX0_stick_34 rfl ?_
            refine V_iadd C dX0_stick_35 ?_
            rw [eidx]
            refine V_istore_n C dX0_stick_36 (hn _ (by decide)) ?_
            refine V_aload_n C dX0_stick_37 rfl ?_
            refine V_getR C fl_X0_12 (ob_K hF) hd0 rfl dX0_stick_38 ?_
            refine V_getR C fl_X0_80 (ob_K hK1) (ob_R hK1 11 (b + 12) rfl rfl) rfl dX0_stick_41 ?_
            refine V_iload_n C dX0_stick_44 rfl ?_
            refine V_iald C (5 * r + s) (ob_A hK1 11 (b + 12) rfl rfl) (by first | rfl | (simp only [nI_add, pk_mul]; done) | (simp only [nI_add, pk_mul]; congr 1; omega)) (by rw [ob_N hK1 11 (b + 12) rfl rfl]; omega) (by rw [ob_N hK1 11 (b + 12) rfl rfl]; decide) dX0_stick_45 ?_
            refine V_if_gt C 56 dX0_stick_46 (by decide) (fun h46 => ?_) (fun h46 => absurd (by rw [e45]; exact hd) h46)
            exact go _
          · by_cases hlk0 : lk = 0
            · have z : Dc 4 (5 * r + s) = 0 := i_0 (hio.2.1.2.1 _ hk) (Int32.not_lt.mp hd)
              have same : stickAt lw (nI lk) Dc r s = Dc := by
                rw [stickAt_c hlO l20, z, prt_l0, mvD_0]
                unfold lnD
                split
                · rfl
                · first | rfl | rw [if_pos hlk0]
              have e50 : Ic 1140 3 ≤ 0 := by rw [hGc.2.2.2.1, hlk0]; decide
              refine V_iload_n C dX0_stick_27 rfl ?_
              refine V_if_lt C 117 dX0_stick_28 (by decide) (fun h28 => absurd h28 (nI_pos (by omega))) (fun h28 => ?_)
              refine V_iload_n C dX0_stick_31 rfl ?_
              refine V_iconst C (v := nI 5) dX0_stick_32 (by decide +kernel) ?_
              refine V_imul C dX0_stick_33 ?_
              refine V_iload_n C dX0_stick_34 rfl ?_
              refine V_iadd C dX0_stick_35 ?_
              rw [eidx]
              refine V_istore_n C dX0_stick_36 (hn _ (by decide)) ?_
              refine V_aload_n C dX0_stick_37 rfl ?_
              refine V_getR C fl_X0_12 (ob_K hF) hd0 rfl dX0_stick_38 ?_
              refine V_getR C fl_X0_80 (ob_K hK1) (ob_R hK1 11 (b + 12) rfl rfl) rfl dX0_stick_41 ?_
              refine V_iload_n C dX0_stick_44 rfl ?_
              refine V_iald C (5 * r + s) (ob_A hK1 11 (b + 12) rfl rfl) (by first | rfl | (simp only [nI_add, pk_mul]; done) | (simp only [nI_add, pk_mul]; congr 1; omega)) (by rw [ob_N hK1 11 (b + 12) rfl rfl]; omega) (by rw [ob_N hK1 11 (b + 12) rfl rfl]; decide) dX0_stick_45 ?_
              refine V_if_gt C 56 dX0_stick_46 (by decide) (fun h46 => absurd h46 (by rw [e45]; exact hd)) (fun h46 => ?_)
              refine V_aload_n C dX0_stick_49 rfl ?_
              refine V_getI C fl_X0_111 (ob_K hF) rfl dX0_stick_50 ?_
              refine V_if_le C 111 dX0_stick_53 (by decide) (fun h53 => ?_) (fun h53 => absurd (e50) h53)
              refine V_iinc C dX0_stick_111 rfl (hn _ (by decide)) ?_
              refine V_goto C 27 dX0_stick_114 (by decide) ?_
              exact fin _ _ _ _ FC.re (by rw [same]; exact hq)
            · have e50 : ¬ Ic 1140 3 ≤ 0 := by rw [hGc.2.2.2.1]; exact nI_nle (by omega) (by omega)
              refine V_iload_n C dX0_stick_27 rfl ?_
              refine V_if_lt C 117 dX0_stick_28 (by decide) (fun h28 => absurd h28 (nI_pos (by omega))) (fun h28 => ?_)
              refine V_iload_n C dX0_stick_31 rfl ?_
              refine V_iconst C (v := nI 5) dX0_stick_32 (by decide +kernel) ?_
              refine V_imul C dX0_stick_33 ?_
              refine V_iload_n C dX0_stick_34 rfl ?_
              refine V_iadd C dX0_stick_35 ?_
              rw [eidx]
              refine V_istore_n C dX0_stick_36 (hn _ (by decide)) ?_
              refine V_aload_n C dX0_stick_37 rfl ?_
              refine V_getR C fl_X0_12 (ob_K hF) hd0 rfl dX0_stick_38 ?_
              refine V_getR C fl_X0_80 (ob_K hK1) (ob_R hK1 11 (b + 12) rfl rfl) rfl dX0_stick_41 ?_
              refine V_iload_n C dX0_stick_44 rfl ?_
              refine V_iald C (5 * r + s) (ob_A hK1 11 (b + 12) rfl rfl) (by first | rfl | (simp only [nI_add, pk_mul]; done) | (simp only [nI_add, pk_mul]; congr 1; omega)) (by rw [ob_N hK1 11 (b + 12) rfl rfl]; omega) (by rw [ob_N hK1 11 (b + 12) rfl rfl]; decide) dX0_stick_45 ?_
              refine V_if_gt C 56 dX0_stick_46 (by decide) (fun h46 => absurd h46 (by rw [e45]; exact hd)) (fun h46 => ?_)
              refine V_aload_n C dX0_stick_49 rfl ?_
              refine V_getI C fl_X0_111 (ob_K hF) rfl dX0_stick_50 ?_
              refine V_if_le C 111 dX0_stick_53 (by decide) (fun h53 => absurd h53 (e50)) (fun h53 => ?_)
              exact go _
      refine V_iload_n C dX0_stick_14 rfl ?_
      refine V_aload_n C dX0_stick_15 rfl ?_
      refine V_getR C fl_X0_12 (ob_K hF) hd0 rfl dX0_stick_16 ?_
      refine V_getI C fl_X0_108 (ob_K hK1) rfl dX0_stick_19 ?_
      refine V_icmp_ge C 123 dX0_stick_22 (by decide) (fun h22 => absurd h22 (by rw [er]; exact nI_ge (by omega) (by omega))) (fun h22 => ?_)
      refine V_iconst C (v := nI 3) dX0_stick_25 (by decide +kernel) ?_
      refine V_istore_n C dX0_stick_26 (hn _ (by decide)) ?_
      exact inner 4 Dc Ic Jc _ _ (Nat.le_refl _) hg hf hq hio he
  by_cases hno : nxI 0 0 L = -1
  · have same : s1D (kcl L (nI e)) (nI lk) q.1 = q.1 := stickN_no (fun f => by rw [show kcl L (nI e) 0 f = -1 from nxI_n L 0 (by have := hG.1.2.2.2.1; omega) hno]; decide) _ _ _
    refine V_aload_n C dX0_stick_0 rfl ?_
    refine V_getR C fl_X0_21 (ob_K hF) hl1 rfl dX0_stick_1 ?_
    refine V_iconst C (v := nI 0) dX0_stick_4 (by decide +kernel) ?_
    refine V_callV (F := fun _ => True) C (c_hasNone hL hG.1 (k := 0) (by decide)) mi_X2_hasNone ml_X0_72 rfl (ob_K hL) (by decide) (by decide) (by decide) (Nat.le_of_ble_eq_true rfl) (fun _ _ => trivial) (fun v _ => clo_T v) rfl dX0_stick_5 ?_
    rintro v S' I' J' ⟨hS9, rfl, hI9, hJ9⟩
    obtain rfl := hS9.symm
    obtain rfl := hI9.symm
    obtain rfl := hJ9.symm
    refine V_if_eq C 12 dX0_stick_8 (by decide) (fun h8 => absurd h8 (by rw [bI_0]; exact fun q => q hno)) (fun h8 => ?_)
    exact V_vret C (Nat.zero_le _) (Nat.zero_le _) dX0_stick_11 (hP _ _ _ ⟨rfl, by rw [same]; exact hQ, FC.re⟩)
  · refine V_aload_n C dX0_stick_0 rfl ?_
    refine V_getR C fl_X0_21 (ob_K hF) hl1 rfl dX0_stick_1 ?_
    refine V_iconst C (v := nI 0) dX0_stick_4 (by decide +kernel) ?_
    refine V_callV (F := fun _ => True) C (c_hasNone hL hG.1 (k := 0) (by decide)) mi_X2_hasNone ml_X0_72 rfl (ob_K hL) (by decide) (by decide) (by decide) (Nat.le_of_ble_eq_true rfl) (fun _ _ => trivial) (fun v _ => clo_T v) rfl dX0_stick_5 ?_
    rintro v S' I' J' ⟨hS9, rfl, hI9, hJ9⟩
    obtain rfl := hS9.symm
    obtain rfl := hI9.symm
    obtain rfl := hJ9.symm
    refine V_if_eq C 12 dX0_stick_8 (by decide) (fun h8 => ?_) (fun h8 => absurd (bI_f hno) h8)
    refine V_iconst C (v := nI 0) dX0_stick_12 (by decide +kernel) ?_
    refine V_istore_n C dX0_stick_13 (hn _ (by decide)) ?_
    exact outer n 0 q.1 I J _ _ _ (Nat.zero_add _) hnn.symm FC.re hQ hi rfl
set_option maxRecDepth 100000 in
set_option maxHeartbeats 2000000 in
theorem c_breakUp (hX : CoS S b la) (hG : cG I la L e lk) (hQ : CQ I J b q) (hi : iOk q) : Mn l yX0_breakUp cX0_breakUp 6 none 4 [.ref 1140] S I J (fun v I' J' => v = none ∧ CQ I' J b (s2D (kcl L (nI e)) q.1, q.2) ∧ FC b I J I' J ∧ J' = J) := by
  refine Mn.of (by decide) (fun ad => by simp [lg_sl, vv, Value.category]) (fun X P hP hn C => ?_)
  have hX' := hX
  obtain ⟨hF, hd0, hl1, hK, hL, hb, hla⟩ := hX
  have hK1 := hK.1
  obtain ⟨lw, hlw⟩ : ∃ lw, lw = kcl L (nI e) := ⟨_, rfl⟩
  have hlO : lwOk lw := by rw [hlw]; exact hG.2.2.2.2.2
  obtain ⟨n, hnn⟩ : ∃ n, n = rgD q.1 := ⟨_, rfl⟩
  have h12 : n ≤ 12 := by rw [hnn]; exact hi.1.2.2.1
  have outer : ∀ (c r : Nat) (Dc : DV) (Ic : HI) (x2 x3 x4 x5 : Option Value), r + c = n → rgD Dc = n → FC b I J Ic J → CQ Ic J b (Dc, q.2) → iOk (Dc, q.2) → breakN lw c r Dc = breakN lw n 0 q.1 → V X P 0 0 14 [some (.ref 1140), some (.int (nI r)), x2, x3, x4, x5] [] S Ic J := by
    intro c
    induction c with
    | zero =>
      intro r Dc Ic x2 x3 x4 x5 hr hg hf hq hio he
      have hr : r = n := hr
      have er : Ic b 0 = nI n := by rw [← hg]; exact hq.1.rg hio.1
      have he : Dc = breakN lw n 0 q.1 := he
      refine V_iload_n C dX0_breakUp_14 rfl ?_
      refine V_aload_n C dX0_breakUp_15 rfl ?_
      refine V_getR C fl_X0_12 (ob_K hF) hd0 rfl dX0_breakUp_16 ?_
      refine V_getI C fl_X0_108 (ob_K hK1) rfl dX0_breakUp_19 ?_
      refine V_icmp_ge C 127 dX0_breakUp_22 (by decide) (fun h22 => ?_) (fun h22 => absurd (by rw [er, hr]; exact Int32.le_refl _) h22)
      exact V_vret C (Nat.zero_le _) (Nat.zero_le _) dX0_breakUp_127 (hP _ _ _ ⟨rfl, by unfold s2D; rw [← hlw, ← hnn, ← he]; exact hq, hf, rfl⟩)
    | succ c ih =>
      intro r Dc Ic x2 x3 x4 x5 hr hg hf hq hio he
      have er : Ic b 0 = nI n := by rw [← hg]; exact hq.1.rg hio.1
      have inner : ∀ (m s : Nat) (Dc : DV) (Ic : HI) (x3 x4 x5 : Option Value), s + m = 5 → rgD Dc = n → FC b I J Ic J → CQ Ic J b (Dc, q.2) → iOk (Dc, q.2) → breakN lw c (r + 1) (breakR lw r m s Dc) = breakN lw n 0 q.1 → V X P 0 0 27 [some (.ref 1140), some (.int (nI r)), some (.int (nI s)), x3, x4, x5] [] S Ic J := by
        intro m
        induction m with
        | zero =>
          intro s Dc Ic x3 x4 x5 hs hg hf hq hio he
          have hs : s = 5 := hs
          subst hs
          refine V_iload_n C dX0_breakUp_27 rfl ?_
          refine V_iconst C (v := nI 5) dX0_breakUp_28 (by decide +kernel) ?_
          refine V_icmp_ge C 121 dX0_breakUp_29 (by decide) (fun h29 => ?_) (fun h29 => absurd (by decide) h29)
          refine V_iincU C dX0_breakUp_121 rfl (hn _ (by decide)) ?_
          refine V_goto C 14 dX0_breakUp_124 (by decide) ?_
          exact ih (r + 1) Dc Ic _ _ _ _ (by omega) hg hf hq hio he
        | succ m ih2 =>
          intro s Dc Ic x3 x4 x5 hs hg hf hq hio he
          have hk : 5 * r + s < 60 := by omega
          have hk2 : 5 * r < 60 := by omega
          have hrn : r < rgD Dc := by omega
          have eidx : nI r * nI 5 + nI s = nI (5 * r + s) := by rw [pk_mul, nI_add, Nat.mul_comm]
          have eidx2 : nI r * nI 5 = nI (5 * r) := by rw [pk_mul, Nat.mul_comm]
          have e45 : Ic (b + 12) (5 * r + s) = Dc 4 (5 * r + s) := hq.1.2.2.1 _ hk
          have hGc := hG.fc hb hla hf
          have hio2 := breakAt_i hlO hio hrn (show s < 5 by omega)
          have fin : ∀ (In : HI) (x3 x4 x5 : Option Value), FC b Ic J In J → CQ In J b (breakAt lw Dc r s, q.2) → V X P 0 0 27 [some (.ref 1140), some (.int (nI r)), some (.int (nI (s + 1))), x3, x4, x5] [] S In J := by
            intro In x3 x4 x5 f2 q2
            exact ih2 (s + 1) _ In x3 x4 x5 (by omega) (by rw [rg_kp breakAt_kp]; exact hg) (hf.tr f2) q2 hio2 he
          have none' : ∀ (I2 : HI) (x3 x5 : Option Value), Sk Ic I2 → breakAt lw Dc r s = Dc → V X P 0 0 61 [some (.ref 1140), some (.int (nI r)), some (.int (nI s)), x3, x4, x5] [.int (-1)] S I2 J := by
            intro I2 x3 x5 sk same
            refine V_istore C dX0_breakUp_61 (hn _ (by decide)) ?_
            refine V_iload C dX0_breakUp_63 rfl ?_
            refine V_iconst C (v := (-1)) dX0_breakUp_65 (by decide +kernel) ?_
            refine V_icmp_eq C 115 dX0_breakUp_66 (by decide) (fun h66 => ?_) (fun h66 => absurd (rfl) h66)
            refine V_iincU C dX0_breakUp_115 rfl (hn _ (by decide)) ?_
            refine V_goto C 27 dX0_breakUp_118 (by decide) ?_
            exact fin _ _ _ _ (sk.fc) (by rw [same]; exact hq.sk hb sk hio.1.2.2.2.2.1)
          have some' : ∀ (I2 : HI) (x5 : Option Value) (nv : Int32), Sk Ic I2 → nv = lw 1 (fDu Dc r s) → V X P 0 0 61 [some (.ref 1140), some (.int (nI r)), some (.int (nI s)), some (.int (nI (5 * r + s))), x4, x5] [.int nv] S I2 J := by
            intro I2 x5 nv sk hnv
            by_cases hm : nv = -1
            · rw [hm]
              refine none' I2 _ _ sk ?_
              unfold breakAt
              rw [if_pos (by rw [← hnv, hm]; decide)]
            · have hnn' : ¬ lw 1 (fDu Dc r s) < 0 := fun q => hm (by rw [hnv]; exact (hlO.n1 (by decide)).mp q)
              have hnq := hlO.nn (by decide) hnn'
              rw [← hnv] at hnq
              obtain ⟨p0, -, -⟩ := prt_i (hio.2.1.2.1 _ hk) (hio.2.1.le.2.1 _ hk) hnq.1 (hnq.2.1 (by decide))
              have q1 := hq.sk hb sk hio.1.2.2.2.2.1
              have q3 := q1.mv (k := 5 * r + s) (k2 := 5 * r) (p := prt (Dc 4 (5 * r + s)) nv) hk hk2
              have eb := breakAt_c (D := Dc) hlO (r := r) (s := s) hnn'
              rw [← hnv] at eb
              rw [show mvD (Dc, q.2).1 (5 * r + s) (5 * r) (prt (Dc 4 (5 * r + s)) nv) = breakAt lw Dc r s from eb.symm] at q3
              have e77 : I2 (b + 12) (5 * r + s) = Dc 4 (5 * r + s) := q1.1.2.2.1 _ hk
              refine V_istore C dX0_breakUp_61 (hn _ (by decide)) ?_
              refine V_iload C dX0_breakUp_63 rfl ?_
              refine V_iconst C (v := (-1)) dX0_breakUp_65 (by decide +kernel) ?_
              refine V_icmp_eq C 115 dX0_breakUp_66 (by decide) (fun h66 => absurd h66 (hm)) (fun h66 => ?_)
              refine V_aload_n C dX0_breakUp_69 rfl ?_
              refine V_getR C fl_X0_12 (ob_K hF) hd0 rfl dX0_breakUp_70 ?_
              refine V_getR C fl_X0_80 (ob_K hK1) (ob_R hK1 11 (b + 12) rfl rfl) rfl dX0_breakUp_73 ?_
              refine V_iload_n C dX0_breakUp_76 rfl ?_
              refine V_iald C (5 * r + s) (ob_A hK1 11 (b + 12) rfl rfl) (by first | rfl | (simp only [nI_add, pk_mul]; done) | (simp only [nI_add, pk_mul]; congr 1; omega)) (by rw [ob_N hK1 11 (b + 12) rfl rfl]; omega) (by rw [ob_N hK1 11 (b + 12) rfl rfl]; decide) dX0_breakUp_77 ?_
              rw [e77]
              refine V_iload C dX0_breakUp_78 rfl ?_
              refine V_callS (F := fun _ => True) C (c_shareOf _ _) ms_X0_shareOf ml_X0_121 rfl (by decide) (by decide) (Nat.le_of_ble_eq_true rfl) (fun _ _ => trivial) (fun v _ => clo_T v) rfl dX0_breakUp_80 ?_
              rintro v S' I' J' ⟨hS9, rfl, hI9, hJ9⟩
              obtain rfl := hS9.symm
              obtain rfl := hI9.symm
              obtain rfl := hJ9.symm
              rw [p0]
              refine V_istore C dX0_breakUp_83 (hn _ (by decide)) ?_
              refine V_aload_n C dX0_breakUp_85 rfl ?_
              refine V_getR C fl_X0_12 (ob_K hF) hd0 rfl dX0_breakUp_86 ?_
              refine V_getR C fl_X0_80 (ob_K hK1) (ob_R hK1 11 (b + 12) rfl rfl) rfl dX0_breakUp_89 ?_
              refine V_iload_n C dX0_breakUp_92 rfl ?_
              refine V_dup2 C dX0_breakUp_93 rfl rfl ?_
              refine V_iald C (5 * r + s) (ob_A hK1 11 (b + 12) rfl rfl) (by first | rfl | (simp only [nI_add, pk_mul]; done) | (simp only [nI_add, pk_mul]; congr 1; omega)) (by rw [ob_N hK1 11 (b + 12) rfl rfl]; omega) (by rw [ob_N hK1 11 (b + 12) rfl rfl]; decide) dX0_breakUp_94 ?_
              refine V_iload C dX0_breakUp_95 rfl ?_
              refine V_isub C dX0_breakUp_97 ?_
              refine V_iast C (5 * r + s) (ob_A hK1 11 (b + 12) rfl rfl) (by first | rfl | (simp only [nI_add, pk_mul]; done) | (simp only [nI_add, pk_mul]; congr 1; omega)) (by rw [ob_N hK1 11 (b + 12) rfl rfl]; omega) (by rw [ob_N hK1 11 (b + 12) rfl rfl]; decide) dX0_breakUp_98 ?_
              refine V_aload_n C dX0_breakUp_99 rfl ?_
              refine V_getR C fl_X0_12 (ob_K hF) hd0 rfl dX0_breakUp_100 ?_
              refine V_getR C fl_X0_80 (ob_K hK1) (ob_R hK1 11 (b + 12) rfl rfl) rfl dX0_breakUp_103 ?_
              refine V_iload_n C dX0_breakUp_106 rfl ?_
              refine V_iconst C (v := nI 5) dX0_breakUp_107 (by decide +kernel) ?_
              refine V_imul C dX0_breakUp_108 ?_
              refine V_dup2 C dX0_breakUp_109 rfl rfl ?_
              refine V_iald C (5 * r) (ob_A hK1 11 (b + 12) rfl rfl) eidx2 (by rw [ob_N hK1 11 (b + 12) rfl rfl]; omega) (by rw [ob_N hK1 11 (b + 12) rfl rfl]; decide) dX0_breakUp_110 ?_
              refine V_iload C dX0_breakUp_111 rfl ?_
              refine V_iadd C dX0_breakUp_113 ?_
              refine V_iast C (5 * r) (ob_A hK1 11 (b + 12) rfl rfl) eidx2 (by rw [ob_N hK1 11 (b + 12) rfl rfl]; omega) (by rw [ob_N hK1 11 (b + 12) rfl rfl]; decide) dX0_breakUp_114 ?_
              refine V_iincU C dX0_breakUp_115 rfl (hn _ (by decide)) ?_
              refine V_goto C 27 dX0_breakUp_118 (by decide) ?_
              exact fin _ _ _ _ ((sk.fc).tr FC.mv) q3
          by_cases hd : 0 < Dc 4 (5 * r + s)
          · refine V_iload_n C dX0_breakUp_27 rfl ?_
            refine V_iconst C (v := nI 5) dX0_breakUp_28 (by decide +kernel) ?_
            refine V_icmp_ge C 121 dX0_breakUp_29 (by decide) (fun h29 => absurd h29 (nI_ge (by omega) (by omega))) (fun h29 => ?_)
            refine V_iload_n C dX0_breakUp_32 rfl ?_
            refine V_iconst C (v := nI 5) dX0_breakUp_33 (by decide +kernel) ?_
            refine V_imul C dX0_breakUp_34 ?_
            refine V_iload_n C dX0_breakUp_35 rfl ?_
            refine V_iadd C dX0_breakUp_36 ?_
            rw [eidx]
            refine V_istore_n C dX0_breakUp_37 (hn _ (by decide)) ?_
            refine V_aload_n C dX0_breakUp_38 rfl ?_
            refine V_getR C fl_X0_12 (ob_K hF) hd0 rfl dX0_breakUp_39 ?_
            refine V_getR C fl_X0_80 (ob_K hK1) (ob_R hK1 11 (b + 12) rfl rfl) rfl dX0_breakUp_42 ?_
            refine V_iload_n C dX0_breakUp_45 rfl ?_
            refine V_iald C (5 * r + s) (ob_A hK1 11 (b + 12) rfl rfl) (by first | rfl | (simp only [nI_add, pk_mul]; done) | (simp only [nI_add, pk_mul]; congr 1; omega)) (by rw [ob_N hK1 11 (b + 12) rfl rfl]; omega) (by rw [ob_N hK1 11 (b + 12) rfl rfl]; decide) dX0_breakUp_46 ?_
            refine V_if_le C 60 dX0_breakUp_47 (by decide) (fun h47 => absurd h47 (by rw [e45]; exact Int32.not_le.mpr hd)) (fun h47 => ?_)
            refine V_aload_n C dX0_breakUp_50 rfl ?_
            refine V_iconst C (v := nI 1) dX0_breakUp_51 (by decide +kernel) ?_
            refine V_iload_n C dX0_breakUp_52 rfl ?_
            refine V_iload_n C dX0_breakUp_53 rfl ?_
            refine V_callV (F := fun _ => True) C (c_lawForDust hX' hGc hq.1 hio.1 (k := 1) (r := r) (s := s) (by decide) (by omega) (by omega)) mi_X0_lawForDust ml_X0_114 rfl (ob_K hF) (by decide) (by decide) (by decide) (Nat.le_of_ble_eq_true rfl) (fun _ _ => trivial) (fun v _ => clo_T v) rfl dX0_breakUp_54 ?_
            rintro v S' I2 J2 ⟨hS9, rfl, sn, hJ9⟩
            have sk := sn.k
            obtain rfl := hS9.symm
            obtain rfl := hJ9.symm
            rw [← hlw]
            refine V_goto C 61 dX0_breakUp_57 (by decide) ?_
            exact some' _ _ _ sk rfl
          · have z : Dc 4 (5 * r + s) = 0 := i_0 (hio.2.1.2.1 _ hk) (Int32.not_lt.mp hd)
            have same : breakAt lw Dc r s = Dc := by
              unfold breakAt
              split
              · rfl
              · rw [z, prt_l0, mvD_0]
            refine V_iload_n C dX0_breakUp_27 rfl ?_
            refine V_iconst C (v := nI 5) dX0_breakUp_28 (by decide +kernel) ?_
            refine V_icmp_ge C 121 dX0_breakUp_29 (by decide) (fun h29 => absurd h29 (nI_ge (by omega) (by omega))) (fun h29 => ?_)
            refine V_iload_n C dX0_breakUp_32 rfl ?_
            refine V_iconst C (v := nI 5) dX0_breakUp_33 (by decide +kernel) ?_
            refine V_imul C dX0_breakUp_34 ?_
            refine V_iload_n C dX0_breakUp_35 rfl ?_
            refine V_iadd C dX0_breakUp_36 ?_
            rw [eidx]
            refine V_istore_n C dX0_breakUp_37 (hn _ (by decide)) ?_
            refine V_aload_n C dX0_breakUp_38 rfl ?_
            refine V_getR C fl_X0_12 (ob_K hF) hd0 rfl dX0_breakUp_39 ?_
            refine V_getR C fl_X0_80 (ob_K hK1) (ob_R hK1 11 (b + 12) rfl rfl) rfl dX0_breakUp_42 ?_
            refine V_iload_n C dX0_breakUp_45 rfl ?_
            refine V_iald C (5 * r + s) (ob_A hK1 11 (b + 12) rfl rfl) (by first | rfl | (simp only [nI_add, pk_mul]; done) | (simp only [nI_add, pk_mul]; congr 1; omega)) (by rw [ob_N hK1 11 (b + 12) rfl rfl]; omega) (by rw [ob_N hK1 11 (b + 12) rfl rfl]; decide) dX0_breakUp_46 ?_
            refine V_if_le C 60 dX0_breakUp_47 (by decide) (fun h47 => ?_) (fun h47 => absurd (by rw [e45]; exact Int32.not_lt.mp hd) h47)
            refine V_iconst C (v := (-1)) dX0_breakUp_60 (by decide +kernel) ?_
            exact none' _ _ _ Sk.re same
      refine V_iload_n C dX0_breakUp_14 rfl ?_
      refine V_aload_n C dX0_breakUp_15 rfl ?_
      refine V_getR C fl_X0_12 (ob_K hF) hd0 rfl dX0_breakUp_16 ?_
      refine V_getI C fl_X0_108 (ob_K hK1) rfl dX0_breakUp_19 ?_
      refine V_icmp_ge C 127 dX0_breakUp_22 (by decide) (fun h22 => absurd h22 (by rw [er]; exact nI_ge (by omega) (by omega))) (fun h22 => ?_)
      refine V_iconst C (v := nI 1) dX0_breakUp_25 (by decide +kernel) ?_
      refine V_istore_n C dX0_breakUp_26 (hn _ (by decide)) ?_
      exact inner 4 1 Dc Ic _ _ _ rfl hg hf hq hio he
  by_cases hno : nxI 1 0 L = -1
  · have same : s2D (kcl L (nI e)) q.1 = q.1 := breakN_no (fun f => by rw [show kcl L (nI e) 1 f = -1 from nxI_n L 0 (by have := hG.1.2.2.2.1; omega) hno]; decide) _ _ _
    refine V_aload_n C dX0_breakUp_0 rfl ?_
    refine V_getR C fl_X0_21 (ob_K hF) hl1 rfl dX0_breakUp_1 ?_
    refine V_iconst C (v := nI 1) dX0_breakUp_4 (by decide +kernel) ?_
    refine V_callV (F := fun _ => True) C (c_hasNone hL hG.1 (k := 1) (by decide)) mi_X2_hasNone ml_X0_72 rfl (ob_K hL) (by decide) (by decide) (by decide) (Nat.le_of_ble_eq_true rfl) (fun _ _ => trivial) (fun v _ => clo_T v) rfl dX0_breakUp_5 ?_
    rintro v S' I' J' ⟨hS9, rfl, hI9, hJ9⟩
    obtain rfl := hS9.symm
    obtain rfl := hI9.symm
    obtain rfl := hJ9.symm
    refine V_if_eq C 12 dX0_breakUp_8 (by decide) (fun h8 => absurd h8 (by rw [bI_0]; exact fun q => q hno)) (fun h8 => ?_)
    exact V_vret C (Nat.zero_le _) (Nat.zero_le _) dX0_breakUp_11 (hP _ _ _ ⟨rfl, by rw [same]; exact hQ, FC.re, rfl⟩)
  · refine V_aload_n C dX0_breakUp_0 rfl ?_
    refine V_getR C fl_X0_21 (ob_K hF) hl1 rfl dX0_breakUp_1 ?_
    refine V_iconst C (v := nI 1) dX0_breakUp_4 (by decide +kernel) ?_
    refine V_callV (F := fun _ => True) C (c_hasNone hL hG.1 (k := 1) (by decide)) mi_X2_hasNone ml_X0_72 rfl (ob_K hL) (by decide) (by decide) (by decide) (Nat.le_of_ble_eq_true rfl) (fun _ _ => trivial) (fun v _ => clo_T v) rfl dX0_breakUp_5 ?_
    rintro v S' I' J' ⟨hS9, rfl, hI9, hJ9⟩
    obtain rfl := hS9.symm
    obtain rfl := hI9.symm
    obtain rfl := hJ9.symm
    refine V_if_eq C 12 dX0_breakUp_8 (by decide) (fun h8 => ?_) (fun h8 => absurd (bI_f hno) h8)
    refine V_iconst C (v := nI 0) dX0_breakUp_12 (by decide +kernel) ?_
    refine V_istore_n C dX0_breakUp_13 (hn _ (by decide)) ?_
    exact outer n 0 q.1 I _ _ _ _ (Nat.zero_add _) hnn.symm FC.re hQ hi rfl
end C7
