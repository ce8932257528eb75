/-! the class's course: drift, gather -/
section C9
variable {l : Launch} {S : HS} {I I' : HI} {J J' : HJ} {b la : Nat} {D : DV} {L : List Law} {e lk : Nat} {q : QV}
variable {lw : LW} {G : Nat → Int32} {r s : Nat}
theorem lv_0 (h : wayD D r = 0) : lvD lw D G r s = nI 0 := by unfold lvD; rw [if_pos h, if_pos (by decide)]
theorem lv_h (h : wayD D r = -1) (h0 : 0 < r) (hr : r < 12) (hs : ¬ nI s < G (r - 1)) : lvD lw D G r s = nI 0 := by
  have eb : bkD D G r s = nI 1 := by unfold bkD; rw [h, if_neg (by decide), if_neg (nI_nle h0 (by omega)), if_neg hs]
  unfold lvD
  rw [eb, if_neg (show ¬ nI 1 = 0 by decide)]
  (repeat' split) <;> rfl
theorem lv_d (h : D 4 (5 * r + s) = 0) : lvD lw D G r s = nI 0 := by
  unfold lvD
  rw [h, prt_l0]
  (repeat' split) <;> rfl
theorem lv_n (h : lw 2 (fDu D r s) < 0) : lvD lw D G r s = nI 0 := by
  unfold lvD
  by_cases hw : wayD D r = 0
  · rw [if_pos hw, if_pos (by decide)]
  · rw [if_neg hw, if_pos h]
theorem lv_g (hw : ¬ wayD D r = 0) (hl : ¬ lw 2 (fDu D r s) < 0) (hr : r < 12) (hb : wayD D r = -1 → 0 < r → nI s < G (r - 1)) : lvD lw D G r s = prt (D 4 (5 * r + s)) (lw 2 (fDu D r s)) := by
  have eb : bkD D G r s = nI 0 := by
    unfold bkD
    by_cases h : 0 ≤ wayD D r
    · rw [if_pos h]
    · rw [if_neg h]
      have hm : wayD D r = -1 := by
        rcases wayD_cases D r with w | w | w
        · rw [w] at h; exact absurd (by decide) h
        · exact absurd w hw
        · exact w
      by_cases h0 : 0 < r
      · rw [if_neg (nI_nle h0 (by omega)), if_pos (hb hm h0)]
      · rw [if_pos (by rw [show r = 0 by omega]; decide)]
  unfold lvD
  rw [if_neg hw, if_neg hl, eb, if_pos (show nI 0 = 0 from rfl)]
theorem drN_no {D0 : DV} {lv : Nat → Nat → Int32} (h : ∀ r s, lv r s = 0) : ∀ (c r : Nat) (p : DV × Int64), drN D0 lv c r p = p := by
  have h1 : ∀ r s p, drAt D0 lv r s p = p := fun r s p => by
    unfold drAt
    rw [h]
    split
    · rw [mvD_0]
    · rw [Int32.sub_zero, up2_same, show (0 : Int32).toInt64 = 0 from rfl, Int64.add_zero]
  intro c
  induction c with
  | zero => intro r p; rfl
  | succ c ih =>
    intro r p
    show drN D0 lv c (r + 1) (drR D0 lv r 5 0 p) = p
    rw [ih]
    show drR D0 lv r 0 5 (drAt D0 lv r 4 (drAt D0 lv r 3 (drAt D0 lv r 2 (drAt D0 lv r 1 (drAt D0 lv r 0 p))))) = p
    rw [h1, h1, h1, h1, h1]
    rfl
/-- what leaves is laid down below (r, s) -/
def lvR (I : HI) (lv : Nat → Nat → Int32) (m : Nat) : Prop := ∀ r s, s < 5 → 5 * r + s < m → I 1147 (5 * r + s) = lv r s
theorem lvR.up {lv : Nat → Nat → Int32} (h : lvR I lv (5 * r + s)) (hs : s < 5) : lvR (up2 I 1147 (5 * r + s) (lv r s)) lv (5 * r + s + 1) := by
  intro r' s' h1 h2
  rw [up2_row]
  by_cases e : 5 * r' + s' = 5 * r + s
  · have er : r' = r := by omega
    have es : s' = s := by omega
    rw [er, es, va_up_self]
  · rw [va_up_ne _ _ e]; exact h r' s' h1 (by omega)
set_option maxRecDepth 100000 in
set_option maxHeartbeats 4000000 in
theorem c_drift (hX : CoS S b la) (hG : cG I la L e lk) (hQ : CQ I J b q) (hi : iOk q) (hgp : nxI 2 0 L = -1 ∨ gpR I (gapN (kcl L (nI e)) q.1 (cmD q.1))) : Mn l yX0_drift cX0_drift 8 none 4 [.ref 1140] S I J (fun v I' J' => v = none ∧ CQ I' J b ((s3D (kcl L (nI e)) (q.1, q.2.1)).1, (s3D (kcl L (nI e)) (q.1, q.2.1)).2, q.2.2) ∧ FC b I J I' J ∧ J' = J) := by
  refine Mn.of (by decide) (fun ad => by simp [lg_sl, vv, Value.category]) (fun X P hP hn C => ?_)
  have hX' := hX
  obtain ⟨hF, hd0, hl1, hK, hL, hb, hla⟩ := hX
  have hK1 := hK.1
  obtain ⟨lw, hlw⟩ : ∃ lw, lw = kcl L (nI e) := ⟨_, rfl⟩
  have hlO : lwOk lw := by rw [hlw]; exact hG.2.2.2.2.2
  have h12 := hi.1.2.2.1
  have h30 := hi.1.2.2.2.2.1
  obtain ⟨G, hGd⟩ : ∃ G, G = gapN lw q.1 (cmD q.1) := ⟨_, rfl⟩
  obtain ⟨b1, b2, b3, b4, b5, b6⟩ := id hi.2.1
  have le := hi.2.1.le
  have ht : dT q.1 + q.2.1.toInt ≤ 7200000 := by
    unfold tT at b6
    have := le.2.2.2.2.2
    omega
  have hlv : ∀ r s, r < rgD q.1 → s < 5 → 0 ≤ (lvD lw q.1 G r s).toInt ∧ (lvD lw q.1 G r s).toInt ≤ (q.1 4 (5 * r + s)).toInt := fun r s hr hs => lvD_i hlO hi hr hs
  have es3 : s3D lw (q.1, q.2.1) = drN q.1 (lvD lw q.1 G) (rgD q.1) 0 (q.1, q.2.1) := by rw [hGd]; rfl
  by_cases hno : nxI 2 0 L = -1
  · have same : s3D (kcl L (nI e)) (q.1, q.2.1) = (q.1, q.2.1) := drN_no (fun r s => lv_n (by rw [show kcl L (nI e) 2 (fDu q.1 r s) = -1 from nxI_n L 0 (by have := hG.1.2.2.2.1; omega) hno]; decide)) _ _ _
    refine V_aload_n C dX0_drift_0 rfl ?_
    refine V_getR C fl_X0_21 (ob_K hF) hl1 rfl dX0_drift_1 ?_
    refine V_iconst C (v := nI 2) dX0_drift_4 (by decide +kernel) ?_
    refine V_callV (F := fun _ => True) C (c_hasNone hL hG.1 (k := 2) (by decide)) mi_X2_hasNone ml_X0_72 rfl (ob_K hL) (by decide) (by decide) (by decide) (Nat.le_of_ble_eq_true rfl) (fun _ _ => trivial) (fun v _ => clo_T v) rfl dX0_drift_5 ?_
    rintro v S' I' J' ⟨hS9, rfl, hI9, hJ9⟩
    obtain rfl := hS9.symm
    obtain rfl := hI9.symm
    obtain rfl := hJ9.symm
    refine V_if_eq C 12 dX0_drift_8 (by decide) (fun h8 => absurd h8 (by rw [bI_0]; exact fun q => q hno)) (fun h8 => ?_)
    exact V_vret C (Nat.zero_le _) (Nat.zero_le _) dX0_drift_11 (hP _ _ _ ⟨rfl, by rw [same]; exact hQ, FC.re, rfl⟩)
  have hgp : gpR I G := by rw [hGd, hlw]; exact hgp.resolve_left hno
  -- all that leaves moves
  have loop2 : ∀ (c r : Nat) (p : DV × Int64) (In : HI) (x2 x3 x4 x5 x6 x7 : Option Value), r + c = rgD q.1 → dI q.1 q.2.1.toInt (5 * r) p → CQ In J b (p.1, p.2, q.2.2) → FC b I J In J → lvR In (lvD lw q.1 G) (5 * rgD q.1) → drN q.1 (lvD lw q.1 G) c r p = s3D lw (q.1, q.2.1) → V X P 0 0 168 [some (.ref 1140), some (.int (nI r)), x2, x3, x4, x5, x6, x7] [] S In J := by
    intro c
    induction c with
    | zero =>
      intro r p In x2 x3 x4 x5 x6 x7 hr hd hq hf hlr he
      have hr : r = rgD q.1 := hr
      have e0 : In b 0 = nI (rgD q.1) := by
        have := hq.1.1.1
        rw [this, show p.1 0 = q.1 0 from hd.1 0 (by decide)]
        exact hi.1.1
      have he : p = s3D lw (q.1, q.2.1) := he
      refine V_iload_n C dX0_drift_168 rfl ?_
      refine V_aload_n C dX0_drift_169 rfl ?_
      refine V_getR C fl_X0_12 (ob_K hF) hd0 rfl dX0_drift_170 ?_
      refine V_getI C fl_X0_108 (ob_K hK1) rfl dX0_drift_173 ?_
      refine V_icmp_ge C 198 dX0_drift_176 (by decide) (fun h176 => ?_) (fun h176 => absurd (by rw [e0, hr]; exact Int32.le_refl _) h176)
      exact V_vret C (Nat.zero_le _) (Nat.zero_le _) dX0_drift_198 (hP _ _ _ ⟨rfl, by rw [← hlw, ← he]; exact hq, hf, rfl⟩)
    | succ c ih =>
      intro r p In x2 x3 x4 x5 x6 x7 hr hd hq hf hlr he
      have k0 := hd.1 0 (by decide)
      have e0 : In b 0 = nI (rgD q.1) := by rw [hq.1.1.1, k0]; exact hi.1.1
      have hkp : kpD q.1 p.1 := ⟨by rw [k0], by rw [k0], hd.1 6 (by decide)⟩
      have hDp := hkp.ok hi.1
      have hw : wayD p.1 r = wayD q.1 r := kgD.way ⟨hkp, k0, hd.1 1 (by decide)⟩ r
      have hr2 : r < rgD p.1 := by rw [rg_kp hkp]; omega
      have hd2 := drR_i hi.1 hi.ok.2 ht (by omega) (fun s hs => hlv r s (by omega) hs) 5 0 p rfl hd
      have after : ∀ I2, CQ I2 J b ((drR q.1 (lvD lw q.1 G) r 5 0 p).1, (drR q.1 (lvD lw q.1 G) r 5 0 p).2, q.2.2) → FC b In J I2 J → I2 1147 = In 1147 → V X P 0 0 168 [some (.ref 1140), some (.int (nI (r + 1))), x2, x3, x4, x5, x6, x7] [] S I2 J := fun I2 q2 f2 e47 => ih (r + 1) _ I2 x2 x3 x4 x5 x6 x7 (by omega) hd2 q2 (hf.tr f2) (fun r' s' h1 h2 => by rw [e47]; exact hlr r' s' h1 h2) he
      refine V_iload_n C dX0_drift_168 rfl ?_
      refine V_aload_n C dX0_drift_169 rfl ?_
      refine V_getR C fl_X0_12 (ob_K hF) hd0 rfl dX0_drift_170 ?_
      refine V_getI C fl_X0_108 (ob_K hK1) rfl dX0_drift_173 ?_
      refine V_icmp_ge C 198 dX0_drift_176 (by decide) (fun h176 => absurd h176 (by rw [e0]; exact nI_ge (by omega) (by omega))) (fun h176 => ?_)
      refine V_aload_n C dX0_drift_179 rfl ?_
      refine V_iload_n C dX0_drift_180 rfl ?_
      refine V_aload_n C dX0_drift_181 rfl ?_
      refine V_getR C fl_X0_12 (ob_K hF) hd0 rfl dX0_drift_182 ?_
      refine V_iload_n C dX0_drift_185 rfl ?_
      refine V_callV (F := fun _ => True) C (c_wayFrom hK hq.1 hDp hr2) mi_X1_wayFrom ml_X0_151 rfl (ob_K hK1) (by decide) (by decide) (by decide) (Nat.le_of_ble_eq_true rfl) (fun _ _ => trivial) (fun v _ => clo_T v) rfl dX0_drift_186 ?_
      rintro v S' I' J' ⟨hS9, rfl, hI9, hJ9⟩
      obtain rfl := hS9.symm
      obtain rfl := hI9.symm
      obtain rfl := hJ9.symm
      rw [hw]
      refine V_callV (F := fun _ => True) C (c_leave hX' hi.1 hi.ok.2 ht (r := r) (by omega) (fun s hs => hlv r s (by omega) hs) hd hq (fun s hs => hlr r s hs (by omega))) mi_X0_leave ml_X0_154 rfl (ob_K hF) (by decide) (by decide) (by decide) (Nat.le_of_ble_eq_true rfl) (fun _ _ => trivial) (fun v _ => clo_T v) rfl dX0_drift_189 ?_
      rintro v S' I2 J2 ⟨hS9, rfl, q2, f2, e47, hJ9⟩
      obtain rfl := hS9.symm
      obtain rfl := hJ9.symm
      refine V_iincU C dX0_drift_192 rfl (hn _ (by decide)) ?_
      refine V_goto C 168 dX0_drift_195 (by decide) ?_
      exact after _ q2 f2 e47
  -- what leaves is found
  have loop1 : ∀ (c r : Nat) (In : HI) (x2 x3 x4 x5 x6 x7 : Option Value), r + c = rgD q.1 → Sk I In → gpR In G → lvR In (lvD lw q.1 G) (5 * r) → V X P 0 0 14 [some (.ref 1140), some (.int (nI r)), x2, x3, x4, x5, x6, x7] [] S In J := by
    intro c
    induction c with
    | zero =>
      intro r In x2 x3 x4 x5 x6 x7 hr sk hg hlr
      have hr : r = rgD q.1 := hr
      have hq := hQ.sk hb sk h30
      have e0 : In b 0 = nI (rgD q.1) := hq.1.rg hi.1
      rw [hr] at hlr
      refine V_iload_n C dX0_drift_14 rfl ?_
      refine V_aload_n C dX0_drift_15 rfl ?_
      refine V_getR C fl_X0_12 (ob_K hF) hd0 rfl dX0_drift_16 ?_
      refine V_getI C fl_X0_108 (ob_K hK1) rfl dX0_drift_19 ?_
      refine V_icmp_ge C 166 dX0_drift_22 (by decide) (fun h22 => ?_) (fun h22 => absurd (by rw [e0, hr]; exact Int32.le_refl _) h22)
      refine V_iconst C (v := nI 0) dX0_drift_166 (by decide +kernel) ?_
      refine V_istore_n C dX0_drift_167 (hn _ (by decide)) ?_
      exact loop2 _ 0 (q.1, q.2.1) _ _ _ _ _ _ _ (Nat.zero_add _) ⟨fun _ _ => rfl, b2, fun _ _ _ => Int.le_refl _, b4, rfl, hi.2.2.1.2.1⟩ hq (sk.fc) hlr es3.symm
    | succ c ih =>
      intro r In x2 x3 x4 x5 x6 x7 hr sk hg hlr
      have hq := hQ.sk hb sk h30
      have e0 : In b 0 = nI (rgD q.1) := hq.1.rg hi.1
      have hr12 : r < 12 := by omega
      obtain ⟨held, hheld⟩ : ∃ held : Int32, held = (if wayD q.1 r = -1 ∧ 0 < r then G (r - 1) else nI 5) := ⟨_, rfl⟩
      have inner : ∀ (m s : Nat) (Ic : HI) (x5 x6 x7 : Option Value), s + m = 5 → Sk I Ic → gpR Ic G → lvR Ic (lvD lw q.1 G) (5 * r + s) → V X P 0 0 58 [some (.ref 1140), some (.int (nI r)), some (.int (nI r + wayD q.1 r)), some (.int held), some (.int (nI s)), x5, x6, x7] [] S Ic J := by
        intro m
        induction m with
        | zero =>
          intro s Ic x5 x6 x7 hs sk hg hlr
          have hs : s = 5 := hs
          subst hs
          refine V_iload C dX0_drift_58 rfl ?_
          refine V_iconst C (v := nI 5) dX0_drift_60 (by decide +kernel) ?_
          refine V_icmp_ge C 160 dX0_drift_61 (by decide) (fun h61 => ?_) (fun h61 => absurd (by decide) h61)
          refine V_iincU C dX0_drift_160 rfl (hn _ (by decide)) ?_
          refine V_goto C 14 dX0_drift_163 (by decide) ?_
          exact ih (r + 1) Ic _ _ _ _ _ _ (by omega) sk hg hlr
        | succ m ih2 =>
          intro s Ic x5 x6 x7 hs sk hg hlr
          have hq := hQ.sk hb sk h30
          have hGc := hG.fc hb hla (sk.fc (b := b) (J := J))
          have hk : 5 * r + s < 60 := by omega
          have eidx : nI r * nI 5 + nI s = nI (5 * r + s) := by rw [pk_mul, nI_add, Nat.mul_comm]
          have e92 : Ic (b + 12) (5 * r + s) = q.1 4 (5 * r + s) := hq.1.2.2.1 _ hk
          have fin : ∀ (I2 : HI) (v : Int32) (x5 x6 x7 : Option Value), Sn Ic I2 → v = lvD lw q.1 G r s → V X P 0 0 58 [some (.ref 1140), some (.int (nI r)), some (.int (nI r + wayD q.1 r)), some (.int held), some (.int (nI (s + 1))), x5, x6, x7] [] S (up2 I2 1147 (5 * r + s) v) J := by
            intro I2 v x5 x6 x7 sn hv
            rw [hv]
            refine ih2 (s + 1) _ x5 x6 x7 (by omega) (sk.tr (sn.k.tr (Sk.up (by omega)))) (fun k hk => ?_) (lvR.up (fun r' s' h1 h2 => ?_) (by omega))
            · rw [up2_ne _ _ _ (by decide), sn 1148 (by decide) (by decide) (by decide)]; exact hg k hk
            · rw [sn 1147 (by decide) (by decide) (by decide)]; exact hlr r' s' h1 h2
          have stay : lvD lw q.1 G r s = nI 0 → ∀ (x6 x7 : Option Value), V X P 0 0 96 [some (.ref 1140), some (.int (nI r)), some (.int (nI r + wayD q.1 r)), some (.int held), some (.int (nI s)), some (.int (nI (5 * r + s))), x6, x7] [] S Ic J := by
            intro hz x6 x7
            refine V_iconst C (v := nI 1) dX0_drift_96 (by decide +kernel) ?_
            refine V_goto C 101 dX0_drift_97 (by decide) ?_
            refine V_istore C dX0_drift_101 (hn _ (by decide)) ?_
            refine V_iload C dX0_drift_103 rfl ?_
            refine V_if_eq C 112 dX0_drift_105 (by decide) (fun h105 => absurd h105 (by decide)) (fun h105 => ?_)
            refine V_iconst C (v := (-1)) dX0_drift_108 (by decide +kernel) ?_
            refine V_goto C 120 dX0_drift_109 (by decide) ?_
            refine V_istore C dX0_drift_120 (hn _ (by decide)) ?_
            refine V_aload_n C dX0_drift_122 rfl ?_
            refine V_getR C fl_X0_33 (ob_K hF) (ob_R hF 6 1147 rfl rfl) rfl dX0_drift_123 ?_
            refine V_iload C dX0_drift_126 rfl ?_
            refine V_iload C dX0_drift_128 rfl ?_
            refine V_iconst C (v := (-1)) dX0_drift_130 (by decide +kernel) ?_
            refine V_icmp_ne C 138 dX0_drift_131 (by decide) (fun h131 => absurd (rfl) h131) (fun h131 => ?_)
            refine V_iconst C (v := nI 0) dX0_drift_134 (by decide +kernel) ?_
            refine V_goto C 153 dX0_drift_135 (by decide) ?_
            refine V_iast C (5 * r + s) (ob_A hF 6 1147 rfl rfl) (by first | rfl | (simp only [nI_add, pk_mul]; done) | (simp only [nI_add, pk_mul]; congr 1; omega)) (by rw [ob_N hF 6 1147 rfl rfl]; omega) (by rw [ob_N hF 6 1147 rfl rfl]; decide) dX0_drift_153 ?_
            refine V_iincU C dX0_drift_154 rfl (hn _ (by decide)) ?_
            refine V_goto C 58 dX0_drift_157 (by decide) ?_
            exact fin _ _ _ _ _ Sn.re hz.symm
          by_cases hw0 : wayD q.1 r = 0
          · have eto : nI r + wayD q.1 r = nI r := by rw [hw0, Int32.add_zero]
            refine V_iload C dX0_drift_58 rfl ?_
            refine V_iconst C (v := nI 5) dX0_drift_60 (by decide +kernel) ?_
            refine V_icmp_ge C 160 dX0_drift_61 (by decide) (fun h61 => absurd h61 (nI_ge (by omega) (by omega))) (fun h61 => ?_)
            refine V_iload_n C dX0_drift_64 rfl ?_
            refine V_iconst C (v := nI 5) dX0_drift_65 (by decide +kernel) ?_
            refine V_imul C dX0_drift_66 ?_
            refine V_iload C dX0_drift_67 rfl ?_
            refine V_iadd C dX0_drift_69 ?_
            rw [eidx]
            refine V_istore C dX0_drift_70 (hn _ (by decide)) ?_
            refine V_iload_n C dX0_drift_72 rfl ?_
            refine V_iload_n C dX0_drift_73 rfl ?_
            refine V_icmp_eq C 96 dX0_drift_74 (by decide) (fun h74 => ?_) (fun h74 => absurd (eto) h74)
            exact stay (lv_0 hw0) _ _
          · have nto : ¬ nI r + wayD q.1 r = nI r := fun h => hw0 (Int32.add_eq_left.mp h)
            by_cases hh : held ≤ nI s
            · have hz : lvD lw q.1 G r s = nI 0 := by
                by_cases hc : wayD q.1 r = -1 ∧ 0 < r
                · rw [hheld, if_pos hc] at hh
                  exact lv_h hc.1 hc.2 hr12 (Int32.not_lt.mpr hh)
                · rw [hheld, if_neg hc] at hh
                  exact absurd hh (nI_ge (by omega) (by omega))
              refine V_iload C dX0_drift_58 rfl ?_
              refine V_iconst C (v := nI 5) dX0_drift_60 (by decide +kernel) ?_
              refine V_icmp_ge C 160 dX0_drift_61 (by decide) (fun h61 => absurd h61 (nI_ge (by omega) (by omega))) (fun h61 => ?_)
              refine V_iload_n C dX0_drift_64 rfl ?_
              refine V_iconst C (v := nI 5) dX0_drift_65 (by decide +kernel) ?_
              refine V_imul C dX0_drift_66 ?_
              refine V_iload C dX0_drift_67 rfl ?_
              refine V_iadd C dX0_drift_69 ?_
              rw [eidx]
              refine V_istore C dX0_drift_70 (hn _ (by decide)) ?_
              refine V_iload_n C dX0_drift_72 rfl ?_
              refine V_iload_n C dX0_drift_73 rfl ?_
              refine V_icmp_eq C 96 dX0_drift_74 (by decide) (fun h74 => absurd h74 (nto)) (fun h74 => ?_)
              refine V_iload C dX0_drift_77 rfl ?_
              refine V_iload_n C dX0_drift_79 rfl ?_
              refine V_icmp_ge C 96 dX0_drift_80 (by decide) (fun h80 => ?_) (fun h80 => absurd (hh) h80)
              exact stay hz _ _
            · by_cases hd : q.1 4 (5 * r + s) = 0
              · refine V_iload C dX0_drift_58 rfl ?_
                refine V_iconst C (v := nI 5) dX0_drift_60 (by decide +kernel) ?_
                refine V_icmp_ge C 160 dX0_drift_61 (by decide) (fun h61 => absurd h61 (nI_ge (by omega) (by omega))) (fun h61 => ?_)
                refine V_iload_n C dX0_drift_64 rfl ?_
                refine V_iconst C (v := nI 5) dX0_drift_65 (by decide +kernel) ?_
                refine V_imul C dX0_drift_66 ?_
                refine V_iload C dX0_drift_67 rfl ?_
                refine V_iadd C dX0_drift_69 ?_
                rw [eidx]
                refine V_istore C dX0_drift_70 (hn _ (by decide)) ?_
                refine V_iload_n C dX0_drift_72 rfl ?_
                refine V_iload_n C dX0_drift_73 rfl ?_
                refine V_icmp_eq C 96 dX0_drift_74 (by decide) (fun h74 => absurd h74 (nto)) (fun h74 => ?_)
                refine V_iload C dX0_drift_77 rfl ?_
                refine V_iload_n C dX0_drift_79 rfl ?_
                refine V_icmp_ge C 96 dX0_drift_80 (by decide) (fun h80 => absurd h80 (hh)) (fun h80 => ?_)
                refine V_aload_n C dX0_drift_83 rfl ?_
                refine V_getR C fl_X0_12 (ob_K hF) hd0 rfl dX0_drift_84 ?_
                refine V_getR C fl_X0_80 (ob_K hK1) (ob_R hK1 11 (b + 12) rfl rfl) rfl dX0_drift_87 ?_
                refine V_iload C dX0_drift_90 rfl ?_
                refine V_iald C (5 * r + s) (ob_A hK1 11 (b + 12) rfl rfl) (by first | rfl | (simp only [nI_add, pk_mul]; done) | (simp only [nI_add, pk_mul]; congr 1; omega)) (by rw [ob_N hK1 11 (b + 12) rfl rfl]; omega) (by rw [ob_N hK1 11 (b + 12) rfl rfl]; decide) dX0_drift_92 ?_
                refine V_if_ne C 100 dX0_drift_93 (by decide) (fun h93 => absurd (by rw [e92]; exact hd) h93) (fun h93 => ?_)
                exact stay (lv_d hd) _ _
              · have after : ∀ (I2 : HI) (nv : Int32) (x7 : Option Value), Sn Ic I2 → nv = lw 2 (fDu q.1 r s) → V X P 0 0 120 [some (.ref 1140), some (.int (nI r)), some (.int (nI r + wayD q.1 r)), some (.int held), some (.int (nI s)), some (.int (nI (5 * r + s))), some (.int (nI 0)), x7] [.int nv] S I2 J := by
                  intro I2 nv x7 sn hnv
                  by_cases hm : nv = -1
                  · have hz : lvD lw q.1 G r s = nI 0 := lv_n (by rw [← hnv, hm]; decide)
                    refine V_istore C dX0_drift_120 (hn _ (by decide)) ?_
                    refine V_aload_n C dX0_drift_122 rfl ?_
                    refine V_getR C fl_X0_33 (ob_K hF) (ob_R hF 6 1147 rfl rfl) rfl dX0_drift_123 ?_
                    refine V_iload C dX0_drift_126 rfl ?_
                    refine V_iload C dX0_drift_128 rfl ?_
                    refine V_iconst C (v := (-1)) dX0_drift_130 (by decide +kernel) ?_
                    refine V_icmp_ne C 138 dX0_drift_131 (by decide) (fun h131 => absurd (hm) h131) (fun h131 => ?_)
                    refine V_iconst C (v := nI 0) dX0_drift_134 (by decide +kernel) ?_
                    refine V_goto C 153 dX0_drift_135 (by decide) ?_
                    refine V_iast C (5 * r + s) (ob_A hF 6 1147 rfl rfl) (by first | rfl | (simp only [nI_add, pk_mul]; done) | (simp only [nI_add, pk_mul]; congr 1; omega)) (by rw [ob_N hF 6 1147 rfl rfl]; omega) (by rw [ob_N hF 6 1147 rfl rfl]; decide) dX0_drift_153 ?_
                    refine V_iincU C dX0_drift_154 rfl (hn _ (by decide)) ?_
                    refine V_goto C 58 dX0_drift_157 (by decide) ?_
                    exact fin _ _ _ _ _ sn hz.symm
                  · have nn : ¬ lw 2 (fDu q.1 r s) < 0 := fun h => hm (by rw [hnv]; exact (hlO.n1 (by decide)).mp h)
                    have hnq := hlO.nn (by decide) nn
                    rw [← hnv] at hnq
                    obtain ⟨p0, -, -⟩ := prt_i (b2 _ hk) (le.2.1 _ hk) hnq.1 (hnq.2.1 (by decide))
                    have hz : prt (q.1 4 (5 * r + s)) nv = lvD lw q.1 G r s := by
                      rw [lv_g hw0 nn hr12 (fun h1 h2 => ?_), hnv]
                      rw [hheld, if_pos ⟨h1, h2⟩] at hh
                      exact Int32.not_le.mp hh
                    have e147 : I2 (b + 12) (5 * r + s) = q.1 4 (5 * r + s) := by rw [sn _ (by omega) (by omega) (by omega)]; exact e92
                    refine V_istore C dX0_drift_120 (hn _ (by decide)) ?_
                    refine V_aload_n C dX0_drift_122 rfl ?_
                    refine V_getR C fl_X0_33 (ob_K hF) (ob_R hF 6 1147 rfl rfl) rfl dX0_drift_123 ?_
                    refine V_iload C dX0_drift_126 rfl ?_
                    refine V_iload C dX0_drift_128 rfl ?_
                    refine V_iconst C (v := (-1)) dX0_drift_130 (by decide +kernel) ?_
                    refine V_icmp_ne C 138 dX0_drift_131 (by decide) (fun h131 => ?_) (fun h131 => absurd h131 (hm))
                    refine V_aload_n C dX0_drift_138 rfl ?_
                    refine V_getR C fl_X0_12 (ob_K hF) hd0 rfl dX0_drift_139 ?_
                    refine V_getR C fl_X0_80 (ob_K hK1) (ob_R hK1 11 (b + 12) rfl rfl) rfl dX0_drift_142 ?_
                    refine V_iload C dX0_drift_145 rfl ?_
                    refine V_iald C (5 * r + s) (ob_A hK1 11 (b + 12) rfl rfl) (by first | rfl | (simp only [nI_add, pk_mul]; done) | (simp only [nI_add, pk_mul]; congr 1; omega)) (by rw [ob_N hK1 11 (b + 12) rfl rfl]; omega) (by rw [ob_N hK1 11 (b + 12) rfl rfl]; decide) dX0_drift_147 ?_
                    rw [e147]
                    refine V_iload C dX0_drift_148 rfl ?_
                    refine V_callS (F := fun _ => True) C (c_shareOf _ _) ms_X0_shareOf ml_X0_121 rfl (by decide) (by decide) (Nat.le_of_ble_eq_true rfl) (fun _ _ => trivial) (fun v _ => clo_T v) rfl dX0_drift_150 ?_
                    rintro v S' I' J' ⟨hS9, rfl, hI9, hJ9⟩
                    obtain rfl := hS9.symm
                    obtain rfl := hI9.symm
                    obtain rfl := hJ9.symm
                    rw [p0]
                    refine V_iast C (5 * r + s) (ob_A hF 6 1147 rfl rfl) (by first | rfl | (simp only [nI_add, pk_mul]; done) | (simp only [nI_add, pk_mul]; congr 1; omega)) (by rw [ob_N hF 6 1147 rfl rfl]; omega) (by rw [ob_N hF 6 1147 rfl rfl]; decide) dX0_drift_153 ?_
                    refine V_iincU C dX0_drift_154 rfl (hn _ (by decide)) ?_
                    refine V_goto C 58 dX0_drift_157 (by decide) ?_
                    exact fin _ _ _ _ _ sn hz
                refine V_iload C dX0_drift_58 rfl ?_
                refine V_iconst C (v := nI 5) dX0_drift_60 (by decide +kernel) ?_
                refine V_icmp_ge C 160 dX0_drift_61 (by decide) (fun h61 => absurd h61 (nI_ge (by omega) (by omega))) (fun h61 => ?_)
                refine V_iload_n C dX0_drift_64 rfl ?_
                refine V_iconst C (v := nI 5) dX0_drift_65 (by decide +kernel) ?_
                refine V_imul C dX0_drift_66 ?_
                refine V_iload C dX0_drift_67 rfl ?_
                refine V_iadd C dX0_drift_69 ?_
                rw [eidx]
                refine V_istore C dX0_drift_70 (hn _ (by decide)) ?_
                refine V_iload_n C dX0_drift_72 rfl ?_
                refine V_iload_n C dX0_drift_73 rfl ?_
                refine V_icmp_eq C 96 dX0_drift_74 (by decide) (fun h74 => absurd h74 (nto)) (fun h74 => ?_)
                refine V_iload C dX0_drift_77 rfl ?_
                refine V_iload_n C dX0_drift_79 rfl ?_
                refine V_icmp_ge C 96 dX0_drift_80 (by decide) (fun h80 => absurd h80 (hh)) (fun h80 => ?_)
                refine V_aload_n C dX0_drift_83 rfl ?_
                refine V_getR C fl_X0_12 (ob_K hF) hd0 rfl dX0_drift_84 ?_
                refine V_getR C fl_X0_80 (ob_K hK1) (ob_R hK1 11 (b + 12) rfl rfl) rfl dX0_drift_87 ?_
                refine V_iload C dX0_drift_90 rfl ?_
                refine V_iald C (5 * r + s) (ob_A hK1 11 (b + 12) rfl rfl) (by first | rfl | (simp only [nI_add, pk_mul]; done) | (simp only [nI_add, pk_mul]; congr 1; omega)) (by rw [ob_N hK1 11 (b + 12) rfl rfl]; omega) (by rw [ob_N hK1 11 (b + 12) rfl rfl]; decide) dX0_drift_92 ?_
                refine V_if_ne C 100 dX0_drift_93 (by decide) (fun h93 => ?_) (fun h93 => absurd h93 (by rw [e92]; exact hd))
                refine V_iconst C (v := nI 0) dX0_drift_100 (by decide +kernel) ?_
                refine V_istore C dX0_drift_101 (hn _ (by decide)) ?_
                refine V_iload C dX0_drift_103 rfl ?_
                refine V_if_eq C 112 dX0_drift_105 (by decide) (fun h105 => ?_) (fun h105 => absurd (rfl) h105)
                refine V_aload_n C dX0_drift_112 rfl ?_
                refine V_iconst C (v := nI 2) dX0_drift_113 (by decide +kernel) ?_
                refine V_iload_n C dX0_drift_114 rfl ?_
                refine V_iload C dX0_drift_115 rfl ?_
                refine V_callV (F := fun _ => True) C (c_lawForDust hX' hGc hq.1 hi.1 (k := 2) (r := r) (s := s) (by decide) hr12 (by omega)) mi_X0_lawForDust ml_X0_114 rfl (ob_K hF) (by decide) (by decide) (by decide) (Nat.le_of_ble_eq_true rfl) (fun _ _ => trivial) (fun v _ => clo_T v) rfl dX0_drift_117 ?_
                rintro v S' I2 J2 ⟨hS9, rfl, sn, hJ9⟩
                obtain rfl := hS9.symm
                obtain rfl := hJ9.symm
                rw [← hlw]
                exact after _ _ _ sn rfl
      have m54 : ∀ (x4 x5 x6 x7 : Option Value), V X P 0 0 54 [some (.ref 1140), some (.int (nI r)), some (.int (nI r + wayD q.1 r)), x3, x4, x5, x6, x7] [.int held] S In J := by
        intro x4 x5 x6 x7
        refine V_istore_n C dX0_drift_54 (hn _ (by decide)) ?_
        refine V_iconst C (v := nI 0) dX0_drift_55 (by decide +kernel) ?_
        refine V_istore C dX0_drift_56 (hn _ (by decide)) ?_
        exact inner 5 0 In _ _ _ rfl sk hg hlr
      have m34 : ∀ (x4 x5 x6 x7 : Option Value), V X P 0 0 34 [some (.ref 1140), some (.int (nI r)), some (.int (nI r + wayD q.1 r)), x3, x4, x5, x6, x7] [] S In J := by
        intro x4 x5 x6 x7
        rcases wayD_cases q.1 r with w | w | w
        · have eh : held = nI 5 := by rw [hheld, if_neg (fun h => by rw [w] at h; exact absurd h.1 (by decide))]
          have m := m54 x4 x5 x6 x7
          rw [eh] at m
          refine V_iload_n C dX0_drift_34 rfl ?_
          refine V_iload_n C dX0_drift_35 rfl ?_
          refine V_icmp_ge C 53 dX0_drift_36 (by decide) (fun h36 => ?_) (fun h36 => absurd (by rw [w, nI_1]; exact nI_le (by omega) (by omega)) h36)
          refine V_iconst C (v := nI 5) dX0_drift_53 (by decide +kernel) ?_
          exact m
        · have eh : held = nI 5 := by rw [hheld, if_neg (fun h => by rw [w] at h; exact absurd h.1 (by decide))]
          have m := m54 x4 x5 x6 x7
          rw [eh] at m
          refine V_iload_n C dX0_drift_34 rfl ?_
          refine V_iload_n C dX0_drift_35 rfl ?_
          refine V_icmp_ge C 53 dX0_drift_36 (by decide) (fun h36 => ?_) (fun h36 => absurd (by rw [w, Int32.add_zero]; exact Int32.le_refl _) h36)
          refine V_iconst C (v := nI 5) dX0_drift_53 (by decide +kernel) ?_
          exact m
        · cases r with
          | zero =>
            have eh : held = nI 5 := by rw [hheld, if_neg (fun h => absurd h.2 (Nat.lt_irrefl _))]
            have m := m54 x4 x5 x6 x7
            rw [eh] at m
            refine V_iload_n C dX0_drift_34 rfl ?_
            refine V_iload_n C dX0_drift_35 rfl ?_
            refine V_icmp_ge C 53 dX0_drift_36 (by decide) (fun h36 => absurd h36 (by rw [w]; decide)) (fun h36 => ?_)
            refine V_iload_n C dX0_drift_39 rfl ?_
            refine V_iconst C (v := (-1)) dX0_drift_40 (by decide +kernel) ?_
            refine V_icmp_eq C 53 dX0_drift_41 (by decide) (fun h41 => ?_) (fun h41 => absurd (by rw [w]; decide) h41)
            refine V_iconst C (v := nI 5) dX0_drift_53 (by decide +kernel) ?_
            exact m
          | succ r0 =>
            have eh : held = G r0 := by rw [hheld, if_pos ⟨w, by omega⟩]; rfl
            have eto : nI (r0 + 1) + wayD q.1 (r0 + 1) = nI r0 := by rw [w, pk_m1]
            have m := m54 x4 x5 x6 x7
            rw [eh, ← hg r0 (by omega)] at m
            refine V_iload_n C dX0_drift_34 rfl ?_
            refine V_iload_n C dX0_drift_35 rfl ?_
            refine V_icmp_ge C 53 dX0_drift_36 (by decide) (fun h36 => absurd h36 (by rw [eto]; exact nI_ge (by omega) (by omega))) (fun h36 => ?_)
            refine V_iload_n C dX0_drift_39 rfl ?_
            refine V_iconst C (v := (-1)) dX0_drift_40 (by decide +kernel) ?_
            refine V_icmp_eq C 53 dX0_drift_41 (by decide) (fun h41 => absurd h41 (by rw [eto]; exact fun h => nI_pos (n := r0) (by omega) (by rw [h]; decide))) (fun h41 => ?_)
            refine V_aload_n C dX0_drift_44 rfl ?_
            refine V_getR C fl_X0_36 (ob_K hF) (ob_R hF 7 1148 rfl rfl) rfl dX0_drift_45 ?_
            refine V_iload_n C dX0_drift_48 rfl ?_
            refine V_iald C (r0) (ob_A hF 7 1148 rfl rfl) eto (by rw [ob_N hF 7 1148 rfl rfl]; omega) (by rw [ob_N hF 7 1148 rfl rfl]; decide) dX0_drift_49 ?_
            refine V_goto C 54 dX0_drift_50 (by decide) ?_
            exact m
      refine V_iload_n C dX0_drift_14 rfl ?_
      refine V_aload_n C dX0_drift_15 rfl ?_
      refine V_getR C fl_X0_12 (ob_K hF) hd0 rfl dX0_drift_16 ?_
      refine V_getI C fl_X0_108 (ob_K hK1) rfl dX0_drift_19 ?_
      refine V_icmp_ge C 166 dX0_drift_22 (by decide) (fun h22 => absurd h22 (by rw [e0]; exact nI_ge (by omega) (by omega))) (fun h22 => ?_)
      refine V_aload_n C dX0_drift_25 rfl ?_
      refine V_getR C fl_X0_12 (ob_K hF) hd0 rfl dX0_drift_26 ?_
      refine V_iload_n C dX0_drift_29 rfl ?_
      refine V_callV (F := fun _ => True) C (c_wayFrom hK hq.1 hi.1 (r := r) (by omega)) mi_X1_wayFrom ml_X0_151 rfl (ob_K hK1) (by decide) (by decide) (by decide) (Nat.le_of_ble_eq_true rfl) (fun _ _ => trivial) (fun v _ => clo_T v) rfl dX0_drift_30 ?_
      rintro v S' I' J' ⟨hS9, rfl, hI9, hJ9⟩
      obtain rfl := hS9.symm
      obtain rfl := hI9.symm
      obtain rfl := hJ9.symm
      refine V_istore_n C dX0_drift_33 (hn _ (by decide)) ?_
      exact m34 _ _ _ _
  refine V_aload_n C dX0_drift_0 rfl ?_
  refine V_getR C fl_X0_21 (ob_K hF) hl1 rfl dX0_drift_1 ?_
  refine V_iconst C (v := nI 2) dX0_drift_4 (by decide +kernel) ?_
  refine V_callV (F := fun _ => True) C (c_hasNone hL hG.1 (k := 2) (by decide)) mi_X2_hasNone ml_X0_72 rfl (ob_K hL) (by decide) (by decide) (by decide) (Nat.le_of_ble_eq_true rfl) (fun _ _ => trivial) (fun v _ => clo_T v) rfl dX0_drift_5 ?_
  rintro v S' I' J' ⟨hS9, rfl, hI9, hJ9⟩
  obtain rfl := hS9.symm
  obtain rfl := hI9.symm
  obtain rfl := hJ9.symm
  refine V_if_eq C 12 dX0_drift_8 (by decide) (fun h8 => ?_) (fun h8 => absurd (bI_f hno) h8)
  refine V_iconst C (v := nI 0) dX0_drift_12 (by decide +kernel) ?_
  refine V_istore_n C dX0_drift_13 (hn _ (by decide)) ?_
  exact loop1 _ 0 _ _ _ _ _ _ _ (Nat.zero_add _) Sk.re hgp (fun r s h1 h2 => absurd h2 (Nat.not_lt_zero _))
theorem gathN_no {lw : LW} (h : ∀ f, lw 3 f < 0) : ∀ (c r : Nat) (D : DV), gathN lw c r D = D := by
  have h1 : ∀ r s D, gathAt lw D r s = D := fun r s D => by unfold gathAt; rw [if_pos (h _)]
  intro c
  induction c with
  | zero => intro r D; rfl
  | succ c ih =>
    intro r D
    show gathN lw c (r + 1) (gathR lw r 5 D) = D
    rw [ih]
    show gathR lw r 0 (gathAt lw (gathAt lw (gathAt lw (gathAt lw (gathAt lw D r 4) r 3) r 2) r 1) r 0) = D
    rw [h1, h1, h1, h1, h1]
    rfl
theorem gathAt_00 {lw : LW} : gathAt lw D r s 0 0 = D 0 0 := by
  unfold gathAt
  split
  · rfl
  · split
    · rfl
    · split <;> rfl
set_option maxRecDepth 100000 in
set_option maxHeartbeats 2000000 in
theorem c_gather (hX : CoS S b la) (hG : cG I la L e lk) (hQ : CQ I J b q) (hi : iOk q) : Mn l yX0_gather cX0_gather 5 none 4 [.ref 1140] S I J (fun v I' J' => v = none ∧ CQ I' J b (g4D (kcl L (nI e)) q.1, q.2) ∧ FC b I J I' J ∧ J' = J) := by
  refine Mn.of (by decide) (fun ad => by simp [lg_sl, vv, Value.category]) (fun X P hP hn C => ?_)
  have hX' := hX
  obtain ⟨hF, hd0, hl1, hK, hL, hb, hla⟩ := hX
  have hK1 := hK.1
  obtain ⟨lw, hlw⟩ : ∃ lw, lw = kcl L (nI e) := ⟨_, rfl⟩
  have hlO : lwOk lw := by rw [hlw]; exact hG.2.2.2.2.2
  obtain ⟨n, hnn⟩ : ∃ n, n = rgD q.1 := ⟨_, rfl⟩
  have h12 : n ≤ 12 := by rw [hnn]; exact hi.1.2.2.1
  have outer : ∀ (c r : Nat) (Dc : DV) (Ic : HI) (x2 x3 x4 : Option Value), r + c = n → rgD Dc = n → FC b I J Ic J → CQ Ic J b (Dc, q.2) → iOk (Dc, q.2) → gathN lw c r Dc = gathN lw n 0 q.1 → V X P 0 0 14 [some (.ref 1140), some (.int (nI r)), x2, x3, x4] [] S Ic J := by
    intro c
    induction c with
    | zero =>
      intro r Dc Ic x2 x3 x4 hr hg hf hq hio he
      have hr : r = n := hr
      have er : Ic b 0 = nI n := by rw [← hg]; exact hq.1.rg hio.1
      have he : Dc = gathN lw n 0 q.1 := he
      refine V_iload_n C dX0_gather_14 rfl ?_
      refine V_aload_n C dX0_gather_15 rfl ?_
      refine V_getR C fl_X0_12 (ob_K hF) hd0 rfl dX0_gather_16 ?_
      refine V_getI C fl_X0_108 (ob_K hK1) rfl dX0_gather_19 ?_
      refine V_icmp_ge C 105 dX0_gather_22 (by decide) (fun h22 => ?_) (fun h22 => absurd (by rw [er, hr]; exact Int32.le_refl _) h22)
      exact V_vret C (Nat.zero_le _) (Nat.zero_le _) dX0_gather_105 (hP _ _ _ ⟨rfl, by unfold g4D; rw [← hlw, ← hnn, ← he]; exact hq, hf, rfl⟩)
    | succ c ih =>
      intro r Dc Ic x2 x3 x4 hr hg hf hq hio he
      have er : Ic b 0 = nI n := by rw [← hg]; exact hq.1.rg hio.1
      have inner : ∀ (m : Nat) (Dc : DV) (Ic : HI) (x3 x4 : Option Value), m ≤ 5 → rgD Dc = n → FC b I J Ic J → CQ Ic J b (Dc, q.2) → iOk (Dc, q.2) → gathN lw c (r + 1) (gathR lw r m Dc) = gathN lw n 0 q.1 → V X P 0 0 27 [some (.ref 1140), some (.int (nI r)), some (.int (dn m)), x3, x4] [] S Ic J := by
        intro m
        induction m with
        | zero =>
          intro Dc Ic x3 x4 hm hg hf hq hio he
          refine V_iload_n C dX0_gather_27 rfl ?_
          refine V_if_lt C 99 dX0_gather_28 (by decide) (fun h28 => ?_) (fun h28 => absurd (by decide) h28)
          refine V_iincU C dX0_gather_99 rfl (hn _ (by decide)) ?_
          refine V_goto C 14 dX0_gather_102 (by decide) ?_
          exact ih (r + 1) Dc Ic _ _ _ (by omega) hg hf hq hio he
        | succ s ih2 =>
          intro Dc Ic x3 x4 hm hg hf hq hio he
          have hk : 5 * r + s < 60 := by omega
          have hrn : r < rgD Dc := by omega
          have eidx : nI r * nI 5 + nI s = nI (5 * r + s) := by rw [pk_mul, nI_add, Nat.mul_comm]
          have e43 : Ic (b + 12) (5 * r + s) = Dc 4 (5 * r + s) := hq.1.2.2.1 _ hk
          have hGc := hG.fc hb hla hf
          have hio2 := gathAt_i hlO hio hrn (show s < 5 by omega)
          have e6 : Ic b 6 = Dc 0 6 := hq.1.1.2.2.2.2.1
          have fin : ∀ (In : HI) (x3 x4 : Option Value), FC b Ic J In J → CQ In J b (gathAt lw Dc r s, q.2) → V X P 0 0 27 [some (.ref 1140), some (.int (nI r)), some (.int (nI s + Int32.ofInt (-1))), x3, x4] [] S In J := by
            intro In x3 x4 f2 q2
            rw [dn_dec]
            exact ih2 _ In x3 x4 (by omega) (by unfold rgD; rw [gathAt_00]; exact hg) (hf.tr f2) q2 hio2 he
          show V X P 0 0 27 [some (.ref 1140), some (.int (nI r)), some (.int (nI s)), x3, x4] [] S Ic J
          have no : ∀ (I2 : HI) (x3 x4 : Option Value), Sk Ic I2 → gathAt lw Dc r s = Dc → V X P 0 0 70 [some (.ref 1140), some (.int (nI r)), some (.int (nI s)), x3, x4] [.int (-1)] S I2 J := by
            intro I2 x3 x4 sk same
            refine V_istore C dX0_gather_70 (hn _ (by decide)) ?_
            refine V_iload C dX0_gather_72 rfl ?_
            refine V_iconst C (v := (-1)) dX0_gather_74 (by decide +kernel) ?_
            refine V_icmp_eq C 93 dX0_gather_75 (by decide) (fun h75 => ?_) (fun h75 => absurd (rfl) h75)
            refine V_iinc C dX0_gather_93 rfl (hn _ (by decide)) ?_
            refine V_goto C 27 dX0_gather_96 (by decide) ?_
            exact fin _ _ _ (sk.fc) (by rw [same]; exact hq.sk hb sk hio.1.2.2.2.2.1)
          by_cases hd : 0 < Dc 4 (5 * r + s)
          · by_cases hmay : Dc 0 6 < nI 30
            · have after : ∀ (I2 : HI) (nv : Int32) (x4 : Option Value), Sk Ic I2 → nv = lw 3 (fDu Dc r s) → V X P 0 0 70 [some (.ref 1140), some (.int (nI r)), some (.int (nI s)), some (.int (Dc 4 (5 * r + s))), x4] [.int nv] S I2 J := by
                intro I2 nv x4 sk hnv
                by_cases hmm : nv = -1
                · rw [hmm]
                  exact no I2 _ _ sk (by unfold gathAt; rw [if_pos (by rw [← hnv, hmm]; decide)])
                · have nn : ¬ lw 3 (fDu Dc r s) < 0 := fun h => hmm (by rw [hnv]; exact (hlO.n1 (by decide)).mp h)
                  have q1 := hq.sk hb sk hio.1.2.2.2.2.1
                  by_cases hlt : Dc 4 (5 * r + s) < nv
                  · have same : gathAt lw Dc r s = Dc := by unfold gathAt; rw [if_neg nn, if_pos (by rw [← hnv]; exact hlt)]
                    refine V_istore C dX0_gather_70 (hn _ (by decide)) ?_
                    refine V_iload C dX0_gather_72 rfl ?_
                    refine V_iconst C (v := (-1)) dX0_gather_74 (by decide +kernel) ?_
                    refine V_icmp_eq C 93 dX0_gather_75 (by decide) (fun h75 => absurd h75 (hmm)) (fun h75 => ?_)
                    refine V_iload_n C dX0_gather_78 rfl ?_
                    refine V_iload C dX0_gather_79 rfl ?_
                    refine V_icmp_lt C 93 dX0_gather_81 (by decide) (fun h81 => ?_) (fun h81 => absurd (hlt) h81)
                    refine V_iinc C dX0_gather_93 rfl (hn _ (by decide)) ?_
                    refine V_goto C 27 dX0_gather_96 (by decide) ?_
                    exact fin _ _ _ (sk.fc) (by rw [same]; exact q1)
                  · have hnew : gathAt lw Dc r s = newL Dc r s := by unfold gathAt; rw [if_neg nn, if_neg (by rw [← hnv]; exact hlt), if_neg (Int32.not_le.mpr hmay)]
                    have hc30 : cmD Dc < 30 := by
                      refine Nat.lt_of_not_le (fun q9 => Int32.not_le.mpr hmay ?_)
                      rw [show Dc 0 6 = nI (cmD Dc) from hio.1.2.2.2.1]
                      exact nI_le q9 (by have h9 : cmD Dc ≤ 30 := hio.1.2.2.2.2.1; omega)
                    refine V_istore C dX0_gather_70 (hn _ (by decide)) ?_
                    refine V_iload C dX0_gather_72 rfl ?_
                    refine V_iconst C (v := (-1)) dX0_gather_74 (by decide +kernel) ?_
                    refine V_icmp_eq C 93 dX0_gather_75 (by decide) (fun h75 => absurd h75 (hmm)) (fun h75 => ?_)
                    refine V_iload_n C dX0_gather_78 rfl ?_
                    refine V_iload C dX0_gather_79 rfl ?_
                    refine V_icmp_lt C 93 dX0_gather_81 (by decide) (fun h81 => absurd h81 (hlt)) (fun h81 => ?_)
                    refine V_aload_n C dX0_gather_84 rfl ?_
                    refine V_getR C fl_X0_12 (ob_K hF) hd0 rfl dX0_gather_85 ?_
                    refine V_iload_n C dX0_gather_88 rfl ?_
                    refine V_iload_n C dX0_gather_89 rfl ?_
                    refine V_callV (F := fun _ => True) C (c_gatherAll hb hK q1.1 hio.1 (r := r) (s := s) hrn (by omega) hc30) mi_X1_gatherAll ml_X0_165 rfl (ob_K hK1) (by decide) (by decide) (by decide) (Nat.le_of_ble_eq_true rfl) (fun _ _ => trivial) (fun v _ => clo_T v) rfl dX0_gather_90 ?_
                    rintro v S' I3 J3 ⟨hS9, rfl, cd3, f3, f45, hJ9⟩
                    obtain rfl := hS9.symm
                    obtain rfl := hJ9.symm
                    refine V_iinc C dX0_gather_93 rfl (hn _ (by decide)) ?_
                    refine V_goto C 27 dX0_gather_96 (by decide) ?_
                    exact fin _ _ _ ((sk.fc).tr f3) (by rw [hnew]; exact q1.of cd3 f45.1 f45.2)
              refine V_iload_n C dX0_gather_27 rfl ?_
              refine V_if_lt C 99 dX0_gather_28 (by decide) (fun h28 => absurd h28 (nI_pos (by omega))) (fun h28 => ?_)
              refine V_aload_n C dX0_gather_31 rfl ?_
              refine V_getR C fl_X0_12 (ob_K hF) hd0 rfl dX0_gather_32 ?_
              refine V_getR C fl_X0_80 (ob_K hK1) (ob_R hK1 11 (b + 12) rfl rfl) rfl dX0_gather_35 ?_
              refine V_iload_n C dX0_gather_38 rfl ?_
              refine V_iconst C (v := nI 5) dX0_gather_39 (by decide +kernel) ?_
              refine V_imul C dX0_gather_40 ?_
              refine V_iload_n C dX0_gather_41 rfl ?_
              refine V_iadd C dX0_gather_42 ?_
              refine V_iald C (5 * r + s) (ob_A hK1 11 (b + 12) rfl rfl) eidx (by rw [ob_N hK1 11 (b + 12) rfl rfl]; omega) (by rw [ob_N hK1 11 (b + 12) rfl rfl]; decide) dX0_gather_43 ?_
              rw [e43]
              refine V_istore_n C dX0_gather_44 (hn _ (by decide)) ?_
              refine V_iload_n C dX0_gather_45 rfl ?_
              refine V_if_le C 69 dX0_gather_46 (by decide) (fun h46 => absurd h46 (Int32.not_le.mpr hd)) (fun h46 => ?_)
              refine V_aload_n C dX0_gather_49 rfl ?_
              refine V_getR C fl_X0_12 (ob_K hF) hd0 rfl dX0_gather_50 ?_
              refine V_callV (F := fun _ => True) C (c_mayOne hK) mi_X1_mayOneMoreCome ml_X0_161 rfl (ob_K hK1) (by decide) (by decide) (by decide) (Nat.le_of_ble_eq_true rfl) (fun _ _ => trivial) (fun v _ => clo_T v) rfl dX0_gather_53 ?_
              rintro v S' I' J' ⟨hS9, rfl, hI9, hJ9⟩
              obtain rfl := hS9.symm
              obtain rfl := hI9.symm
              obtain rfl := hJ9.symm
              refine V_if_eq C 69 dX0_gather_56 (by decide) (fun h56 => absurd h56 (by rw [bI_0, e6]; exact fun q => q hmay)) (fun h56 => ?_)
              refine V_aload_n C dX0_gather_59 rfl ?_
              refine V_iconst C (v := nI 3) dX0_gather_60 (by decide +kernel) ?_
              refine V_iload_n C dX0_gather_61 rfl ?_
              refine V_iload_n C dX0_gather_62 rfl ?_
              refine V_callV (F := fun _ => True) C (c_lawForDust hX' hGc hq.1 hio.1 (k := 3) (r := r) (s := s) (by decide) (by omega) (by omega)) mi_X0_lawForDust ml_X0_114 rfl (ob_K hF) (by decide) (by decide) (by decide) (Nat.le_of_ble_eq_true rfl) (fun _ _ => trivial) (fun v _ => clo_T v) rfl dX0_gather_63 ?_
              rintro v S' I2 J2 ⟨hS9, rfl, sn, hJ9⟩
              obtain rfl := hS9.symm
              obtain rfl := hJ9.symm
              rw [← hlw]
              refine V_goto C 70 dX0_gather_66 (by decide) ?_
              exact after _ _ _ sn.k rfl
            · have same : gathAt lw Dc r s = Dc := by
                unfold gathAt
                split
                · rfl
                · split
                  · rfl
                  · rw [if_pos (Int32.not_lt.mp hmay)]
              refine V_iload_n C dX0_gather_27 rfl ?_
              refine V_if_lt C 99 dX0_gather_28 (by decide) (fun h28 => absurd h28 (nI_pos (by omega))) (fun h28 => ?_)
              refine V_aload_n C dX0_gather_31 rfl ?_
              refine V_getR C fl_X0_12 (ob_K hF) hd0 rfl dX0_gather_32 ?_
              refine V_getR C fl_X0_80 (ob_K hK1) (ob_R hK1 11 (b + 12) rfl rfl) rfl dX0_gather_35 ?_
              refine V_iload_n C dX0_gather_38 rfl ?_
              refine V_iconst C (v := nI 5) dX0_gather_39 (by decide +kernel) ?_
              refine V_imul C dX0_gather_40 ?_
              refine V_iload_n C dX0_gather_41 rfl ?_
              refine V_iadd C dX0_gather_42 ?_
              refine V_iald C (5 * r + s) (ob_A hK1 11 (b + 12) rfl rfl) eidx (by rw [ob_N hK1 11 (b + 12) rfl rfl]; omega) (by rw [ob_N hK1 11 (b + 12) rfl rfl]; decide) dX0_gather_43 ?_
              rw [e43]
              refine V_istore_n C dX0_gather_44 (hn _ (by decide)) ?_
              refine V_iload_n C dX0_gather_45 rfl ?_
              refine V_if_le C 69 dX0_gather_46 (by decide) (fun h46 => absurd h46 (Int32.not_le.mpr hd)) (fun h46 => ?_)
              refine V_aload_n C dX0_gather_49 rfl ?_
              refine V_getR C fl_X0_12 (ob_K hF) hd0 rfl dX0_gather_50 ?_
              refine V_callV (F := fun _ => True) C (c_mayOne hK) mi_X1_mayOneMoreCome ml_X0_161 rfl (ob_K hK1) (by decide) (by decide) (by decide) (Nat.le_of_ble_eq_true rfl) (fun _ _ => trivial) (fun v _ => clo_T v) rfl dX0_gather_53 ?_
              rintro v S' I' J' ⟨hS9, rfl, hI9, hJ9⟩
              obtain rfl := hS9.symm
              obtain rfl := hI9.symm
              obtain rfl := hJ9.symm
              refine V_if_eq C 69 dX0_gather_56 (by decide) (fun h56 => ?_) (fun h56 => absurd (bI_f (by rw [e6]; exact hmay)) h56)
              refine V_iconst C (v := (-1)) dX0_gather_69 (by decide +kernel) ?_
              exact no _ _ _ Sk.re same
          · have z : Dc 4 (5 * r + s) = 0 := i_0 (hio.2.1.2.1 _ hk) (Int32.not_lt.mp hd)
            have same : gathAt lw Dc r s = Dc := by
              unfold gathAt
              by_cases h3 : lw 3 (fDu Dc r s) < 0
              · rw [if_pos h3]
              · have hnq := hlO.nn (k := 3) (by decide) h3
                rw [if_neg h3, if_pos]
                rw [z]
                exact i_pos.mpr (by have := hnq.2.2 rfl; omega)
            refine V_iload_n C dX0_gather_27 rfl ?_
            refine V_if_lt C 99 dX0_gather_28 (by decide) (fun h28 => absurd h28 (nI_pos (by omega))) (fun h28 => ?_)
            refine V_aload_n C dX0_gather_31 rfl ?_
            refine V_getR C fl_X0_12 (ob_K hF) hd0 rfl dX0_gather_32 ?_
            refine V_getR C fl_X0_80 (ob_K hK1) (ob_R hK1 11 (b + 12) rfl rfl) rfl dX0_gather_35 ?_
            refine V_iload_n C dX0_gather_38 rfl ?_
            refine V_iconst C (v := nI 5) dX0_gather_39 (by decide +kernel) ?_
            refine V_imul C dX0_gather_40 ?_
            refine V_iload_n C dX0_gather_41 rfl ?_
            refine V_iadd C dX0_gather_42 ?_
            refine V_iald C (5 * r + s) (ob_A hK1 11 (b + 12) rfl rfl) eidx (by rw [ob_N hK1 11 (b + 12) rfl rfl]; omega) (by rw [ob_N hK1 11 (b + 12) rfl rfl]; decide) dX0_gather_43 ?_
            rw [e43]
            refine V_istore_n C dX0_gather_44 (hn _ (by decide)) ?_
            refine V_iload_n C dX0_gather_45 rfl ?_
            refine V_if_le C 69 dX0_gather_46 (by decide) (fun h46 => ?_) (fun h46 => absurd (Int32.not_lt.mp hd) h46)
            refine V_iconst C (v := (-1)) dX0_gather_69 (by decide +kernel) ?_
            exact no _ _ _ Sk.re same
      refine V_iload_n C dX0_gather_14 rfl ?_
      refine V_aload_n C dX0_gather_15 rfl ?_
      refine V_getR C fl_X0_12 (ob_K hF) hd0 rfl dX0_gather_16 ?_
      refine V_getI C fl_X0_108 (ob_K hK1) rfl dX0_gather_19 ?_
      refine V_icmp_ge C 105 dX0_gather_22 (by decide) (fun h22 => absurd h22 (by rw [er]; exact nI_ge (by omega) (by omega))) (fun h22 => ?_)
      refine V_iconst C (v := nI 4) dX0_gather_25 (by decide +kernel) ?_
      refine V_istore_n C dX0_gather_26 (hn _ (by decide)) ?_
      exact inner 5 Dc Ic _ _ (Nat.le_refl _) hg hf hq hio he
  by_cases hno : nxI 3 0 L = -1
  · have same : g4D (kcl L (nI e)) q.1 = q.1 := gathN_no (fun f => by rw [show kcl L (nI e) 3 f = -1 from nxI_n L 0 (by have := hG.1.2.2.2.1; omega) hno]; decide) _ _ _
    refine V_aload_n C dX0_gather_0 rfl ?_
    refine V_getR C fl_X0_21 (ob_K hF) hl1 rfl dX0_gather_1 ?_
    refine V_iconst C (v := nI 3) dX0_gather_4 (by decide +kernel) ?_
    refine V_callV (F := fun _ => True) C (c_hasNone hL hG.1 (k := 3) (by decide)) mi_X2_hasNone ml_X0_72 rfl (ob_K hL) (by decide) (by decide) (by decide) (Nat.le_of_ble_eq_true rfl) (fun _ _ => trivial) (fun v _ => clo_T v) rfl dX0_gather_5 ?_
    rintro v S' I' J' ⟨hS9, rfl, hI9, hJ9⟩
    obtain rfl := hS9.symm
    obtain rfl := hI9.symm
    obtain rfl := hJ9.symm
    refine V_if_eq C 12 dX0_gather_8 (by decide) (fun h8 => absurd h8 (by rw [bI_0]; exact fun q => q hno)) (fun h8 => ?_)
    exact V_vret C (Nat.zero_le _) (Nat.zero_le _) dX0_gather_11 (hP _ _ _ ⟨rfl, by rw [same]; exact hQ, FC.re, rfl⟩)
  · refine V_aload_n C dX0_gather_0 rfl ?_
    refine V_getR C fl_X0_21 (ob_K hF) hl1 rfl dX0_gather_1 ?_
    refine V_iconst C (v := nI 3) dX0_gather_4 (by decide +kernel) ?_
    refine V_callV (F := fun _ => True) C (c_hasNone hL hG.1 (k := 3) (by decide)) mi_X2_hasNone ml_X0_72 rfl (ob_K hL) (by decide) (by decide) (by decide) (Nat.le_of_ble_eq_true rfl) (fun _ _ => trivial) (fun v _ => clo_T v) rfl dX0_gather_5 ?_
    rintro v S' I' J' ⟨hS9, rfl, hI9, hJ9⟩
    obtain rfl := hS9.symm
    obtain rfl := hI9.symm
    obtain rfl := hJ9.symm
    refine V_if_eq C 12 dX0_gather_8 (by decide) (fun h8 => ?_) (fun h8 => absurd (bI_f hno) h8)
    refine V_iconst C (v := nI 0) dX0_gather_12 (by decide +kernel) ?_
    refine V_istore_n C dX0_gather_13 (hn _ (by decide)) ?_
    exact outer n 0 q.1 I _ _ _ (Nat.zero_add _) hnn.symm FC.re hQ hi rfl
end C9
