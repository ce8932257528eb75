/-! the class's course: lumps feed, eat, wander -/
section C10
variable {l : Launch} {S : HS} {I I' : HI} {J J' : HJ} {b la : Nat} {D : DV} {L : List Law} {e lk : Nat} {q : QV}
theorem fdAt_0 {r u s : Nat} : fdAt r u 0 s D = D := by
  unfold fdAt
  rw [prt_r0, Int32.sub_zero, up2_same, Int32.add_zero, up2_same]
theorem fdR_0 {r u : Nat} : ∀ (c s : Nat) (D : DV), fdR r u 0 c s D = D
  | 0, _, _ => rfl
  | c + 1, s, D => by
    show fdR r u 0 c (s + 1) (fdAt r u 0 s D) = D
    rw [fdAt_0, fdR_0 c]
/-- dust comes to a lump: the class's rows -/
theorem CQ.tkD {u r : Nat} {p : Int32} (h : CQ I J b q) (h30 : cmD q.1 ≤ 30) (hu : u < cmD q.1) (hr : r < 12) : CQ (up2 (up2 I (b + 20 + 10 * u + 8) r (I (b + 20 + 10 * u + 8) r + p)) (b + 20 + 10 * u) 2 (I (b + 20 + 10 * u) 2 + p)) J b (up2 q.1 11 (12 * u + r) (q.1 11 (12 * u + r) + p), q.2) := by
  obtain ⟨⟨w0, w1, w2, w3, w4, w5, w6⟩, w7⟩ := h.1.2.2.2 u hu
  obtain ⟨I2, hI2⟩ : ∃ I2, I2 = up2 (up2 I (b + 20 + 10 * u + 8) r (I (b + 20 + 10 * u + 8) r + p)) (b + 20 + 10 * u) 2 (I (b + 20 + 10 * u) 2 + p) := ⟨_, rfl⟩
  rw [← hI2]
  have eb : I2 b = I b := by rw [hI2, up2_ne _ _ _ (by omega), up2_ne _ _ _ (by omega)]
  have ea : I2 (b + 20 + 10 * u) = va_up (I (b + 20 + 10 * u)) 2 (I (b + 20 + 10 * u) 2 + p) := by rw [hI2, up2_row, up2_ne _ _ _ (by omega)]
  have e8 : I2 (b + 20 + 10 * u + 8) = va_up (I (b + 20 + 10 * u + 8)) r (I (b + 20 + 10 * u + 8) r + p) := by rw [hI2, up2_ne _ _ _ (by omega), up2_row]
  refine h.of ?_ (by rw [eb]) (by rw [eb])
  refine h.1.lump (u0 := u) (fun a h1 h2 _ => by rw [hI2, up2_ne _ _ _ h1, up2_ne _ _ _ h2]) (by rw [eb]; exact ⟨rfl, rfl, rfl, rfl⟩) (by rw [eb]; exact h.1.1.2.2.2.2.2) rfl (fun c hc => up2_ne _ _ _ (by omega)) (fun c h1 h2 v _ => by rw [up2_ne _ _ _ (by omega)]) (fun k hk => by rw [up2_row, va_up_ne _ _ (by omega)]) ⟨⟨?_, ?_, ?_, ?_, ?_, ?_, ?_⟩, fun k hk => ?_⟩
  · rw [ea, va_up_ne _ _ (by decide)]; exact w0
  · rw [ea, va_up_ne _ _ (by decide)]; exact w1
  · rw [ea, va_up_self, wD_up11 hr, w2]
  · rw [ea, va_up_ne _ _ (by decide)]; exact w3
  · rw [ea, va_up_ne _ _ (by decide)]; exact w4
  · rw [ea, va_up_ne _ _ (by decide)]; exact w5
  · rw [ea, va_up_ne _ _ (by decide)]; exact w6
  · rw [e8, up2_row]
    by_cases ek : k = r
    · rw [ek, va_up_self, va_up_self, w7 r hr]
    · rw [va_up_ne _ _ ek, va_up_ne _ _ (by omega)]; exact w7 k hk
theorem CQ.tkG {u : Nat} {p : Int32} (h : CQ I J b q) (h30 : cmD q.1 ≤ 30) (hu : u < cmD q.1) : CQ (up2 (up2 I (b + 20 + 10 * u) 3 (I (b + 20 + 10 * u) 3 + p)) (b + 20 + 10 * u) 2 (I (b + 20 + 10 * u) 2 + p)) J b (up2 q.1 7 u (q.1 7 u + p), q.2) := by
  obtain ⟨⟨w0, w1, w2, w3, w4, w5, w6⟩, w7⟩ := h.1.2.2.2 u hu
  obtain ⟨I2, hI2⟩ : ∃ I2, I2 = up2 (up2 I (b + 20 + 10 * u) 3 (I (b + 20 + 10 * u) 3 + p)) (b + 20 + 10 * u) 2 (I (b + 20 + 10 * u) 2 + p) := ⟨_, rfl⟩
  rw [← hI2]
  have eb : I2 b = I b := by rw [hI2, up2_ne _ _ _ (by omega), up2_ne _ _ _ (by omega)]
  have ea : I2 (b + 20 + 10 * u) = va_up (va_up (I (b + 20 + 10 * u)) 3 (I (b + 20 + 10 * u) 3 + p)) 2 (I (b + 20 + 10 * u) 2 + p) := by rw [hI2, up2_row, up2_row]
  have e8 : I2 (b + 20 + 10 * u + 8) = I (b + 20 + 10 * u + 8) := by rw [hI2, up2_ne _ _ _ (by omega), up2_ne _ _ _ (by omega)]
  refine h.of ?_ (by rw [eb]) (by rw [eb])
  refine h.1.lump (u0 := u) (fun a h1 h2 _ => by rw [hI2, up2_ne _ _ _ h1, up2_ne _ _ _ h1]) (by rw [eb]; exact ⟨rfl, rfl, rfl, rfl⟩) (by rw [eb]; exact h.1.1.2.2.2.2.2) rfl (fun c hc => up2_ne _ _ _ (by omega)) (fun c h1 h2 v hv => ?_) (fun k hk => rfl) ⟨⟨?_, ?_, ?_, ?_, ?_, ?_, ?_⟩, fun k hk => ?_⟩
  · by_cases e7 : c = 7
    · subst e7; rw [up2_row, va_up_ne _ _ hv]
    · rw [up2_ne _ _ _ e7]
  · rw [ea, va_up_ne _ _ (by decide), va_up_ne _ _ (by decide)]; exact w0
  · rw [ea, va_up_ne _ _ (by decide), va_up_ne _ _ (by decide)]; exact w1
  · rw [ea, va_up_self, wD_up7, w2]
  · rw [ea, va_up_ne _ _ (by decide), va_up_self, w3]; exact (va_up_self _ _ _).symm
  · rw [ea, va_up_ne _ _ (by decide), va_up_ne _ _ (by decide)]; exact w4
  · rw [ea, va_up_ne _ _ (by decide), va_up_ne _ _ (by decide)]; exact w5
  · rw [ea, va_up_ne _ _ (by decide), va_up_ne _ _ (by decide)]; exact w6
  · rw [e8]; exact w7 k hk
set_option maxRecDepth 100000 in
set_option maxHeartbeats 2000000 in
theorem c_feedLumps (hX : CoS S b la) (hG : cG I la L e lk) (hQ : CQ I J b q) (hi : iOk q) : Mn l yX0_feedLumps cX0_feedLumps 7 none 4 [.ref 1140] S I J (fun v I' J' => v = none ∧ CQ I' J b (f4D (kcl L (nI e)) q.1, q.2) ∧ FC b I J I' J ∧ J' = J) := by
  refine Mn.of (by decide) (fun ad => by simp [lg_sl, vv, Value.category]) (fun X P hP hn C => ?_)
  have hX' := hX
  obtain ⟨hF, hd0, hl1, hK, hL, hb, hla⟩ := hX
  have hK1 := hK.1
  obtain ⟨lw, hlw⟩ : ∃ lw, lw = kcl L (nI e) := ⟨_, rfl⟩
  have hlO : lwOk lw := by rw [hlw]; exact hG.2.2.2.2.2
  obtain ⟨n, hnn⟩ : ∃ n, n = cmD q.1 := ⟨_, rfl⟩
  have n30 : n ≤ 30 := by rw [hnn]; exact hi.1.2.2.2.2.1
  have outer : ∀ (c u : Nat) (Dc : DV) (Ic : HI) (x2 x3 x4 x5 x6 : Option Value), u + c = n → cmD Dc = n → FC b I J Ic J → CQ Ic J b (Dc, q.2) → iOk (Dc, q.2) → feedN lw c u Dc = feedN lw n 0 q.1 → V X P 0 0 2 [some (.ref 1140), some (.int (nI u)), x2, x3, x4, x5, x6] [] S Ic J := by
    intro c
    induction c with
    | zero =>
      intro u Dc Ic x2 x3 x4 x5 x6 hu hc hf hq hio he
      have hu : u = n := hu
      have e6 : Ic b 6 = nI n := by rw [← hc]; exact hq.1.cm hio.1
      have he : Dc = feedN lw n 0 q.1 := he
      refine V_iload_n C dX0_feedLumps_2 rfl ?_
      refine V_aload_n C dX0_feedLumps_3 rfl ?_
      refine V_getR C fl_X0_12 (ob_K hF) hd0 rfl dX0_feedLumps_4 ?_
      refine V_getI C fl_X0_137 (ob_K hK1) rfl dX0_feedLumps_7 ?_
      refine V_icmp_ge C 115 dX0_feedLumps_10 (by decide) (fun h10 => ?_) (fun h10 => absurd (by rw [e6, hu]; exact Int32.le_refl _) h10)
      exact V_vret C (Nat.zero_le _) (Nat.zero_le _) dX0_feedLumps_115 (hP _ _ _ ⟨rfl, by unfold f4D; rw [← hlw, ← hnn, ← he]; exact hq, hf, rfl⟩)
    | succ c ih =>
      intro u Dc Ic x2 x3 x4 x5 x6 hu hc hf hq hio he
      have e6 : Ic b 6 = nI n := by rw [← hc]; exact hq.1.cm hio.1
      have huc : u < cmD Dc := by omega
      obtain ⟨hLu, hRu⟩ := hK.2 u (by omega)
      obtain ⟨⟨w0, w1, -⟩, -⟩ := hq.1.2.2.2 u huc
      obtain ⟨s1, s2⟩ := hio.1.2.2.2.2.2 u huc
      have h12 := hio.1.2.2.1
      have s2 : rg Dc u < rgD Dc := s2
      have h12 : rgD Dc ≤ 12 := h12
      have hGc := hG.fc hb hla hf
      have fin : ∀ (In : HI) (x2 x3 x4 x5 x6 : Option Value), FC b Ic J In J → CQ In J b (feedAt lw Dc u, q.2) → V X P 0 0 109 [some (.ref 1140), some (.int (nI u)), x2, x3, x4, x5, x6] [] S In J := by
        intro In x2 x3 x4 x5 x6 f2 q2
        have nx := ih (u + 1) (feedAt lw Dc u) In x2 x3 x4 x5 x6 (by omega) (by rw [cmD_cg feedAt_kp.2.1]; exact hc) (hf.tr f2) q2 (feedAt_i hlO hio huc) he
        refine V_iincU C dX0_feedLumps_109 rfl (hn _ (by decide)) ?_
        refine V_goto C 2 dX0_feedLumps_112 (by decide) ?_
        exact nx
      by_cases h0 : Dc 5 u = 0
      · have after : ∀ (I1 : HI) (nv : Int32), Sk Ic I1 → nv = lw 4 (fLu Dc u) → V X P 0 0 40 [some (.ref 1140), some (.int (nI u)), some (.ref (b + 20 + 10 * u)), x3, x4, x5, x6] [.int nv] S I1 J := by
          intro I1 nv sk hnv
          have q1 := hq.sk hb sk hio.1.2.2.2.2.1
          by_cases hm : nv = -1
          · have same : feedAt lw Dc u = Dc := by unfold feedAt; rw [if_pos h0, if_pos (by rw [← hnv, hm]; decide)]
            refine V_istore_n C dX0_feedLumps_40 (hn _ (by decide)) ?_
            refine V_iconst C (v := nI 0) dX0_feedLumps_41 (by decide +kernel) ?_
            refine V_istore C dX0_feedLumps_42 (hn _ (by decide)) ?_
            refine V_iload_n C dX0_feedLumps_44 rfl ?_
            refine V_iconst C (v := (-1)) dX0_feedLumps_45 (by decide +kernel) ?_
            refine V_icmp_eq C 109 dX0_feedLumps_46 (by decide) (fun h46 => ?_) (fun h46 => absurd (hm) h46)
            exact fin _ _ _ _ _ _ (sk.fc) (by rw [same]; exact q1)
          · have nn : ¬ lw 4 (fLu Dc u) < 0 := fun h => hm (by rw [hnv]; exact (hlO.n1 (by decide)).mp h)
            have hnq := hlO.nn (by decide) nn
            rw [← hnv] at hnq
            have hn100 := hnq.2.1 (by decide)
            have efd : feedAt lw Dc u = fdR (rg Dc u) u nv 5 0 Dc := by
              unfold feedAt
              rw [if_pos h0, ← hnv]
              by_cases hz : nv ≤ 0
              · rw [if_pos hz, i_0 hnq.1 hz, fdR_0]
              · rw [if_neg hz]
            have inner : ∀ (m s : Nat) (De : DV) (In : HI) (x5 x6 : Option Value), s + m = 5 → kpD Dc De → De 5 = Dc 5 → FC b Ic J In J → CQ In J b (De, q.2) → iOk (De, q.2) → fdR (rg Dc u) u nv m s De = feedAt lw Dc u → V X P 0 0 44 [some (.ref 1140), some (.int (nI u)), some (.ref (b + 20 + 10 * u)), some (.int nv), some (.int (nI s)), x5, x6] [] S In J := by
              intro m
              induction m with
              | zero =>
                intro s De In x5 x6 hs k1 k2 f2 q2 i2 he
                have hs : s = 5 := hs
                subst hs
                have he : De = feedAt lw Dc u := he
                refine V_iload_n C dX0_feedLumps_44 rfl ?_
                refine V_iconst C (v := (-1)) dX0_feedLumps_45 (by decide +kernel) ?_
                refine V_icmp_eq C 109 dX0_feedLumps_46 (by decide) (fun h46 => absurd h46 (hm)) (fun h46 => ?_)
                refine V_iload C dX0_feedLumps_49 rfl ?_
                refine V_iconst C (v := nI 5) dX0_feedLumps_51 (by decide +kernel) ?_
                refine V_icmp_ge C 109 dX0_feedLumps_52 (by decide) (fun h52 => ?_) (fun h52 => absurd (by decide) h52)
                exact fin _ _ _ _ _ _ f2 (by rw [← he]; exact q2)
              | succ m ih2 =>
                intro s De In x5 x6 hs k1 k2 f2 q2 i2 he
                have ucm : u < cmD De := by rw [cmD_cg k1.2.1]; exact huc
                have hk : 5 * rg Dc u + s < 60 := by omega
                have er : In (b + 20 + 10 * u) 1 = nI (rg Dc u) := by
                  have := (q2.1.2.2.2 u ucm).1.2.1
                  rw [this]
                  show De 6 u = _
                  rw [k1.2.2]; exact s1
                have eidx : In (b + 20 + 10 * u) 1 * nI 5 + nI s = nI (5 * rg Dc u + s) := by rw [er, pk_mul, nI_add, Nat.mul_comm]
                have e75 : In (b + 12) (5 * rg Dc u + s) = De 4 (5 * rg Dc u + s) := q2.1.2.2.1 _ hk
                obtain ⟨p0, -, -⟩ := prt_i (i2.2.1.2.1 _ hk) (i2.2.1.le.2.1 _ hk) hnq.1 hn100
                have p0 : De 4 (5 * rg Dc u + s) * nv / nI 100 = prt (De 4 (5 * rg Dc u + s)) nv := p0
                obtain ⟨p, hp⟩ : ∃ p, p = prt (De 4 (5 * rg Dc u + s)) nv := ⟨_, rfl⟩
                rw [← hp] at p0
                have rgl : rg Dc u < rgD De := by rw [rg_kp k1]; exact s2
                have i3 := fdAt_i (q := (De, q.2)) (r := rg Dc u) (u := u) (s := s) (n := nv) i2 ucm (by show De 5 u = 0; rw [k2]; exact h0) rgl (by omega) ⟨hnq.1, hn100⟩
                obtain ⟨I3, hI3⟩ : ∃ I3, I3 = up2 In (b + 12) (5 * rg Dc u + s) (De 4 (5 * rg Dc u + s) - p) := ⟨_, rfl⟩
                have q3 : CQ I3 J b (up2 De 4 (5 * rg Dc u + s) (De 4 (5 * rg Dc u + s) - p), q.2) := by
                  rw [hI3]
                  exact q2.of q2.1.dust (by rw [up2_ne _ _ _ (by omega)]) (by rw [up2_ne _ _ _ (by omega)])
                have q4 := q3.tkD (u := u) (r := rg Dc u) (p := p) i2.1.2.2.2.2.1 ucm (by omega)
                have ef : fdAt (rg Dc u) u nv s De = up2 (up2 De 4 (5 * rg Dc u + s) (De 4 (5 * rg Dc u + s) - p)) 11 (12 * u + rg Dc u) (De 11 (12 * u + rg Dc u) + p) := by unfold fdAt; rw [← hp]
                have q4 : CQ (up2 (up2 I3 (b + 20 + 10 * u + 8) (rg Dc u) (I3 (b + 20 + 10 * u + 8) (rg Dc u) + p)) (b + 20 + 10 * u) 2 (I3 (b + 20 + 10 * u) 2 + p)) J b (fdAt (rg Dc u) u nv s De, q.2) := by rw [ef]; exact q4
                have f3 : FC b In J (up2 (up2 I3 (b + 20 + 10 * u + 8) (rg Dc u) (I3 (b + 20 + 10 * u + 8) (rg Dc u) + p)) (b + 20 + 10 * u) 2 (I3 (b + 20 + 10 * u) 2 + p)) J := by
                  rw [hI3]
                  exact ((FC.up (by omega)).tr (FC.up (by omega))).tr (FC.up (by omega))
                have er3 : I3 (b + 20 + 10 * u) 1 = nI (rg Dc u) := by rw [hI3, up2_ne _ _ _ (by omega)]; exact er
                obtain ⟨g1, g2⟩ := fdAt_kp' (D := De) (r := rg Dc u) (u := u) (s := s) (n := nv)
                have nx := ih2 (s + 1) (fdAt (rg Dc u) u nv s De) _ (some (.int (nI (5 * rg Dc u + s)))) (some (.int p)) (by omega) (k1.tr g1) (g2.trans k2) (f2.tr f3) q4 i3 he
                refine V_iload_n C dX0_feedLumps_44 rfl ?_
                refine V_iconst C (v := (-1)) dX0_feedLumps_45 (by decide +kernel) ?_
                refine V_icmp_eq C 109 dX0_feedLumps_46 (by decide) (fun h46 => absurd h46 (hm)) (fun h46 => ?_)
                refine V_iload C dX0_feedLumps_49 rfl ?_
                refine V_iconst C (v := nI 5) dX0_feedLumps_51 (by decide +kernel) ?_
                refine V_icmp_ge C 109 dX0_feedLumps_52 (by decide) (fun h52 => absurd h52 (nI_ge (by omega) (by omega))) (fun h52 => ?_)
                refine V_aload_n C dX0_feedLumps_55 rfl ?_
                refine V_getI C fl_X0_87 (ob_K hLu) rfl dX0_feedLumps_56 ?_
                refine V_iconst C (v := nI 5) dX0_feedLumps_59 (by decide +kernel) ?_
                refine V_imul C dX0_feedLumps_60 ?_
                refine V_iload C dX0_feedLumps_61 rfl ?_
                refine V_iadd C dX0_feedLumps_63 ?_
                rw [eidx]
                refine V_istore C dX0_feedLumps_64 (hn _ (by decide)) ?_
                refine V_aload_n C dX0_feedLumps_66 rfl ?_
                refine V_getR C fl_X0_12 (ob_K hF) hd0 rfl dX0_feedLumps_67 ?_
                refine V_getR C fl_X0_80 (ob_K hK1) (ob_R hK1 11 (b + 12) rfl rfl) rfl dX0_feedLumps_70 ?_
                refine V_iload C dX0_feedLumps_73 rfl ?_
                refine V_iald C (5 * rg Dc u + s) (ob_A hK1 11 (b + 12) rfl rfl) (by first | rfl | (simp only [nI_add, pk_mul]; done) | (simp only [nI_add, pk_mul]; congr 1; omega)) (by rw [ob_N hK1 11 (b + 12) rfl rfl]; omega) (by rw [ob_N hK1 11 (b + 12) rfl rfl]; decide) dX0_feedLumps_75 ?_
                rw [e75]
                refine V_iload_n C dX0_feedLumps_76 rfl ?_
                refine V_callS (F := fun _ => True) C (c_shareOf _ _) ms_X0_shareOf ml_X0_121 rfl (by decide) (by decide) (Nat.le_of_ble_eq_true rfl) (fun _ _ => trivial) (fun v _ => clo_T v) rfl dX0_feedLumps_77 ?_
                rintro v S' I' J' ⟨hS9, rfl, hI9, hJ9⟩
                obtain rfl := hS9.symm
                obtain rfl := hI9.symm
                obtain rfl := hJ9.symm
                rw [p0]
                refine V_istore C dX0_feedLumps_80 (hn _ (by decide)) ?_
                refine V_aload_n C dX0_feedLumps_82 rfl ?_
                refine V_getR C fl_X0_12 (ob_K hF) hd0 rfl dX0_feedLumps_83 ?_
                refine V_getR C fl_X0_80 (ob_K hK1) (ob_R hK1 11 (b + 12) rfl rfl) rfl dX0_feedLumps_86 ?_
                refine V_iload C dX0_feedLumps_89 rfl ?_
                refine V_dup2 C dX0_feedLumps_91 rfl rfl ?_
                refine V_iald C (5 * rg Dc u + s) (ob_A hK1 11 (b + 12) rfl rfl) (by first | rfl | (simp only [nI_add, pk_mul]; done) | (simp only [nI_add, pk_mul]; congr 1; omega)) (by rw [ob_N hK1 11 (b + 12) rfl rfl]; omega) (by rw [ob_N hK1 11 (b + 12) rfl rfl]; decide) dX0_feedLumps_92 ?_
                rw [e75]
                refine V_iload C dX0_feedLumps_93 rfl ?_
                refine V_isub C dX0_feedLumps_95 ?_
                refine V_iast C (5 * rg Dc u + s) (ob_A hK1 11 (b + 12) rfl rfl) (by first | rfl | (simp only [nI_add, pk_mul]; done) | (simp only [nI_add, pk_mul]; congr 1; omega)) (by rw [ob_N hK1 11 (b + 12) rfl rfl]; omega) (by rw [ob_N hK1 11 (b + 12) rfl rfl]; decide) dX0_feedLumps_96 ?_
                rw [← hI3]
                refine V_aload_n C dX0_feedLumps_97 rfl ?_
                refine V_iload C dX0_feedLumps_98 rfl ?_
                refine V_callV (F := fun _ => True) C (c_takeDust hLu (r := rg Dc u) (by omega) er3 _) mi_X3_takeDust ml_X0_168 rfl (ob_K hLu) (by decide) (by decide) (by decide) (Nat.le_of_ble_eq_true rfl) (fun _ _ => trivial) (fun v _ => clo_T v) rfl dX0_feedLumps_100 ?_
                rintro v S' I' J' ⟨hS9, rfl, hI9, hJ9⟩
                obtain rfl := hS9.symm
                obtain rfl := hI9.symm
                obtain rfl := hJ9.symm
                refine V_iincU C dX0_feedLumps_103 rfl (hn _ (by decide)) ?_
                refine V_goto C 44 dX0_feedLumps_106 (by decide) ?_
                exact nx
            have nx := inner 5 0 Dc I1 x5 x6 rfl kpD.re rfl (sk.fc) q1 hio efd.symm
            refine V_istore_n C dX0_feedLumps_40 (hn _ (by decide)) ?_
            refine V_iconst C (v := nI 0) dX0_feedLumps_41 (by decide +kernel) ?_
            refine V_istore C dX0_feedLumps_42 (hn _ (by decide)) ?_
            exact nx
        refine V_iload_n C dX0_feedLumps_2 rfl ?_
        refine V_aload_n C dX0_feedLumps_3 rfl ?_
        refine V_getR C fl_X0_12 (ob_K hF) hd0 rfl dX0_feedLumps_4 ?_
        refine V_getI C fl_X0_137 (ob_K hK1) rfl dX0_feedLumps_7 ?_
        refine V_icmp_ge C 115 dX0_feedLumps_10 (by decide) (fun h10 => absurd h10 (by rw [e6]; exact nI_ge (by omega) (by omega))) (fun h10 => ?_)
        refine V_aload_n C dX0_feedLumps_13 rfl ?_
        refine V_getR C fl_X0_12 (ob_K hF) hd0 rfl dX0_feedLumps_14 ?_
        refine V_getR C fl_X0_140 (ob_K hK1) (ob_R hK1 12 (b + 13) rfl rfl) rfl dX0_feedLumps_17 ?_
        refine V_iload_n C dX0_feedLumps_20 rfl ?_
        refine V_aald C (u) (ob_A2 hK1 12 (b + 13) rfl rfl) (by first | rfl | (simp only [nI_add, pk_mul]; done) | (simp only [nI_add, pk_mul]; congr 1; omega)) (by rw [ob_N hK1 12 (b + 13) rfl rfl]; omega) (by rw [ob_N hK1 12 (b + 13) rfl rfl]; decide) hRu dX0_feedLumps_21 ?_
        refine V_astore_n C dX0_feedLumps_22 (hn _ (by decide)) ?_
        refine V_aload_n C dX0_feedLumps_23 rfl ?_
        refine V_getI C fl_X0_144 (ob_K hLu) rfl dX0_feedLumps_24 ?_
        refine V_if_ne C 39 dX0_feedLumps_27 (by decide) (fun h27 => absurd (w0.trans h0) h27) (fun h27 => ?_)
        refine V_aload_n C dX0_feedLumps_30 rfl ?_
        refine V_iconst C (v := nI 4) dX0_feedLumps_31 (by decide +kernel) ?_
        refine V_aload_n C dX0_feedLumps_32 rfl ?_
        refine V_callV (F := fun _ => True) C (c_lawForLump hX' hGc hq.1 hio.1 (k := 4) (u := u) (by decide) huc) mi_X0_lawForLump ml_X0_147 rfl (ob_K hF) (by decide) (by decide) (by decide) (Nat.le_of_ble_eq_true rfl) (fun _ _ => trivial) (fun v _ => clo_T v) rfl dX0_feedLumps_33 ?_
        rintro v S' I2 J2 ⟨hS9, rfl, sn, hJ9⟩
        obtain rfl := hS9.symm
        obtain rfl := hJ9.symm
        rw [← hlw]
        refine V_goto C 40 dX0_feedLumps_36 (by decide) ?_
        exact after _ _ sn.k rfl
      · have same : feedAt lw Dc u = Dc := by unfold feedAt; rw [if_neg h0]
        refine V_iload_n C dX0_feedLumps_2 rfl ?_
        refine V_aload_n C dX0_feedLumps_3 rfl ?_
        refine V_getR C fl_X0_12 (ob_K hF) hd0 rfl dX0_feedLumps_4 ?_
        refine V_getI C fl_X0_137 (ob_K hK1) rfl dX0_feedLumps_7 ?_
        refine V_icmp_ge C 115 dX0_feedLumps_10 (by decide) (fun h10 => absurd h10 (by rw [e6]; exact nI_ge (by omega) (by omega))) (fun h10 => ?_)
        refine V_aload_n C dX0_feedLumps_13 rfl ?_
        refine V_getR C fl_X0_12 (ob_K hF) hd0 rfl dX0_feedLumps_14 ?_
        refine V_getR C fl_X0_140 (ob_K hK1) (ob_R hK1 12 (b + 13) rfl rfl) rfl dX0_feedLumps_17 ?_
        refine V_iload_n C dX0_feedLumps_20 rfl ?_
        refine V_aald C (u) (ob_A2 hK1 12 (b + 13) rfl rfl) (by first | rfl | (simp only [nI_add, pk_mul]; done) | (simp only [nI_add, pk_mul]; congr 1; omega)) (by rw [ob_N hK1 12 (b + 13) rfl rfl]; omega) (by rw [ob_N hK1 12 (b + 13) rfl rfl]; decide) hRu dX0_feedLumps_21 ?_
        refine V_astore_n C dX0_feedLumps_22 (hn _ (by decide)) ?_
        refine V_aload_n C dX0_feedLumps_23 rfl ?_
        refine V_getI C fl_X0_144 (ob_K hLu) rfl dX0_feedLumps_24 ?_
        refine V_if_ne C 39 dX0_feedLumps_27 (by decide) (fun h27 => ?_) (fun h27 => absurd h27 (by rw [w0]; exact h0))
        refine V_iconst C (v := (-1)) dX0_feedLumps_39 (by decide +kernel) ?_
        refine V_istore_n C dX0_feedLumps_40 (hn _ (by decide)) ?_
        refine V_iconst C (v := nI 0) dX0_feedLumps_41 (by decide +kernel) ?_
        refine V_istore C dX0_feedLumps_42 (hn _ (by decide)) ?_
        refine V_iload_n C dX0_feedLumps_44 rfl ?_
        refine V_iconst C (v := (-1)) dX0_feedLumps_45 (by decide +kernel) ?_
        refine V_icmp_eq C 109 dX0_feedLumps_46 (by decide) (fun h46 => ?_) (fun h46 => absurd (rfl) h46)
        exact fin _ _ _ _ _ _ FC.re (by rw [same]; exact hq)
  refine V_iconst C (v := nI 0) dX0_feedLumps_0 (by decide +kernel) ?_
  refine V_istore_n C dX0_feedLumps_1 (hn _ (by decide)) ?_
  exact outer n 0 q.1 I _ _ _ _ _ (Nat.zero_add _) hnn.symm FC.re hQ hi rfl
set_option maxRecDepth 100000 in
set_option maxHeartbeats 2000000 in
theorem c_eatGas (hX : CoS S b la) (hG : cG I la L e lk) (hQ : CQ I J b q) (hi : iOk q) : Mn l yX0_eatGas cX0_eatGas 5 none 4 [.ref 1140] S I J (fun v I' J' => v = none ∧ CQ I' J b (e4D (kcl L (nI e)) q.1, q.2) ∧ FC b I J I' J ∧ J' = J) := by
  refine Mn.of (by decide) (fun ad => by simp [lg_sl, vv, Value.category]) (fun X P hP hn C => ?_)
  have hX' := hX
  obtain ⟨hF, hd0, hl1, hK, hL, hb, hla⟩ := hX
  have hK1 := hK.1
  obtain ⟨lw, hlw⟩ : ∃ lw, lw = kcl L (nI e) := ⟨_, rfl⟩
  have hlO : lwOk lw := by rw [hlw]; exact hG.2.2.2.2.2
  obtain ⟨n, hnn⟩ : ∃ n, n = cmD q.1 := ⟨_, rfl⟩
  have n30 : n ≤ 30 := by rw [hnn]; exact hi.1.2.2.2.2.1
  have outer : ∀ (c u : Nat) (Dc : DV) (Ic : HI) (x2 x3 x4 : Option Value), u + c = n → cmD Dc = n → FC b I J Ic J → CQ Ic J b (Dc, q.2) → iOk (Dc, q.2) → eatN lw c u Dc = eatN lw n 0 q.1 → V X P 0 0 2 [some (.ref 1140), some (.int (nI u)), x2, x3, x4] [] S Ic J := by
    intro c
    induction c with
    | zero =>
      intro u Dc Ic x2 x3 x4 hu hc hf hq hio he
      have hu : u = n := hu
      have e6 : Ic b 6 = nI n := by rw [← hc]; exact hq.1.cm hio.1
      have he : Dc = eatN lw n 0 q.1 := he
      refine V_iload_n C dX0_eatGas_2 rfl ?_
      refine V_aload_n C dX0_eatGas_3 rfl ?_
      refine V_getR C fl_X0_12 (ob_K hF) hd0 rfl dX0_eatGas_4 ?_
      refine V_getI C fl_X0_137 (ob_K hK1) rfl dX0_eatGas_7 ?_
      refine V_icmp_ge C 93 dX0_eatGas_10 (by decide) (fun h10 => ?_) (fun h10 => absurd (by rw [e6, hu]; exact Int32.le_refl _) h10)
      exact V_vret C (Nat.zero_le _) (Nat.zero_le _) dX0_eatGas_93 (hP _ _ _ ⟨rfl, by unfold e4D; rw [← hlw, ← hnn, ← he]; exact hq, hf, rfl⟩)
    | succ c ih =>
      intro u Dc Ic x2 x3 x4 hu hc hf hq hio he
      have e6 : Ic b 6 = nI n := by rw [← hc]; exact hq.1.cm hio.1
      have huc : u < cmD Dc := by omega
      obtain ⟨hLu, hRu⟩ := hK.2 u (by omega)
      obtain ⟨⟨w0, w1, -⟩, -⟩ := hq.1.2.2.2 u huc
      obtain ⟨s1, s2⟩ := hio.1.2.2.2.2.2 u huc
      have h12 := hio.1.2.2.1
      have s2 : rg Dc u < rgD Dc := s2
      have h12 : rgD Dc ≤ 12 := h12
      have hGc := hG.fc hb hla hf
      have fin : ∀ (In : HI) (x2 x3 x4 : Option Value), FC b Ic J In J → CQ In J b (eatAt lw Dc u, q.2) → V X P 0 0 87 [some (.ref 1140), some (.int (nI u)), x2, x3, x4] [] S In J := by
        intro In x2 x3 x4 f2 q2
        have nx := ih (u + 1) (eatAt lw Dc u) In x2 x3 x4 (by omega) (by rw [cmD_cg eatAt_kp.2.1]; exact hc) (hf.tr f2) q2 (eatAt_i hlO hio huc) he
        refine V_iincU C dX0_eatGas_87 rfl (hn _ (by decide)) ?_
        refine V_goto C 2 dX0_eatGas_90 (by decide) ?_
        exact nx
      by_cases h0 : Dc 5 u = 0
      · have after : ∀ (I1 : HI) (nv : Int32), Sk Ic I1 → nv = lw 5 (fLu Dc u) → V X P 0 0 40 [some (.ref 1140), some (.int (nI u)), some (.ref (b + 20 + 10 * u)), x3, x4] [.int nv] S I1 J := by
          intro I1 nv sk hnv
          have q1 := hq.sk hb sk hio.1.2.2.2.2.1
          by_cases hm : nv = -1
          · have same : eatAt lw Dc u = Dc := by
              unfold eatAt
              rw [if_pos h0, if_pos (by rw [← hnv, hm]; decide), show nI 0 = (0 : Int32) from rfl, Int32.sub_zero, up2_same, Int32.add_zero, up2_same]
            refine V_istore_n C dX0_eatGas_40 (hn _ (by decide)) ?_
            refine V_iload_n C dX0_eatGas_41 rfl ?_
            refine V_iconst C (v := (-1)) dX0_eatGas_42 (by decide +kernel) ?_
            refine V_icmp_eq C 87 dX0_eatGas_43 (by decide) (fun h43 => ?_) (fun h43 => absurd (hm) h43)
            exact fin _ _ _ _ (sk.fc) (by rw [same]; exact q1)
          · have nn : ¬ lw 5 (fLu Dc u) < 0 := fun h => hm (by rw [hnv]; exact (hlO.n1 (by decide)).mp h)
            have hnq := hlO.nn (by decide) nn
            rw [← hnv] at hnq
            have hn100 := hnq.2.1 (by decide)
            have er : I1 (b + 20 + 10 * u) 1 = nI (rg Dc u) := by rw [sk _ (by omega) (by omega) (by omega) (by omega) (by omega)]; exact w1.trans s1
            obtain ⟨p0, -, -⟩ := prt_i (hio.2.1.1 (rg Dc u) (by omega)) (hio.2.1.le.1 (rg Dc u) (by omega)) hnq.1 hn100
            have p0 : Dc 1 (rg Dc u) * nv / nI 100 = prt (Dc 1 (rg Dc u)) nv := p0
            obtain ⟨p, hp⟩ : ∃ p, p = prt (Dc 1 (rg Dc u)) nv := ⟨_, rfl⟩
            rw [← hp] at p0
            have ef : eatAt lw Dc u = up2 (up2 Dc 1 (rg Dc u) (Dc 1 (rg Dc u) - p)) 7 u (Dc 7 u + p) := by
              unfold eatAt
              rw [if_pos h0, ← hnv]
              by_cases hz : nv ≤ 0
              · rw [if_pos hz, hp, i_0 hnq.1 hz, prt_r0]; rfl
              · rw [if_neg hz, ← hp]
            have e57 : I1 (b + 9) (rg Dc u) = Dc 1 (rg Dc u) := (q1.1.2.1 (rg Dc u) (by omega)).1
            obtain ⟨I3, hI3⟩ : ∃ I3, I3 = up2 I1 (b + 9) (rg Dc u) (Dc 1 (rg Dc u) - p) := ⟨_, rfl⟩
            have q3 : CQ I3 J b (up2 Dc 1 (rg Dc u) (Dc 1 (rg Dc u) - p), q.2) := by
              rw [hI3]
              exact q1.of q1.1.gas (by rw [up2_ne _ _ _ (by omega)]) (by rw [up2_ne _ _ _ (by omega)])
            have q4 := q3.tkG (u := u) (p := p) hio.1.2.2.2.2.1 huc
            have q4 : CQ (up2 (up2 I3 (b + 20 + 10 * u) 3 (I3 (b + 20 + 10 * u) 3 + p)) (b + 20 + 10 * u) 2 (I3 (b + 20 + 10 * u) 2 + p)) J b (eatAt lw Dc u, q.2) := by rw [ef]; exact q4
            have f3 : FC b I1 J (up2 (up2 I3 (b + 20 + 10 * u) 3 (I3 (b + 20 + 10 * u) 3 + p)) (b + 20 + 10 * u) 2 (I3 (b + 20 + 10 * u) 2 + p)) J := by
              rw [hI3]
              exact ((FC.up (by omega)).tr (FC.up (by omega))).tr (FC.up (by omega))
            refine V_istore_n C dX0_eatGas_40 (hn _ (by decide)) ?_
            refine V_iload_n C dX0_eatGas_41 rfl ?_
            refine V_iconst C (v := (-1)) dX0_eatGas_42 (by decide +kernel) ?_
            refine V_icmp_eq C 87 dX0_eatGas_43 (by decide) (fun h43 => absurd h43 (hm)) (fun h43 => ?_)
            refine V_aload_n C dX0_eatGas_46 rfl ?_
            refine V_getR C fl_X0_12 (ob_K hF) hd0 rfl dX0_eatGas_47 ?_
            refine V_getR C fl_X0_95 (ob_K hK1) (ob_R hK1 8 (b + 9) rfl rfl) rfl dX0_eatGas_50 ?_
            refine V_aload_n C dX0_eatGas_53 rfl ?_
            refine V_getI C fl_X0_87 (ob_K hLu) rfl dX0_eatGas_54 ?_
            refine V_iald C (rg Dc u) (ob_A hK1 8 (b + 9) rfl rfl) er (by rw [ob_N hK1 8 (b + 9) rfl rfl]; omega) (by rw [ob_N hK1 8 (b + 9) rfl rfl]; decide) dX0_eatGas_57 ?_
            rw [e57]
            refine V_iload_n C dX0_eatGas_58 rfl ?_
            refine V_callS (F := fun _ => True) C (c_shareOf _ _) ms_X0_shareOf ml_X0_121 rfl (by decide) (by decide) (Nat.le_of_ble_eq_true rfl) (fun _ _ => trivial) (fun v _ => clo_T v) rfl dX0_eatGas_59 ?_
            rintro v S' I' J' ⟨hS9, rfl, hI9, hJ9⟩
            obtain rfl := hS9.symm
            obtain rfl := hI9.symm
            obtain rfl := hJ9.symm
            rw [p0]
            refine V_istore C dX0_eatGas_62 (hn _ (by decide)) ?_
            refine V_aload_n C dX0_eatGas_64 rfl ?_
            refine V_getR C fl_X0_12 (ob_K hF) hd0 rfl dX0_eatGas_65 ?_
            refine V_getR C fl_X0_95 (ob_K hK1) (ob_R hK1 8 (b + 9) rfl rfl) rfl dX0_eatGas_68 ?_
            refine V_aload_n C dX0_eatGas_71 rfl ?_
            refine V_getI C fl_X0_87 (ob_K hLu) rfl dX0_eatGas_72 ?_
            refine V_dup2 C dX0_eatGas_75 rfl rfl ?_
            refine V_iald C (rg Dc u) (ob_A hK1 8 (b + 9) rfl rfl) er (by rw [ob_N hK1 8 (b + 9) rfl rfl]; omega) (by rw [ob_N hK1 8 (b + 9) rfl rfl]; decide) dX0_eatGas_76 ?_
            rw [e57]
            refine V_iload C dX0_eatGas_77 rfl ?_
            refine V_isub C dX0_eatGas_79 ?_
            refine V_iast C (rg Dc u) (ob_A hK1 8 (b + 9) rfl rfl) er (by rw [ob_N hK1 8 (b + 9) rfl rfl]; omega) (by rw [ob_N hK1 8 (b + 9) rfl rfl]; decide) dX0_eatGas_80 ?_
            rw [← hI3]
            refine V_aload_n C dX0_eatGas_81 rfl ?_
            refine V_iload C dX0_eatGas_82 rfl ?_
            refine V_callV (F := fun _ => True) C (c_takeGas hLu _) mi_X3_takeGas ml_X0_171 rfl (ob_K hLu) (by decide) (by decide) (by decide) (Nat.le_of_ble_eq_true rfl) (fun _ _ => trivial) (fun v _ => clo_T v) rfl dX0_eatGas_84 ?_
            rintro v S' I' J' ⟨hS9, rfl, hI9, hJ9⟩
            obtain rfl := hS9.symm
            obtain rfl := hI9.symm
            obtain rfl := hJ9.symm
            exact fin _ _ _ _ ((sk.fc).tr f3) q4
        refine V_iload_n C dX0_eatGas_2 rfl ?_
        refine V_aload_n C dX0_eatGas_3 rfl ?_
        refine V_getR C fl_X0_12 (ob_K hF) hd0 rfl dX0_eatGas_4 ?_
        refine V_getI C fl_X0_137 (ob_K hK1) rfl dX0_eatGas_7 ?_
        refine V_icmp_ge C 93 dX0_eatGas_10 (by decide) (fun h10 => absurd h10 (by rw [e6]; exact nI_ge (by omega) (by omega))) (fun h10 => ?_)
        refine V_aload_n C dX0_eatGas_13 rfl ?_
        refine V_getR C fl_X0_12 (ob_K hF) hd0 rfl dX0_eatGas_14 ?_
        refine V_getR C fl_X0_140 (ob_K hK1) (ob_R hK1 12 (b + 13) rfl rfl) rfl dX0_eatGas_17 ?_
        refine V_iload_n C dX0_eatGas_20 rfl ?_
        refine V_aald C (u) (ob_A2 hK1 12 (b + 13) rfl rfl) (by first | rfl | (simp only [nI_add, pk_mul]; done) | (simp only [nI_add, pk_mul]; congr 1; omega)) (by rw [ob_N hK1 12 (b + 13) rfl rfl]; omega) (by rw [ob_N hK1 12 (b + 13) rfl rfl]; decide) hRu dX0_eatGas_21 ?_
        refine V_astore_n C dX0_eatGas_22 (hn _ (by decide)) ?_
        refine V_aload_n C dX0_eatGas_23 rfl ?_
        refine V_getI C fl_X0_144 (ob_K hLu) rfl dX0_eatGas_24 ?_
        refine V_if_ne C 39 dX0_eatGas_27 (by decide) (fun h27 => absurd (w0.trans h0) h27) (fun h27 => ?_)
        refine V_aload_n C dX0_eatGas_30 rfl ?_
        refine V_iconst C (v := nI 5) dX0_eatGas_31 (by decide +kernel) ?_
        refine V_aload_n C dX0_eatGas_32 rfl ?_
        refine V_callV (F := fun _ => True) C (c_lawForLump hX' hGc hq.1 hio.1 (k := 5) (u := u) (by decide) huc) mi_X0_lawForLump ml_X0_147 rfl (ob_K hF) (by decide) (by decide) (by decide) (Nat.le_of_ble_eq_true rfl) (fun _ _ => trivial) (fun v _ => clo_T v) rfl dX0_eatGas_33 ?_
        rintro v S' I2 J2 ⟨hS9, rfl, sn, hJ9⟩
        obtain rfl := hS9.symm
        obtain rfl := hJ9.symm
        rw [← hlw]
        refine V_goto C 40 dX0_eatGas_36 (by decide) ?_
        exact after _ _ sn.k rfl
      · have same : eatAt lw Dc u = Dc := by unfold eatAt; rw [if_neg h0]
        refine V_iload_n C dX0_eatGas_2 rfl ?_
        refine V_aload_n C dX0_eatGas_3 rfl ?_
        refine V_getR C fl_X0_12 (ob_K hF) hd0 rfl dX0_eatGas_4 ?_
        refine V_getI C fl_X0_137 (ob_K hK1) rfl dX0_eatGas_7 ?_
        refine V_icmp_ge C 93 dX0_eatGas_10 (by decide) (fun h10 => absurd h10 (by rw [e6]; exact nI_ge (by omega) (by omega))) (fun h10 => ?_)
        refine V_aload_n C dX0_eatGas_13 rfl ?_
        refine V_getR C fl_X0_12 (ob_K hF) hd0 rfl dX0_eatGas_14 ?_
        refine V_getR C fl_X0_140 (ob_K hK1) (ob_R hK1 12 (b + 13) rfl rfl) rfl dX0_eatGas_17 ?_
        refine V_iload_n C dX0_eatGas_20 rfl ?_
        refine V_aald C (u) (ob_A2 hK1 12 (b + 13) rfl rfl) (by first | rfl | (simp only [nI_add, pk_mul]; done) | (simp only [nI_add, pk_mul]; congr 1; omega)) (by rw [ob_N hK1 12 (b + 13) rfl rfl]; omega) (by rw [ob_N hK1 12 (b + 13) rfl rfl]; decide) hRu dX0_eatGas_21 ?_
        refine V_astore_n C dX0_eatGas_22 (hn _ (by decide)) ?_
        refine V_aload_n C dX0_eatGas_23 rfl ?_
        refine V_getI C fl_X0_144 (ob_K hLu) rfl dX0_eatGas_24 ?_
        refine V_if_ne C 39 dX0_eatGas_27 (by decide) (fun h27 => ?_) (fun h27 => absurd h27 (by rw [w0]; exact h0))
        refine V_iconst C (v := (-1)) dX0_eatGas_39 (by decide +kernel) ?_
        refine V_istore_n C dX0_eatGas_40 (hn _ (by decide)) ?_
        refine V_iload_n C dX0_eatGas_41 rfl ?_
        refine V_iconst C (v := (-1)) dX0_eatGas_42 (by decide +kernel) ?_
        refine V_icmp_eq C 87 dX0_eatGas_43 (by decide) (fun h43 => ?_) (fun h43 => absurd (rfl) h43)
        exact fin _ _ _ _ FC.re (by rw [same]; exact hq)
  refine V_iconst C (v := nI 0) dX0_eatGas_0 (by decide +kernel) ?_
  refine V_istore_n C dX0_eatGas_1 (hn _ (by decide)) ?_
  exact outer n 0 q.1 I _ _ _ (Nat.zero_add _) hnn.symm FC.re hQ hi rfl
end C10
