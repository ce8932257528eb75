/-! the class's course: meet, steps -/
section C12
variable {l : Launch} {S : HS} {I I' : HI} {J J' : HJ} {b la : Nat} {D : DV} {L : List Law} {e lk sh : Nat} {q : QV}
theorem up2_comm {α : Type} (f : Nat → Nat → α) {a c : Nat} (i j : Nat) (v w : α) (h : a ≠ c) : up2 (up2 f a i v) c j w = up2 (up2 f c j w) a i v := by
  funext x
  by_cases e1 : x = a
  · subst e1
    rw [up2_ne _ _ _ h, up2_row, up2_row, up2_ne _ _ _ h]
  · by_cases e2 : x = c
    · subst e2
      rw [up2_row, up2_ne _ _ _ e1, up2_ne _ _ _ e1, up2_row]
    · rw [up2_ne _ _ _ e2, up2_ne _ _ _ e1, up2_ne _ _ _ e1, up2_ne _ _ _ e2]
/-- whether the other one is eaten: in ints as in longs -/
theorem mt_cmp {wo ws : Int32} (h1 : 0 < wo.toInt) (h2 : wo ≤ ws) (h3 : ws.toInt ≤ 7200000) (h4 : sh ≤ 101) : (wo * nI 100 < ws * nI sh) ↔ (nI 101 ≤ nI sh ∨ lg_cmp (wo.toInt64 * 100) (ws.toInt64 * (nI sh).toInt64) < 0) := by
  have h2' := Int32.le_iff_toInt_le.mp h2
  obtain ⟨x, x1, x2, x3⟩ := i_ex (a := wo) (by omega)
  obtain ⟨y, y1, y2, y3⟩ := i_ex (a := ws) (by omega)
  have hy : y ≤ 7200000 := by omega
  have hxy : x ≤ y := by omega
  have hys : y * sh ≤ 7200000 * 101 := Nat.mul_le_mul hy h4
  rw [x2, y2, pk_mul, pk_mul, nI_ltI (by omega) (by omega), lg_cmp_lt, nI_l x1, nI_l y1, nI_l (by omega)]
  have e1 : lN x * 100 = lN (x * 100) := (Int64.ofNat_mul x 100).symm
  have e2 : lN y * lN sh = lN (y * sh) := (Int64.ofNat_mul y sh).symm
  rw [e1, e2, pk_lLT (by omega) (by omega), nI_leI (by omega) (by omega)]
  constructor
  · exact fun h => Or.inr h
  · rintro (h | h)
    · have : sh = 101 := by omega
      subst this
      omega
    · exact h
set_option maxRecDepth 100000 in
set_option maxHeartbeats 2000000 in
theorem c_whoStays (hX : CoS S b la) (hsh : I 1140 4 = nI sh) (h101 : sh ≤ 101) (hQ : CQ I J b q) (hi : iOk q) {f s : Nat} (hf : f < cmD q.1) (hs : s < cmD q.1) (hne : f ≠ s) (f0 : q.1 5 f = 0) (s0 : q.1 5 s = 0) : Mn l yX0_whoStays cX0_whoStays 7 (some .int) 1 [.ref 1140, .int (nI f), .int (nI s)] S I J (fun v I' J' => v = some (.int (nI (win q.1 f s))) ∧ CQ I' J b ((mtAt (nI sh) (q.1, q.2.2) f s).1, q.2.1, (mtAt (nI sh) (q.1, q.2.2) f s).2) ∧ FC b I J I' J ∧ J' = J) := by
  refine Mn.of (by decide) (fun ad => by simp [lg_sl, vv, Value.category]) (fun X P hP hn C => ?_)
  obtain ⟨hF, hd0, hl1, hK, hL, hb, hla⟩ := hX
  have hK1 := hK.1
  have c30 := hi.1.2.2.2.2.1
  obtain ⟨hLf, hRf⟩ := hK.2 f (by omega)
  obtain ⟨hLs, hRs⟩ := hK.2 s (by omega)
  have wf := (hQ.1.2.2.2 f hf).1.2.2.1
  have ws := (hQ.1.2.2.2 s hs).1.2.2.1
  have go75 : ∀ (a o : Nat) (x3 : Option Value), a < cmD q.1 → o < cmD q.1 → a ≠ o → q.1 5 a = 0 → q.1 5 o = 0 → wD q.1 o ≤ wD q.1 a → (∀ I', CQ I' J b ((mtD (nI sh) (q.1, q.2.2) a o).1, q.2.1, (mtD (nI sh) (q.1, q.2.2) a o).2) → FC b I J I' J → P (some (.int (nI a))) S I' J) → V X P 0 0 75 [some (.ref 1140), some (.int (nI f)), some (.int (nI s)), x3, some (.int (nI a)), some (.ref (b + 20 + 10 * a)), some (.ref (b + 20 + 10 * o))] [] S I J := by
    intro a o x3 ha ho hao a0 o0 hle hp
    obtain ⟨hLa, -⟩ := hK.2 a (by omega)
    obtain ⟨hLo, -⟩ := hK.2 o (by omega)
    obtain ⟨⟨u0, u1, u2, u3, u4, u5, u6⟩, u7⟩ := hQ.1.2.2.2 a ha
    obtain ⟨⟨v0, v1, v2, v3, v4, v5, v6⟩, v7⟩ := hQ.1.2.2.2 o ho
    obtain ⟨wa1, wa2⟩ := wl_i hi ha a0
    obtain ⟨wo1, wo2⟩ := wl_i hi ho o0
    have le := hi.2.1.le
    have cmp := mt_cmp (wo := wD q.1 o) (ws := wD q.1 a) (sh := sh) wo1 hle wa2 h101
    have nao : b + 20 + 10 * a ≠ b + 20 + 10 * o := by omega
    obtain ⟨I1, hI1⟩ : ∃ I1, I1 = up2 I b 7 (I b 7 - nI 1) := ⟨_, rfl⟩
    have o1 : ∀ c, c ≠ b → I1 c = I c := fun c hc => by rw [hI1, up2_ne _ _ _ hc]
    have eo2 : I1 (b + 20 + 10 * o) 2 = wD q.1 o := by rw [o1 _ (by omega)]; exact v2
    have ea2 : I1 (b + 20 + 10 * a) 2 = wD q.1 a := by rw [o1 _ (by omega)]; exact u2
    have es4 : I1 1140 4 = nI sh := by rw [o1 _ (by omega)]; exact hsh
    by_cases hc : wD q.1 o * nI 100 < wD q.1 a * nI sh
    · have em : mtD (nI sh) (q.1, q.2.2) a o = (eatL q.1 a o, q.2.2) := by
        unfold mtD
        rcases cmp.mp hc with h | h
        · rw [if_pos h]
        · split
          · rfl
          · first | rfl | rw [if_pos h]
      rw [em] at hp
      obtain ⟨I2, hI2⟩ : ∃ I2, I2 = up2 I1 (b + 20 + 10 * o) 0 (nI 1) := ⟨_, rfl⟩
      have q2 : CQ I2 J b (up2 q.1 5 o (nI 1), q.2) := by
        have cd := hQ.1.gone ho o0 (v := nI 1) (by decide)
        rw [hI2, hI1, up2_comm _ _ _ _ _ (show b ≠ b + 20 + 10 * o by omega)]
        exact hQ.of cd (by rw [up2_row, va_up_ne _ _ (by decide), up2_ne _ _ _ (by omega)]) (by rw [up2_row, va_up_ne _ _ (by decide), up2_ne _ _ _ (by omega)])
      obtain ⟨I3, hI3⟩ : ∃ I3, I3 = up2 I2 (b + 20 + 10 * o) 4 (nI a) := ⟨_, rfl⟩
      obtain ⟨D2, hD2⟩ : ∃ D2, D2 = up2 (up2 q.1 5 o (nI 1)) 10 o (nI a) := ⟨_, rfl⟩
      have q3 : CQ I3 J b (D2, q.2) := by
        rw [hI3, hD2]
        exact q2.lf (u := o) (x := 4) (c := 10) ho (Or.inr (Or.inl ⟨rfl, rfl⟩))
      have after : ∀ I4, LAll I3 I4 (b + 20 + 10 * a) (b + 20 + 10 * o) → CQ I4 J b (eatL q.1 a o, q.2) ∧ FC b I J I4 J := by
        intro I4 h4
        obtain ⟨k1, k2, k3, k4, k5⟩ := h4
        have eb : I4 b = I3 b := k1 b (by omega) (by omega)
        have acm : a < cmD D2 := by rw [hD2]; exact ha
        have ocm : o < cmD D2 := by rw [hD2]; exact ho
        obtain ⟨⟨p0, p1, p2, p3, p4, p5, p6⟩, p7⟩ := q3.1.2.2.2 a acm
        obtain ⟨⟨r0, r1, r2, r3, r4, r5, r6⟩, r7⟩ := q3.1.2.2.2 o ocm
        have w2a : wD D2 a = wD q.1 a := by rw [hD2]; rfl
        have w2o : wD D2 o = wD q.1 o := by rw [hD2]; rfl
        have row : ∀ c, c ≠ 7 → c ≠ 11 → eatL q.1 a o c = D2 c := fun c h7 h11 => by rw [eatL_ne h11, hD2]; exact up2_ne _ _ _ h7
        have row7 : eatL q.1 a o 7 = va_up (q.1 7) a (q.1 7 a + q.1 7 o) := eatL_ne (by decide)
        have D27 : D2 7 = q.1 7 := by rw [hD2]; rfl
        have D211 : D2 11 = q.1 11 := by rw [hD2]; rfl
        have e11 := eatL_11 (D := q.1) hao
        refine ⟨q3.of ?_ (by rw [eb]) (by rw [eb]), ⟨fun c hc => ?_, fun _ _ => rfl⟩⟩
        · refine q3.1.lump (u0 := a) (fun c h1 h2 _ => k1 c h1 h2) (by rw [eb]; exact ⟨rfl, rfl, rfl, rfl⟩) ?_ rfl (fun c hc => row c (by omega) (by omega)) (fun c h1 h2 v hv => ?_) (fun k hk => by rw [e11.2 k hk]; show _ = D2 11 k; rw [D211]) ⟨⟨?_, ?_, ?_, ?_, ?_, ?_, ?_⟩, fun k hk => ?_⟩
          · rw [eb, thD_cg (D := D2) (by rw [row 0 (by decide) (by decide)]) (row 5 (by decide) (by decide))]
            exact q3.1.1.2.2.2.2.2
          · by_cases e7 : c = 7
            · subst e7; rw [row7, va_up_ne _ _ hv]; show _ = D2 7 v; rw [D27]
            · rw [row c e7 (by omega)]
          · rw [k2 0 (by decide) (by decide), row 5 (by decide) (by decide)]; exact p0
          · rw [k2 1 (by decide) (by decide), row 6 (by decide) (by decide)]; exact p1
          · rw [k4, p2, r2, eatL_w hao]
            show wD D2 a + wD D2 o = _
            rw [w2a, w2o]
          · rw [k3, p3, r3, row7, va_up_self]
            show D2 7 a + D2 7 o = _
            rw [D27]
          · rw [k2 4 (by decide) (by decide), row 10 (by decide) (by decide)]; exact p4
          · rw [k2 5 (by decide) (by decide), row 9 (by decide) (by decide)]; exact p5
          · rw [k2 6 (by decide) (by decide), row 8 (by decide) (by decide)]; exact p6
          · rw [k5 k hk, p7 k hk, r7 k hk, e11.1 k hk]
            show D2 11 _ + D2 11 _ = _
            rw [D211]
        · have := hc.1
          rw [k1 c (by omega) (by omega), hI3, up2_ne _ _ _ (by omega), hI2, up2_ne _ _ _ (by omega), o1 c (by omega)]
      refine V_aload_n C dX0_whoStays_75 rfl ?_
      refine V_getR C fl_X0_12 (ob_K hF) hd0 rfl dX0_whoStays_76 ?_
      refine V_dup C dX0_whoStays_79 rfl ?_
      refine V_getI C fl_X0_105 (ob_K hK1) rfl dX0_whoStays_80 ?_
      refine V_iconst C (v := nI 1) dX0_whoStays_83 (by decide +kernel) ?_
      refine V_isub C dX0_whoStays_84 ?_
      refine V_putI C fl_X0_105 (ob_K hK1) rfl rfl dX0_whoStays_85 ?_
      rw [← hI1]
      refine V_aload C dX0_whoStays_88 rfl ?_
      refine V_getI C fl_X0_92 (ob_K hLo) rfl dX0_whoStays_90 ?_
      rw [eo2]
      refine V_bipush C (v := nI 100) dX0_whoStays_93 (by decide +kernel) ?_
      refine V_imul C dX0_whoStays_95 ?_
      refine V_aload C dX0_whoStays_96 rfl ?_
      refine V_getI C fl_X0_92 (ob_K hLa) rfl dX0_whoStays_98 ?_
      rw [ea2]
      refine V_aload_n C dX0_whoStays_101 rfl ?_
      refine V_getI C fl_X0_25 (ob_K hF) rfl dX0_whoStays_102 ?_
      rw [es4]
      refine V_imul C dX0_whoStays_105 ?_
      refine V_icmp_lt C 135 dX0_whoStays_106 (by decide) (fun h106 => ?_) (fun h106 => absurd (hc) h106)
      refine V_aload C dX0_whoStays_135 rfl ?_
      refine V_iconst C (v := nI 1) dX0_whoStays_137 (by decide +kernel) ?_
      refine V_putI C fl_X0_144 (ob_K hLo) rfl rfl dX0_whoStays_138 ?_
      rw [← hI2]
      refine V_aload C dX0_whoStays_141 rfl ?_
      refine V_iload C dX0_whoStays_143 rfl ?_
      refine V_putI C fl_X0_194 (ob_K hLo) rfl rfl dX0_whoStays_145 ?_
      rw [← hI3]
      refine V_aload C dX0_whoStays_148 rfl ?_
      refine V_aload C dX0_whoStays_150 rfl ?_
      refine V_callV (F := fun _ => True) C (c_takeAllOf hLa hLo nao (by omega) (by omega)) mi_X3_takeAllOf ml_X0_197 rfl (ob_K hLa) (by decide) (by decide) (by decide) (Nat.le_of_ble_eq_true rfl) (fun _ _ => trivial) (fun v _ => clo_T v) rfl dX0_whoStays_152 ?_
      rintro v S' I4 J4 ⟨hS9, rfl, h4, hJ9⟩
      obtain rfl := hS9.symm
      obtain rfl := hJ9.symm
      obtain ⟨a1, a2⟩ := after _ h4
      refine V_iload C dX0_whoStays_155 rfl ?_
      exact V_iret C (Nat.zero_le _) (Nat.zero_le _) dX0_whoStays_157 (hp _ a1 a2)
    · have em : mtD (nI sh) (q.1, q.2.2) a o = (up2 q.1 5 o (nI 3), q.2.2 + (wD q.1 o).toInt64) := by
        unfold mtD
        rw [if_neg (fun h => hc (cmp.mpr (Or.inl h))), if_neg (fun h => hc (cmp.mpr (Or.inr h)))]
      rw [em] at hp
      obtain ⟨I2, hI2⟩ : ∃ I2, I2 = up2 I1 (b + 20 + 10 * o) 0 (nI 3) := ⟨_, rfl⟩
      have q2 : CQ I2 J b (up2 q.1 5 o (nI 3), q.2) := by
        have cd := hQ.1.gone ho o0 (v := nI 3) (by decide)
        rw [hI2, hI1, up2_comm _ _ _ _ _ (show b ≠ b + 20 + 10 * o by omega)]
        exact hQ.of cd (by rw [up2_row, va_up_ne _ _ (by decide), up2_ne _ _ _ (by omega)]) (by rw [up2_row, va_up_ne _ _ (by decide), up2_ne _ _ _ (by omega)])
      have e125 : I2 (b + 20 + 10 * o) 2 = wD q.1 o := (q2.1.2.2.2 o ho).1.2.2.1
      have q3 : CQ (up2 I2 b 5 (I2 b 5 + wD q.1 o)) J b (up2 q.1 5 o (nI 3), q.2.1, q.2.2 + (wD q.1 o).toInt64) := by
        refine ⟨q2.1.oth (Or.inr rfl), ?_, ?_⟩
        · rw [up2_row, va_up_ne _ _ (by decide)]; exact q2.2.1
        · rw [up2_row, va_up_self]
          exact sum64 q2.2.2 hi.2.1.2.2.2.2.1 le.2.2.2.2.1 (Int.le_of_lt wo1) wo2
      have f3 : FC b I J (up2 I2 b 5 (I2 b 5 + wD q.1 o)) J := by
        rw [hI2, hI1]
        exact ((FC.up (by omega)).tr (FC.up (by omega))).tr (FC.up (by omega))
      refine V_aload_n C dX0_whoStays_75 rfl ?_
      refine V_getR C fl_X0_12 (ob_K hF) hd0 rfl dX0_whoStays_76 ?_
      refine V_dup C dX0_whoStays_79 rfl ?_
      refine V_getI C fl_X0_105 (ob_K hK1) rfl dX0_whoStays_80 ?_
      refine V_iconst C (v := nI 1) dX0_whoStays_83 (by decide +kernel) ?_
      refine V_isub C dX0_whoStays_84 ?_
      refine V_putI C fl_X0_105 (ob_K hK1) rfl rfl dX0_whoStays_85 ?_
      rw [← hI1]
      refine V_aload C dX0_whoStays_88 rfl ?_
      refine V_getI C fl_X0_92 (ob_K hLo) rfl dX0_whoStays_90 ?_
      rw [eo2]
      refine V_bipush C (v := nI 100) dX0_whoStays_93 (by decide +kernel) ?_
      refine V_imul C dX0_whoStays_95 ?_
      refine V_aload C dX0_whoStays_96 rfl ?_
      refine V_getI C fl_X0_92 (ob_K hLa) rfl dX0_whoStays_98 ?_
      rw [ea2]
      refine V_aload_n C dX0_whoStays_101 rfl ?_
      refine V_getI C fl_X0_25 (ob_K hF) rfl dX0_whoStays_102 ?_
      rw [es4]
      refine V_imul C dX0_whoStays_105 ?_
      refine V_icmp_lt C 135 dX0_whoStays_106 (by decide) (fun h106 => absurd h106 (hc)) (fun h106 => ?_)
      refine V_aload C dX0_whoStays_109 rfl ?_
      refine V_iconst C (v := nI 3) dX0_whoStays_111 (by decide +kernel) ?_
      refine V_putI C fl_X0_144 (ob_K hLo) rfl rfl dX0_whoStays_112 ?_
      rw [← hI2]
      refine V_aload_n C dX0_whoStays_115 rfl ?_
      refine V_getR C fl_X0_12 (ob_K hF) hd0 rfl dX0_whoStays_116 ?_
      refine V_dup C dX0_whoStays_119 rfl ?_
      refine V_getI C fl_X0_191 (ob_K hK1) rfl dX0_whoStays_120 ?_
      refine V_aload C dX0_whoStays_123 rfl ?_
      refine V_getI C fl_X0_92 (ob_K hLo) rfl dX0_whoStays_125 ?_
      rw [e125]
      refine V_iadd C dX0_whoStays_128 ?_
      refine V_putI C fl_X0_191 (ob_K hK1) rfl rfl dX0_whoStays_129 ?_
      refine V_goto C 155 dX0_whoStays_132 (by decide) ?_
      refine V_iload C dX0_whoStays_155 rfl ?_
      exact V_iret C (Nat.zero_le _) (Nat.zero_le _) dX0_whoStays_157 (hp _ q3 f3)
  by_cases hle : wD q.1 s ≤ wD q.1 f
  · have ew : win q.1 f s = f := by unfold win; rw [if_pos hle]
    have em : mtAt (nI sh) (q.1, q.2.2) f s = mtD (nI sh) (q.1, q.2.2) f s := by unfold mtAt; rw [if_pos hle]
    rw [ew, em] at hP
    refine V_aload_n C dX0_whoStays_0 rfl ?_
    refine V_getR C fl_X0_12 (ob_K hF) hd0 rfl dX0_whoStays_1 ?_
    refine V_getR C fl_X0_140 (ob_K hK1) (ob_R hK1 12 (b + 13) rfl rfl) rfl dX0_whoStays_4 ?_
    refine V_iload_n C dX0_whoStays_7 rfl ?_
    refine V_aald C (s) (ob_A2 hK1 12 (b + 13) rfl rfl) (by first | rfl | (simp only [nI_add, pk_mul]; done) | (simp only [nI_add, pk_mul]; congr 1; omega)) (by rw [ob_N hK1 12 (b + 13) rfl rfl]; omega) (by rw [ob_N hK1 12 (b + 13) rfl rfl]; decide) hRs dX0_whoStays_8 ?_
    refine V_getI C fl_X0_92 (ob_K hLs) rfl dX0_whoStays_9 ?_
    refine V_aload_n C dX0_whoStays_12 rfl ?_
    refine V_getR C fl_X0_12 (ob_K hF) hd0 rfl dX0_whoStays_13 ?_
    refine V_getR C fl_X0_140 (ob_K hK1) (ob_R hK1 12 (b + 13) rfl rfl) rfl dX0_whoStays_16 ?_
    refine V_iload_n C dX0_whoStays_19 rfl ?_
    refine V_aald C (f) (ob_A2 hK1 12 (b + 13) rfl rfl) (by first | rfl | (simp only [nI_add, pk_mul]; done) | (simp only [nI_add, pk_mul]; congr 1; omega)) (by rw [ob_N hK1 12 (b + 13) rfl rfl]; omega) (by rw [ob_N hK1 12 (b + 13) rfl rfl]; decide) hRf dX0_whoStays_20 ?_
    refine V_getI C fl_X0_92 (ob_K hLf) rfl dX0_whoStays_21 ?_
    refine V_icmp_le C 31 dX0_whoStays_24 (by decide) (fun h24 => ?_) (fun h24 => absurd (by rw [wf, ws]; exact hle) h24)
    refine V_iconst C (v := nI 0) dX0_whoStays_31 (by decide +kernel) ?_
    refine V_istore_n C dX0_whoStays_32 (hn _ (by decide)) ?_
    refine V_iload_n C dX0_whoStays_33 rfl ?_
    refine V_if_eq C 41 dX0_whoStays_34 (by decide) (fun h34 => ?_) (fun h34 => absurd (rfl) h34)
    refine V_iload_n C dX0_whoStays_41 rfl ?_
    refine V_istore C dX0_whoStays_42 (hn _ (by decide)) ?_
    refine V_aload_n C dX0_whoStays_44 rfl ?_
    refine V_getR C fl_X0_12 (ob_K hF) hd0 rfl dX0_whoStays_45 ?_
    refine V_getR C fl_X0_140 (ob_K hK1) (ob_R hK1 12 (b + 13) rfl rfl) rfl dX0_whoStays_48 ?_
    refine V_iload C dX0_whoStays_51 rfl ?_
    refine V_aald C (f) (ob_A2 hK1 12 (b + 13) rfl rfl) (by first | rfl | (simp only [nI_add, pk_mul]; done) | (simp only [nI_add, pk_mul]; congr 1; omega)) (by rw [ob_N hK1 12 (b + 13) rfl rfl]; omega) (by rw [ob_N hK1 12 (b + 13) rfl rfl]; decide) hRf dX0_whoStays_53 ?_
    refine V_astore C dX0_whoStays_54 (hn _ (by decide)) ?_
    refine V_aload_n C dX0_whoStays_56 rfl ?_
    refine V_getR C fl_X0_12 (ob_K hF) hd0 rfl dX0_whoStays_57 ?_
    refine V_getR C fl_X0_140 (ob_K hK1) (ob_R hK1 12 (b + 13) rfl rfl) rfl dX0_whoStays_60 ?_
    refine V_iload_n C dX0_whoStays_63 rfl ?_
    refine V_if_eq C 71 dX0_whoStays_64 (by decide) (fun h64 => ?_) (fun h64 => absurd (rfl) h64)
    refine V_iload_n C dX0_whoStays_71 rfl ?_
    refine V_aald C (s) (ob_A2 hK1 12 (b + 13) rfl rfl) (by first | rfl | (simp only [nI_add, pk_mul]; done) | (simp only [nI_add, pk_mul]; congr 1; omega)) (by rw [ob_N hK1 12 (b + 13) rfl rfl]; omega) (by rw [ob_N hK1 12 (b + 13) rfl rfl]; decide) hRs dX0_whoStays_72 ?_
    refine V_astore C dX0_whoStays_73 (hn _ (by decide)) ?_
    exact go75 f s _ hf hs hne f0 s0 hle (fun I' h1 h2 => hP _ _ _ ⟨rfl, h1, h2, rfl⟩)
  · have ew : win q.1 f s = s := by unfold win; rw [if_neg hle]
    have em : mtAt (nI sh) (q.1, q.2.2) f s = mtD (nI sh) (q.1, q.2.2) s f := by unfold mtAt; rw [if_neg hle]
    rw [ew, em] at hP
    refine V_aload_n C dX0_whoStays_0 rfl ?_
    refine V_getR C fl_X0_12 (ob_K hF) hd0 rfl dX0_whoStays_1 ?_
    refine V_getR C fl_X0_140 (ob_K hK1) (ob_R hK1 12 (b + 13) rfl rfl) rfl dX0_whoStays_4 ?_
    refine V_iload_n C dX0_whoStays_7 rfl ?_
    refine V_aald C (s) (ob_A2 hK1 12 (b + 13) rfl rfl) (by first | rfl | (simp only [nI_add, pk_mul]; done) | (simp only [nI_add, pk_mul]; congr 1; omega)) (by rw [ob_N hK1 12 (b + 13) rfl rfl]; omega) (by rw [ob_N hK1 12 (b + 13) rfl rfl]; decide) hRs dX0_whoStays_8 ?_
    refine V_getI C fl_X0_92 (ob_K hLs) rfl dX0_whoStays_9 ?_
    refine V_aload_n C dX0_whoStays_12 rfl ?_
    refine V_getR C fl_X0_12 (ob_K hF) hd0 rfl dX0_whoStays_13 ?_
    refine V_getR C fl_X0_140 (ob_K hK1) (ob_R hK1 12 (b + 13) rfl rfl) rfl dX0_whoStays_16 ?_
    refine V_iload_n C dX0_whoStays_19 rfl ?_
    refine V_aald C (f) (ob_A2 hK1 12 (b + 13) rfl rfl) (by first | rfl | (simp only [nI_add, pk_mul]; done) | (simp only [nI_add, pk_mul]; congr 1; omega)) (by rw [ob_N hK1 12 (b + 13) rfl rfl]; omega) (by rw [ob_N hK1 12 (b + 13) rfl rfl]; decide) hRf dX0_whoStays_20 ?_
    refine V_getI C fl_X0_92 (ob_K hLf) rfl dX0_whoStays_21 ?_
    refine V_icmp_le C 31 dX0_whoStays_24 (by decide) (fun h24 => absurd h24 (by rw [wf, ws]; exact hle)) (fun h24 => ?_)
    refine V_iconst C (v := nI 1) dX0_whoStays_27 (by decide +kernel) ?_
    refine V_goto C 32 dX0_whoStays_28 (by decide) ?_
    refine V_istore_n C dX0_whoStays_32 (hn _ (by decide)) ?_
    refine V_iload_n C dX0_whoStays_33 rfl ?_
    refine V_if_eq C 41 dX0_whoStays_34 (by decide) (fun h34 => absurd h34 (by decide)) (fun h34 => ?_)
    refine V_iload_n C dX0_whoStays_37 rfl ?_
    refine V_goto C 42 dX0_whoStays_38 (by decide) ?_
    refine V_istore C dX0_whoStays_42 (hn _ (by decide)) ?_
    refine V_aload_n C dX0_whoStays_44 rfl ?_
    refine V_getR C fl_X0_12 (ob_K hF) hd0 rfl dX0_whoStays_45 ?_
    refine V_getR C fl_X0_140 (ob_K hK1) (ob_R hK1 12 (b + 13) rfl rfl) rfl dX0_whoStays_48 ?_
    refine V_iload C dX0_whoStays_51 rfl ?_
    refine V_aald C (s) (ob_A2 hK1 12 (b + 13) rfl rfl) (by first | rfl | (simp only [nI_add, pk_mul]; done) | (simp only [nI_add, pk_mul]; congr 1; omega)) (by rw [ob_N hK1 12 (b + 13) rfl rfl]; omega) (by rw [ob_N hK1 12 (b + 13) rfl rfl]; decide) hRs dX0_whoStays_53 ?_
    refine V_astore C dX0_whoStays_54 (hn _ (by decide)) ?_
    refine V_aload_n C dX0_whoStays_56 rfl ?_
    refine V_getR C fl_X0_12 (ob_K hF) hd0 rfl dX0_whoStays_57 ?_
    refine V_getR C fl_X0_140 (ob_K hK1) (ob_R hK1 12 (b + 13) rfl rfl) rfl dX0_whoStays_60 ?_
    refine V_iload_n C dX0_whoStays_63 rfl ?_
    refine V_if_eq C 71 dX0_whoStays_64 (by decide) (fun h64 => absurd h64 (by decide)) (fun h64 => ?_)
    refine V_iload_n C dX0_whoStays_67 rfl ?_
    refine V_goto C 72 dX0_whoStays_68 (by decide) ?_
    refine V_aald C (f) (ob_A2 hK1 12 (b + 13) rfl rfl) (by first | rfl | (simp only [nI_add, pk_mul]; done) | (simp only [nI_add, pk_mul]; congr 1; omega)) (by rw [ob_N hK1 12 (b + 13) rfl rfl]; omega) (by rw [ob_N hK1 12 (b + 13) rfl rfl]; decide) hRf dX0_whoStays_72 ?_
    refine V_astore C dX0_whoStays_73 (hn _ (by decide)) ?_
    exact go75 s f _ hs hf (Ne.symm hne) s0 f0 (Int32.le_of_lt (Int32.not_le.mp hle)) (fun I' h1 h2 => hP _ _ _ ⟨rfl, h1, h2, rfl⟩)
set_option maxRecDepth 100000 in
set_option maxHeartbeats 2000000 in
theorem c_meet (hX : CoS S b la) (hsh : I 1140 4 = nI sh) (h101 : sh ≤ 101) (hQ : CQ I J b q) (hi : iOk q) : Mn l yX0_meet cX0_meet 4 none 2 [.ref 1140] S I J (fun v I' J' => v = none ∧ CQ I' J b ((s6D (nI sh) (q.1, q.2.2)).1, q.2.1, (s6D (nI sh) (q.1, q.2.2)).2) ∧ FC b I J I' J ∧ J' = J) := by
  refine Mn.of (by decide) (fun ad => by simp [lg_sl, vv, Value.category]) (fun X P hP hn C => ?_)
  have hX' := hX
  obtain ⟨hF, hd0, hl1, hK, hL, hb, hla⟩ := hX
  have hK1 := hK.1
  obtain ⟨n, hnn⟩ : ∃ n, n = rgD q.1 := ⟨_, rfl⟩
  obtain ⟨m, hmm⟩ : ∃ m, m = cmD q.1 := ⟨_, rfl⟩
  have h12 : n ≤ 12 := by rw [hnn]; exact hi.1.2.2.1
  have m30 : m ≤ 30 := by rw [hmm]; exact hi.1.2.2.2.2.1
  have e40 : ∀ Ic, FC b I J Ic J → Ic 1140 4 = nI sh := fun Ic hf => by rw [hf.1 1140 ⟨by omega, by omega, by omega, by omega, by omega, by omega⟩]; exact hsh
  have outer : ∀ (c r : Nat) (p : DV × Int64) (Ic : HI) (x2 x3 : Option Value), r + c = n → kpD q.1 p.1 → FC b I J Ic J → CQ Ic J b (p.1, q.2.1, p.2) → iOk (p.1, q.2.1, p.2) → msN (nI sh) c r p = msN (nI sh) n 0 (q.1, q.2.2) → V X P 0 0 2 [some (.ref 1140), some (.int (nI r)), x2, x3] [] S Ic J := by
    intro c
    induction c with
    | zero =>
      intro r p Ic x2 x3 hr hk hf hq hio he
      have hr : r = n := hr
      have er : Ic b 0 = nI n := by rw [hnn, ← rg_kp hk]; exact hq.1.rg hio.1
      have he : p = msN (nI sh) n 0 (q.1, q.2.2) := he
      refine V_iload_n C dX0_meet_2 rfl ?_
      refine V_aload_n C dX0_meet_3 rfl ?_
      refine V_getR C fl_X0_12 (ob_K hF) hd0 rfl dX0_meet_4 ?_
      refine V_getI C fl_X0_108 (ob_K hK1) rfl dX0_meet_7 ?_
      refine V_icmp_ge C 72 dX0_meet_10 (by decide) (fun h10 => ?_) (fun h10 => absurd (by rw [er, hr]; exact Int32.le_refl _) h10)
      exact V_vret C (Nat.zero_le _) (Nat.zero_le _) dX0_meet_72 (hP _ _ _ ⟨rfl, by unfold s6D; rw [← hnn, ← he]; exact hq, hf, rfl⟩)
    | succ c ih =>
      intro r p Ic x2 x3 hr hk hf hq hio he
      have er : Ic b 0 = nI n := by rw [hnn, ← rg_kp hk]; exact hq.1.rg hio.1
      have ecm : cmD p.1 = m := by rw [cmD_cg hk.2.1, hmm]
      have inner : ∀ (d u : Nat) (st : Option Nat) (p2 : DV × Int64) (In : HI), u + d = m → kpD q.1 p2.1 → (∀ f, st = some f → f < u ∧ p2.1 5 f = 0) → FC b I J In J → CQ In J b (p2.1, q.2.1, p2.2) → iOk (p2.1, q.2.1, p2.2) → psN (nI sh) r d u st p2 = psN (nI sh) r m 0 none p → V X P 0 0 17 [some (.ref 1140), some (.int (nI r)), some (.int (enc st)), some (.int (nI u))] [] S In J := by
        intro d
        induction d with
        | zero =>
          intro u st p2 In hu hk2 hst f2 q2 i2 he2
          have hu : u = m := hu
          have e6 : In b 6 = nI m := by rw [hmm, ← cmD_cg hk2.2.1]; exact q2.1.cm i2.1
          have he2 : p2 = psN (nI sh) r m 0 none p := he2
          have nx := ih (r + 1) p2 In (some (.int (enc st))) (some (.int (nI u))) (by omega) hk2 f2 q2 i2 (by rw [← he, he2, ← ecm]; rfl)
          refine V_iload_n C dX0_meet_17 rfl ?_
          refine V_aload_n C dX0_meet_18 rfl ?_
          refine V_getR C fl_X0_12 (ob_K hF) hd0 rfl dX0_meet_19 ?_
          refine V_getI C fl_X0_137 (ob_K hK1) rfl dX0_meet_22 ?_
          refine V_icmp_ge C 66 dX0_meet_25 (by decide) (fun h25 => ?_) (fun h25 => absurd (by rw [e6, hu]; exact Int32.le_refl _) h25)
          refine V_iincU C dX0_meet_66 rfl (hn _ (by decide)) ?_
          refine V_goto C 2 dX0_meet_69 (by decide) ?_
          exact nx
        | succ d ih2 =>
          intro u st p2 In hu hk2 hst f2 q2 i2 he2
          have ec2 : cmD p2.1 = m := by rw [cmD_cg hk2.2.1, hmm]
          have e6 : In b 6 = nI m := by rw [← ec2]; exact q2.1.cm i2.1
          have huc : u < cmD p2.1 := by omega
          obtain ⟨hLu, hRu⟩ := hK.2 u (by omega)
          obtain ⟨⟨w0, w1, -⟩, -⟩ := q2.1.2.2.2 u huc
          have w0 : In (b + 20 + 10 * u) 0 = p2.1 5 u := w0
          have w1 : In (b + 20 + 10 * u) 1 = p2.1 6 u := w1
          rw [psN_s] at he2
          have ein : (In (b + 20 + 10 * u) 0 = 0 ∧ In (b + 20 + 10 * u) 1 = nI r) ↔ inR p2.1 r u := by rw [w0, w1]
          by_cases hin : inR p2.1 r u
          · rw [if_pos hin] at he2
            cases hst' : st with
            | none =>
              rw [hst'] at he2
              have nx := ih2 (u + 1) (some u) p2 In (by omega) hk2 (fun f hf => by cases hf; exact ⟨by omega, hin.1⟩) f2 q2 i2 he2
              refine V_iload_n C dX0_meet_17 rfl ?_
              refine V_aload_n C dX0_meet_18 rfl ?_
              refine V_getR C fl_X0_12 (ob_K hF) hd0 rfl dX0_meet_19 ?_
              refine V_getI C fl_X0_137 (ob_K hK1) rfl dX0_meet_22 ?_
              refine V_icmp_ge C 66 dX0_meet_25 (by decide) (fun h25 => absurd h25 (by rw [e6]; exact nI_ge (by omega) (by omega))) (fun h25 => ?_)
              refine V_aload_n C dX0_meet_28 rfl ?_
              refine V_getR C fl_X0_12 (ob_K hF) hd0 rfl dX0_meet_29 ?_
              refine V_getR C fl_X0_140 (ob_K hK1) (ob_R hK1 12 (b + 13) rfl rfl) rfl dX0_meet_32 ?_
              refine V_iload_n C dX0_meet_35 rfl ?_
              refine V_aald C (u) (ob_A2 hK1 12 (b + 13) rfl rfl) (by first | rfl | (simp only [nI_add, pk_mul]; done) | (simp only [nI_add, pk_mul]; congr 1; omega)) (by rw [ob_N hK1 12 (b + 13) rfl rfl]; omega) (by rw [ob_N hK1 12 (b + 13) rfl rfl]; decide) hRu dX0_meet_36 ?_
              refine V_iload_n C dX0_meet_37 rfl ?_
              refine V_callV (F := fun _ => True) C (c_isThereIn hLu _) mi_X3_isThereIn ml_X0_185 rfl (ob_K hLu) (by decide) (by decide) (by decide) (Nat.le_of_ble_eq_true rfl) (fun _ _ => trivial) (fun v _ => clo_T v) rfl dX0_meet_38 ?_
              rintro v S' I' J' ⟨hS9, rfl, hI9, hJ9⟩
              obtain rfl := hS9.symm
              obtain rfl := hI9.symm
              obtain rfl := hJ9.symm
              refine V_if_eq C 60 dX0_meet_41 (by decide) (fun h41 => absurd h41 (by rw [bI_0]; exact fun q => q (ein.mpr hin))) (fun h41 => ?_)
              refine V_iload_n C dX0_meet_44 rfl ?_
              refine V_iconst C (v := (-1)) dX0_meet_45 (by decide +kernel) ?_
              refine V_icmp_ne C 53 dX0_meet_46 (by decide) (fun h46 => absurd (rfl) h46) (fun h46 => ?_)
              refine V_iload_n C dX0_meet_49 rfl ?_
              refine V_goto C 59 dX0_meet_50 (by decide) ?_
              refine V_istore_n C dX0_meet_59 (hn _ (by decide)) ?_
              refine V_iincU C dX0_meet_60 rfl (hn _ (by decide)) ?_
              refine V_goto C 17 dX0_meet_63 (by decide) ?_
              exact nx
            | some f =>
              rw [hst'] at he2
              obtain ⟨g1, g2⟩ := hst f hst'
              have ms := mt_st (share := nI sh) (q := p2) (f := f) (s := u) (by omega) g2 hin.1
              have after : ∀ I3, CQ I3 J b ((mtAt (nI sh) p2 f u).1, q.2.1, (mtAt (nI sh) p2 f u).2) → FC b In J I3 J → V X P 0 0 17 [some (.ref 1140), some (.int (nI r)), some (.int (nI (win p2.1 f u))), some (.int (nI (u + 1)))] [] S I3 J := fun I3 q3 f3 => ih2 (u + 1) (some (win p2.1 f u)) (mtAt (nI sh) p2 f u) I3 (by omega) (hk2.tr mtAt_kp) (fun x hx => by cases hx; exact ⟨win_lt (by omega) (by omega), ms.1⟩) (f2.tr f3) q3 (mtAt_i (q := (p2.1, q.2.1, p2.2)) i2 (show f < cmD p2.1 by omega) huc (by omega) g2 hin.1) he2
              show V X P 0 0 17 [some (.ref 1140), some (.int (nI r)), some (.int (nI f)), some (.int (nI u))] [] S In J
              refine V_iload_n C dX0_meet_17 rfl ?_
              refine V_aload_n C dX0_meet_18 rfl ?_
              refine V_getR C fl_X0_12 (ob_K hF) hd0 rfl dX0_meet_19 ?_
              refine V_getI C fl_X0_137 (ob_K hK1) rfl dX0_meet_22 ?_
              refine V_icmp_ge C 66 dX0_meet_25 (by decide) (fun h25 => absurd h25 (by rw [e6]; exact nI_ge (by omega) (by omega))) (fun h25 => ?_)
              refine V_aload_n C dX0_meet_28 rfl ?_
              refine V_getR C fl_X0_12 (ob_K hF) hd0 rfl dX0_meet_29 ?_
              refine V_getR C fl_X0_140 (ob_K hK1) (ob_R hK1 12 (b + 13) rfl rfl) rfl dX0_meet_32 ?_
              refine V_iload_n C dX0_meet_35 rfl ?_
              refine V_aald C (u) (ob_A2 hK1 12 (b + 13) rfl rfl) (by first | rfl | (simp only [nI_add, pk_mul]; done) | (simp only [nI_add, pk_mul]; congr 1; omega)) (by rw [ob_N hK1 12 (b + 13) rfl rfl]; omega) (by rw [ob_N hK1 12 (b + 13) rfl rfl]; decide) hRu dX0_meet_36 ?_
              refine V_iload_n C dX0_meet_37 rfl ?_
              refine V_callV (F := fun _ => True) C (c_isThereIn hLu _) mi_X3_isThereIn ml_X0_185 rfl (ob_K hLu) (by decide) (by decide) (by decide) (Nat.le_of_ble_eq_true rfl) (fun _ _ => trivial) (fun v _ => clo_T v) rfl dX0_meet_38 ?_
              rintro v S' I' J' ⟨hS9, rfl, hI9, hJ9⟩
              obtain rfl := hS9.symm
              obtain rfl := hI9.symm
              obtain rfl := hJ9.symm
              refine V_if_eq C 60 dX0_meet_41 (by decide) (fun h41 => absurd h41 (by rw [bI_0]; exact fun q => q (ein.mpr hin))) (fun h41 => ?_)
              refine V_iload_n C dX0_meet_44 rfl ?_
              refine V_iconst C (v := (-1)) dX0_meet_45 (by decide +kernel) ?_
              refine V_icmp_ne C 53 dX0_meet_46 (by decide) (fun h46 => ?_) (fun h46 => absurd h46 (fun h => nI_pos (n := f) (by omega) (by rw [h]; decide)))
              refine V_aload_n C dX0_meet_53 rfl ?_
              refine V_iload_n C dX0_meet_54 rfl ?_
              refine V_iload_n C dX0_meet_55 rfl ?_
              refine V_callV (F := fun _ => True) C (c_whoStays (q := (p2.1, q.2.1, p2.2)) hX' (e40 In f2) h101 q2 i2 (show f < cmD p2.1 by omega) huc (by omega) g2 hin.1) mi_X0_whoStays ml_X0_188 rfl (ob_K hF) (by decide) (by decide) (by decide) (Nat.le_of_ble_eq_true rfl) (fun _ _ => trivial) (fun v _ => clo_T v) rfl dX0_meet_56 ?_
              rintro v S' I3 J3 ⟨hS9, rfl, q3, f3, hJ9⟩
              obtain rfl := hS9.symm
              obtain rfl := hJ9.symm
              refine V_istore_n C dX0_meet_59 (hn _ (by decide)) ?_
              refine V_iincU C dX0_meet_60 rfl (hn _ (by decide)) ?_
              refine V_goto C 17 dX0_meet_63 (by decide) ?_
              exact after _ q3 f3
          · rw [if_neg hin] at he2
            have nx := ih2 (u + 1) st p2 In (by omega) hk2 (fun f hf => ⟨by have := (hst f hf).1; omega, (hst f hf).2⟩) f2 q2 i2 he2
            refine V_iload_n C dX0_meet_17 rfl ?_
            refine V_aload_n C dX0_meet_18 rfl ?_
            refine V_getR C fl_X0_12 (ob_K hF) hd0 rfl dX0_meet_19 ?_
            refine V_getI C fl_X0_137 (ob_K hK1) rfl dX0_meet_22 ?_
            refine V_icmp_ge C 66 dX0_meet_25 (by decide) (fun h25 => absurd h25 (by rw [e6]; exact nI_ge (by omega) (by omega))) (fun h25 => ?_)
            refine V_aload_n C dX0_meet_28 rfl ?_
            refine V_getR C fl_X0_12 (ob_K hF) hd0 rfl dX0_meet_29 ?_
            refine V_getR C fl_X0_140 (ob_K hK1) (ob_R hK1 12 (b + 13) rfl rfl) rfl dX0_meet_32 ?_
            refine V_iload_n C dX0_meet_35 rfl ?_
            refine V_aald C (u) (ob_A2 hK1 12 (b + 13) rfl rfl) (by first | rfl | (simp only [nI_add, pk_mul]; done) | (simp only [nI_add, pk_mul]; congr 1; omega)) (by rw [ob_N hK1 12 (b + 13) rfl rfl]; omega) (by rw [ob_N hK1 12 (b + 13) rfl rfl]; decide) hRu dX0_meet_36 ?_
            refine V_iload_n C dX0_meet_37 rfl ?_
            refine V_callV (F := fun _ => True) C (c_isThereIn hLu _) mi_X3_isThereIn ml_X0_185 rfl (ob_K hLu) (by decide) (by decide) (by decide) (Nat.le_of_ble_eq_true rfl) (fun _ _ => trivial) (fun v _ => clo_T v) rfl dX0_meet_38 ?_
            rintro v S' I' J' ⟨hS9, rfl, hI9, hJ9⟩
            obtain rfl := hS9.symm
            obtain rfl := hI9.symm
            obtain rfl := hJ9.symm
            refine V_if_eq C 60 dX0_meet_41 (by decide) (fun h41 => ?_) (fun h41 => absurd (bI_f (fun q => hin (ein.mp q))) h41)
            refine V_iincU C dX0_meet_60 rfl (hn _ (by decide)) ?_
            refine V_goto C 17 dX0_meet_63 (by decide) ?_
            exact nx
      have nx := inner m 0 none p Ic (Nat.zero_add _) hk (fun f hf => by cases hf) hf hq hio rfl
      refine V_iload_n C dX0_meet_2 rfl ?_
      refine V_aload_n C dX0_meet_3 rfl ?_
      refine V_getR C fl_X0_12 (ob_K hF) hd0 rfl dX0_meet_4 ?_
      refine V_getI C fl_X0_108 (ob_K hK1) rfl dX0_meet_7 ?_
      refine V_icmp_ge C 72 dX0_meet_10 (by decide) (fun h10 => absurd h10 (by rw [er]; exact nI_ge (by omega) (by omega))) (fun h10 => ?_)
      refine V_iconst C (v := (-1)) dX0_meet_13 (by decide +kernel) ?_
      refine V_istore_n C dX0_meet_14 (hn _ (by decide)) ?_
      refine V_iconst C (v := nI 0) dX0_meet_15 (by decide +kernel) ?_
      refine V_istore_n C dX0_meet_16 (hn _ (by decide)) ?_
      exact nx
  refine V_iconst C (v := nI 0) dX0_meet_0 (by decide +kernel) ?_
  refine V_istore_n C dX0_meet_1 (hn _ (by decide)) ?_
  exact outer n 0 (q.1, q.2.2) I _ _ (Nat.zero_add _) kpD.re FC.re hQ hi rfl
end C12
