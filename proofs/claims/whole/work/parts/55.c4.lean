/-! the class's disk: a new lump, a fresh disk, a copy -/
section C4
variable {l : Launch} {S : HS} {I I' : HI} {J J' : HJ} {b : Nat} {D D' : DV}
theorem iSum_one {f : Nat → Int32} {k r : Nat} {v : Int32} : ∀ n, (∀ i, i < n → f (k + i) = if i = r then v else 0) → iSum f k n = if r < n then v else 0
  | 0, _ => rfl
  | n + 1, h => by
    rw [iSum, iSum_one n (fun i hi => h i (by omega)), h n (by omega)]
    by_cases e : n = r
    · subst e; rw [if_neg (Nat.lt_irrefl _), if_pos rfl, if_pos (Nat.lt_succ_self _), Int32.zero_add]
    · rw [if_neg e, Int32.add_zero]
      by_cases h : r < n
      · rw [if_pos h, if_pos (by omega)]
      · rw [if_neg h, if_neg (by omega)]
theorem newL_11 {r s : Nat} (hr : r < 12) : ∀ i, i < 12 → newL D r s 11 (12 * cmD D + i) = if i = r then D 4 (5 * r + s) else 0 := by
  intro i hi
  show (if 12 * cmD D ≤ 12 * cmD D + i ∧ 12 * cmD D + i < 12 * cmD D + 12 then (if nI (12 * cmD D + i - 12 * cmD D) = nI r then D 4 (5 * r + s) else nI 0) else _) = _
  rw [if_pos (by omega), show 12 * cmD D + i - 12 * cmD D = i by omega]
  by_cases e : i = r
  · subst e; rw [if_pos rfl, if_pos rfl]
  · rw [if_neg e, if_neg (fun q => e ((nI_eq (by omega) (by omega)).mp q))]; rfl
theorem newL_11' {r s k : Nat} (h : k < 12 * cmD D) : newL D r s 11 k = D 11 k := by
  show (if 12 * cmD D ≤ k ∧ k < 12 * cmD D + 12 then _ else _) = _
  rw [if_neg (by omega)]
theorem newL_w {r s : Nat} (hr : r < 12) : wD (newL D r s) (cmD D) = D 4 (5 * r + s) := by
  unfold wD
  rw [iSum_one (f := newL D r s 11) (k := 12 * cmD D) (r := r) (v := D 4 (5 * r + s)) 12 (newL_11 hr), if_pos hr]
  show _ + va_up (D 7) (cmD D) (nI 0) (cmD D) = _
  rw [va_up_self]
  exact Int32.add_zero _
theorem newL_w' {r s u : Nat} (hu : u < cmD D) : wD (newL D r s) u = wD D u := by
  unfold wD
  rw [iSum_congr (f := newL D r s 11) (g := D 11) (k := 12 * u) (m := 12 * u) (fun i hi => newL_11' (by omega))]
  show _ + va_up (D 7) (cmD D) (nI 0) u = _
  rw [va_up_ne _ _ (by omega)]
theorem newL_th {r s : Nat} (hc : cmD D < 30) : thD (newL D r s) = thD D + nI 1 := by
  have ec : cmD (newL D r s) = cmD D + 1 := nI_clamp (by omega)
  unfold thD
  rw [ec, tCnt]
  have e1 : newL D r s 5 (cmD D) = 0 := va_up_self _ _ _
  rw [if_pos e1]
  refine congrArg (· + (1 : Int32)) (tCnt_congr (fun i hi => ?_))
  exact va_up_ne _ _ (by omega)
set_option maxRecDepth 100000 in
set_option maxHeartbeats 1000000 in
theorem c_gatherAll (hb0 : 1500 ≤ b) (hK : Dk S b) (hC : CD I J b D) (hD : rOk D) {r s : Nat} (hr : r < rgD D) (hs : s < 5) (hc : cmD D < 30) : Mn l yX1_gatherAll cX1_gatherAll 4 none 1 [.ref b, .int (nI r), .int (nI s)] S I J (fun v I' J' => v = none ∧ CD I' J b (newL D r s) ∧ FC b I J I' J ∧ (I' b 4 = I b 4 ∧ I' b 5 = I b 5) ∧ J' = J) := by
  refine Mn.of (by decide) (fun ad => by simp [lg_sl, vv, Value.category]) (fun X P hP hn C => ?_)
  have hK1 := hK.1
  have h12 := hD.2.2.1
  have ec := hC.cm hD
  obtain ⟨A, hA⟩ : ∃ A, A = b + 20 + 10 * cmD D := ⟨_, rfl⟩
  obtain ⟨hLx, hRx⟩ := hK.2 (cmD D) hc
  rw [← hA] at hLx hRx
  obtain ⟨I1, hI1⟩ : ∃ I1, I1 = up2 (up2 I b 6 (nI (cmD D + 1))) b 7 (thD D + nI 1) := ⟨_, rfl⟩
  have e16 : I b 6 + nI 1 = nI (cmD D + 1) := by rw [ec, nI_add]
  have e26 : up2 I b 6 (nI (cmD D + 1)) b 7 + nI 1 = thD D + nI 1 := by rw [up2_row, va_up_ne _ _ (by decide), hC.1.2.2.2.2.2]
  have o1 : ∀ c, c ≠ b → I1 c = I c := fun c hc => by rw [hI1, up2_ne _ _ _ hc, up2_ne _ _ _ hc]
  have b1 : ∀ x, x ≠ 6 → x ≠ 7 → I1 b x = I b x := fun x h6 h7 => by rw [hI1, up2_row, va_up_ne _ _ h7, up2_row, va_up_ne _ _ h6]
  have b6 : I1 b 6 = nI (cmD D + 1) := by rw [hI1, up2_row, va_up_ne _ _ (by decide), up2_row, va_up_self]
  have b7 : I1 b 7 = thD D + nI 1 := by rw [hI1, up2_row, va_up_self]
  have est : I1 b 1 = D 0 1 := (b1 1 (by decide) (by decide)).trans hC.1.2.1
  have eidx : nI r * nI 5 + nI s = nI (5 * r + s) := by rw [pk_mul, nI_add, Nat.mul_comm]
  have after : ∀ I2, LNew I1 I2 A (nI r) (D 0 1) → V X P 0 0 39 [some (.ref b), some (.int (nI r)), some (.int (nI s)), some (.ref A)] [] S I2 J := by
    intro I2 h2
    obtain ⟨l1, ⟨f0, f1, f2, f3, f4, f5, f6⟩, l2⟩ := h2
    obtain ⟨v, hv⟩ : ∃ v, v = D 4 (5 * r + s) := ⟨_, rfl⟩
    have o2 : ∀ c, c ≠ b → c ≠ A → c ≠ A + 8 → I2 c = I c := fun c h1 h2 h3 => (l1 c h2 h3).trans (o1 c h1)
    have e2b : I2 b = I1 b := l1 b (by omega) (by omega)
    have ed : I2 (b + 12) (5 * r + s) = v := by rw [o2 (b + 12) (by omega) (by omega) (by omega), hv]; exact hC.2.2.1 _ (by omega)
    obtain ⟨I3, hI3⟩ : ∃ I3, I3 = up2 (up2 I2 (A + 8) r v) A 2 v := ⟨_, rfl⟩
    have e3 : up2 (up2 I2 (A + 8) r (I2 (A + 8) r + v)) A 2 (I2 A 2 + v) = I3 := by rw [hI3, l2 r (by omega), f2, Int32.zero_add]
    have o3 : ∀ c, c ≠ A → c ≠ A + 8 → I3 c = I2 c := fun c h1 h2 => by rw [hI3, up2_ne _ _ _ h1, up2_ne _ _ _ h2]
    have fin : CD (up2 I3 (b + 12) (5 * r + s) (nI 0)) J b (newL D r s) := by
      obtain ⟨I4, hI4⟩ : ∃ I4, I4 = up2 I3 (b + 12) (5 * r + s) (nI 0) := ⟨_, rfl⟩
      rw [← hI4]
      have o4 : ∀ c, c ≠ b + 12 → I4 c = I3 c := fun c h => by rw [hI4, up2_ne _ _ _ h]
      have oo : ∀ c, c ≠ b → c ≠ A → c ≠ A + 8 → c ≠ b + 12 → I4 c = I c := fun c h1 h2 h3 h4 => (o4 c h4).trans ((o3 c h2 h3).trans (o2 c h1 h2 h3))
      have bb : I4 b = I1 b := (o4 b (by omega)).trans ((o3 b (by omega) (by omega)).trans e2b)
      have AA : I4 A = va_up (I2 A) 2 v := by rw [o4 A (by omega), hI3, up2_row, up2_ne _ _ _ (by omega)]
      have A8 : I4 (A + 8) = va_up (I2 (A + 8)) r v := by rw [o4 (A + 8) (by omega), hI3, up2_ne _ _ _ (by omega), up2_row]
      obtain ⟨⟨h0, h1, h2, h3, h4, h5⟩, g1, g2, g3⟩ := hC
      refine ⟨?_, fun k hk => ?_, fun k hk => ?_, fun u hu => ?_⟩
      · rw [bb, b1 0 (by decide) (by decide), b1 1 (by decide) (by decide), b1 2 (by decide) (by decide), b6, b7]
        exact ⟨h0, h1, h2, h3, rfl, (newL_th hc).symm⟩
      · rw [oo (b + 9) (by omega) (by omega) (by omega) (by omega), oo (b + 10) (by omega) (by omega) (by omega) (by omega), oo (b + 11) (by omega) (by omega) (by omega) (by omega)]
        exact g1 k hk
      · show _ = va_up (D 4) (5 * r + s) (nI 0) k
        rw [hI4, up2_row]
        by_cases e : k = 5 * r + s
        · rw [e, va_up_self, va_up_self]
        · rw [va_up_ne _ _ e, va_up_ne _ _ e, o3 (b + 12) (by omega) (by omega), o2 (b + 12) (by omega) (by omega) (by omega)]; exact g2 k hk
      · have ecm : cmD (newL D r s) = cmD D + 1 := nI_clamp (by omega)
        rw [ecm] at hu
        by_cases e : u = cmD D
        · subst e
          rw [← hA]
          refine ⟨⟨?_, ?_, ?_, ?_, ?_, ?_, ?_⟩, fun k hk => ?_⟩
          · rw [AA, va_up_ne _ _ (by decide), f0]; exact (va_up_self _ _ _).symm
          · rw [AA, va_up_ne _ _ (by decide), f1]; exact (va_up_self _ _ _).symm
          · rw [AA, va_up_self, newL_w (by omega), hv]
          · rw [AA, va_up_ne _ _ (by decide), f3]; exact (va_up_self _ _ _).symm
          · rw [AA, va_up_ne _ _ (by decide), f4]; exact (va_up_self _ _ _).symm
          · rw [AA, va_up_ne _ _ (by decide), f5]; exact (va_up_self _ _ _).symm
          · rw [AA, va_up_ne _ _ (by decide), f6]; exact (va_up_self _ _ _).symm
          · rw [A8, newL_11 (by omega) k hk]
            by_cases e : k = r
            · rw [e, va_up_self, if_pos rfl, hv]
            · rw [va_up_ne _ _ e, if_neg e]; exact l2 k hk
        · obtain ⟨⟨w0, w1, w2, w3, w4, w5, w6⟩, w7⟩ := g3 u (by omega)
          have ea := oo (b + 20 + 10 * u) (by omega) (by omega) (by omega) (by omega)
          have ea8 := oo (b + 20 + 10 * u + 8) (by omega) (by omega) (by omega) (by omega)
          refine ⟨⟨?_, ?_, ?_, ?_, ?_, ?_, ?_⟩, fun k hk => ?_⟩
          · rw [ea, w0]; exact (va_up_ne _ _ e).symm
          · rw [ea, w1]; exact (va_up_ne _ _ e).symm
          · rw [ea, w2, newL_w' (by omega)]
          · rw [ea, w3]; exact (va_up_ne _ _ e).symm
          · rw [ea, w4]; exact (va_up_ne _ _ e).symm
          · rw [ea, w5]; exact (va_up_ne _ _ e).symm
          · rw [ea, w6]; exact (va_up_ne _ _ e).symm
          · rw [ea8, newL_11' (by omega)]; exact w7 k hk
    have ffc : FC b I J (up2 I3 (b + 12) (5 * r + s) (nI 0)) J := ⟨fun a ha => by
      have h := ha.1
      rw [up2_ne _ _ _ (by omega), o3 a (by omega) (by omega), o2 a (by omega) (by omega) (by omega)], fun _ _ => rfl⟩
    have f45 : up2 I3 (b + 12) (5 * r + s) (nI 0) b 4 = I b 4 ∧ up2 I3 (b + 12) (5 * r + s) (nI 0) b 5 = I b 5 := by
      rw [up2_ne _ _ _ (by omega), o3 b (by omega) (by omega), e2b, b1 4 (by decide) (by decide), b1 5 (by decide) (by decide)]
      exact ⟨rfl, rfl⟩
    refine V_aload_n C dX1_gatherAll_39 rfl ?_
    refine V_aload_n C dX1_gatherAll_40 rfl ?_
    refine V_getR C fl_X1_21 (ob_K hK1) (ob_R hK1 11 (b + 12) rfl rfl) rfl dX1_gatherAll_41 ?_
    refine V_iload_n C dX1_gatherAll_44 rfl ?_
    refine V_iconst C (v := nI 5) dX1_gatherAll_45 (by decide +kernel) ?_
    refine V_imul C dX1_gatherAll_46 ?_
    refine V_iload_n C dX1_gatherAll_47 rfl ?_
    refine V_iadd C dX1_gatherAll_48 ?_
    refine V_iald C (5 * r + s) (ob_A hK1 11 (b + 12) rfl rfl) eidx (by rw [ob_N hK1 11 (b + 12) rfl rfl]; omega) (by rw [ob_N hK1 11 (b + 12) rfl rfl]; decide) dX1_gatherAll_49 ?_
    rw [ed]
    refine V_callV (F := fun _ => True) C (c_takeDust hLx (r := r) (by omega) f1 _) mi_X3_takeDust ml_X1_116 rfl (ob_K hLx) (by decide) (by decide) (by decide) (Nat.le_of_ble_eq_true rfl) (fun _ _ => trivial) (fun v _ => clo_T v) rfl dX1_gatherAll_50 ?_
    rintro v S' I3' J3 ⟨hS, rfl, hI, hJ⟩
    obtain rfl := hS.symm
    obtain rfl := hJ.symm
    rw [e3] at hI
    subst hI
    refine V_aload_n C dX1_gatherAll_53 rfl ?_
    refine V_getR C fl_X1_21 (ob_K hK1) (ob_R hK1 11 (b + 12) rfl rfl) rfl dX1_gatherAll_54 ?_
    refine V_iload_n C dX1_gatherAll_57 rfl ?_
    refine V_iconst C (v := nI 5) dX1_gatherAll_58 (by decide +kernel) ?_
    refine V_imul C dX1_gatherAll_59 ?_
    refine V_iload_n C dX1_gatherAll_60 rfl ?_
    refine V_iadd C dX1_gatherAll_61 ?_
    refine V_iconst C (v := nI 0) dX1_gatherAll_62 (by decide +kernel) ?_
    refine V_iast C (5 * r + s) (ob_A hK1 11 (b + 12) rfl rfl) eidx (by rw [ob_N hK1 11 (b + 12) rfl rfl]; omega) (by rw [ob_N hK1 11 (b + 12) rfl rfl]; decide) dX1_gatherAll_63 ?_
    exact V_vret C (Nat.zero_le _) (Nat.zero_le _) dX1_gatherAll_64 (hP _ _ _ ⟨rfl, fin, ffc, f45, rfl⟩)
  refine V_aload_n C dX1_gatherAll_0 rfl ?_
  refine V_getR C fl_X1_26 (ob_K hK1) (ob_R hK1 12 (b + 13) rfl rfl) rfl dX1_gatherAll_1 ?_
  refine V_aload_n C dX1_gatherAll_4 rfl ?_
  refine V_getI C fl_X1_45 (ob_K hK1) rfl dX1_gatherAll_5 ?_
  refine V_aald C (cmD D) (ob_A2 hK1 12 (b + 13) rfl rfl) ec (by rw [ob_N hK1 12 (b + 13) rfl rfl]; omega) (by rw [ob_N hK1 12 (b + 13) rfl rfl]; decide) hRx dX1_gatherAll_8 ?_
  refine V_astore_n C dX1_gatherAll_9 (hn _ (by decide)) ?_
  refine V_aload_n C dX1_gatherAll_10 rfl ?_
  refine V_dup C dX1_gatherAll_11 rfl ?_
  refine V_getI C fl_X1_45 (ob_K hK1) rfl dX1_gatherAll_12 ?_
  refine V_iconst C (v := nI 1) dX1_gatherAll_15 (by decide +kernel) ?_
  refine V_iadd C dX1_gatherAll_16 ?_
  rw [e16]
  refine V_putI C fl_X1_45 (ob_K hK1) rfl rfl dX1_gatherAll_17 ?_
  refine V_aload_n C dX1_gatherAll_20 rfl ?_
  refine V_dup C dX1_gatherAll_21 rfl ?_
  refine V_getI C fl_X1_48 (ob_K hK1) rfl dX1_gatherAll_22 ?_
  refine V_iconst C (v := nI 1) dX1_gatherAll_25 (by decide +kernel) ?_
  refine V_iadd C dX1_gatherAll_26 ?_
  rw [e26]
  refine V_putI C fl_X1_48 (ob_K hK1) rfl rfl dX1_gatherAll_27 ?_
  rw [← hI1]
  refine V_aload_n C dX1_gatherAll_30 rfl ?_
  refine V_iload_n C dX1_gatherAll_31 rfl ?_
  refine V_aload_n C dX1_gatherAll_32 rfl ?_
  refine V_getI C fl_X1_51 (ob_K hK1) rfl dX1_gatherAll_33 ?_
  rw [est]
  refine V_callV (F := fun _ => True) C (c_begin hLx (nI r) (D 0 1)) mi_X3_begin ml_X1_112 rfl (ob_K hLx) (by decide) (by decide) (by decide) (Nat.le_of_ble_eq_true rfl) (fun _ _ => trivial) (fun v _ => clo_T v) rfl dX1_gatherAll_36 ?_
  rintro v S' I2 J2 ⟨hS, rfl, h2, hJ⟩
  obtain rfl := hS.symm
  obtain rfl := hJ.symm
  exact after _ h2
def Cq (I I' : HI) (b a d : Nat) : Prop := (∀ c, c ≠ b + 9 → c ≠ b + 10 → c ≠ b + 11 → c ≠ b + 12 → I' c = I c) ∧ (∀ x, x < a → I' (b + 9) x = 0 ∧ I' (b + 10) x = 0 ∧ I' (b + 11) x = nI (100 * (x + 1))) ∧ ∀ x, x < d → I' (b + 12) x = 0
set_option maxRecDepth 100000 in
set_option maxHeartbeats 1000000 in
theorem c_clear (hb0 : 1500 ≤ b) (hK : Dk S b) (hC : I b 1 = D 0 1 ∧ I b 2 = D 0 2 ∧ J b 3 = (D 0 3).toInt64) (n : Int32) : Mn l yX1_clear cX1_clear 3 none 0 [.ref b, .int n] S I J (fun v I' J' => v = none ∧ CQ I' J b (clD n D, 0, 0) ∧ FC b I J I' J ∧ J' = J) := by
  refine Mn.of (by decide) (fun ad => by simp [lg_sl, vv, Value.category]) (fun X P hP hn C => ?_)
  have hK1 := hK.1
  obtain ⟨I1, hI1⟩ : ∃ I1, I1 = up2 (up2 (up2 (up2 (up2 I b 0 n) b 4 (nI 0)) b 5 (nI 0)) b 6 (nI 0)) b 7 (nI 0) := ⟨_, rfl⟩
  have o1 : ∀ c, c ≠ b → I1 c = I c := fun c hc => by rw [hI1, up2_ne _ _ _ hc, up2_ne _ _ _ hc, up2_ne _ _ _ hc, up2_ne _ _ _ hc, up2_ne _ _ _ hc]
  have f1 : I1 b 0 = n ∧ I1 b 1 = I b 1 ∧ I1 b 2 = I b 2 ∧ I1 b 4 = 0 ∧ I1 b 5 = 0 ∧ I1 b 6 = 0 ∧ I1 b 7 = 0 := by
    rw [hI1]
    refine ⟨?_, ?_, ?_, ?_, ?_, ?_, ?_⟩ <;> simp only [up2_row, up2_as, va_up_self] <;> rfl
  have done : ∀ In, Cq I1 In b 12 60 → CQ In J b (clD n D, 0, 0) ∧ FC b I J In J := by
    intro In h
    obtain ⟨h1, h2, h3⟩ := h
    have eb := h1 b (by omega) (by omega) (by omega) (by omega)
    obtain ⟨g0, g1, g2, g4, g5, g6, g7⟩ := f1
    refine ⟨⟨⟨?_, fun k hk => ?_, fun k hk => h3 k hk, fun u hu => absurd hu (Nat.not_lt_zero _)⟩, ?_, ?_⟩, fun a ha => ?_, fun _ _ => rfl⟩
    · rw [eb, g0, g1, g2, g6, g7]; exact ⟨rfl, hC.1, hC.2.1, hC.2.2, rfl, rfl⟩
    · obtain ⟨q1, q2, q3⟩ := h2 k hk
      exact ⟨q1, q2, q3.trans (if_pos hk).symm⟩
    · show (In b 4).toInt64 = 0; rw [eb, g4]; rfl
    · show (In b 5).toInt64 = 0; rw [eb, g5]; rfl
    · have := ha.1
      rw [h1 a (by omega) (by omega) (by omega) (by omega), o1 a (by omega)]
  have loop2 : ∀ (c x : Nat) (In : HI), x + c = 60 → Cq I1 In b 12 x → V X P 0 0 67 [some (.ref b), some (.int n), some (.int (nI x))] [] S In J := by
    intro c
    induction c with
    | zero =>
      intro x In hx h
      have hx : x = 60 := hx
      subst hx
      obtain ⟨d1, d2⟩ := done In h
      refine V_iload_n C dX1_clear_67 rfl ?_
      refine V_bipush C (v := nI 60) dX1_clear_68 (by decide +kernel) ?_
      refine V_icmp_ge C 86 dX1_clear_70 (by decide) (fun h70 => ?_) (fun h70 => absurd (by decide) h70)
      exact V_vret C (Nat.zero_le _) (Nat.zero_le _) dX1_clear_86 (hP _ _ _ ⟨rfl, d1, d2, rfl⟩)
    | succ c ih =>
      intro x In hx h
      obtain ⟨h1, h2, h3⟩ := h
      refine V_iload_n C dX1_clear_67 rfl ?_
      refine V_bipush C (v := nI 60) dX1_clear_68 (by decide +kernel) ?_
      refine V_icmp_ge C 86 dX1_clear_70 (by decide) (fun h70 => absurd h70 (nI_ge (by omega) (by omega))) (fun h70 => ?_)
      refine V_aload_n C dX1_clear_73 rfl ?_
      refine V_getR C fl_X1_21 (ob_K hK1) (ob_R hK1 11 (b + 12) rfl rfl) rfl dX1_clear_74 ?_
      refine V_iload_n C dX1_clear_77 rfl ?_
      refine V_iconst C (v := nI 0) dX1_clear_78 (by decide +kernel) ?_
      refine V_iast C (x) (ob_A hK1 11 (b + 12) rfl rfl) (by first | rfl | (simp only [nI_add, pk_mul]; done) | (simp only [nI_add, pk_mul]; congr 1; omega)) (by rw [ob_N hK1 11 (b + 12) rfl rfl]; omega) (by rw [ob_N hK1 11 (b + 12) rfl rfl]; decide) dX1_clear_79 ?_
      refine V_iincU C dX1_clear_80 rfl (hn _ (by decide)) ?_
      refine V_goto C 67 dX1_clear_83 (by decide) ?_
      refine ih (x + 1) _ (by omega) ⟨fun c q1 q2 q3 q4 => (up2_ne _ _ _ q4).trans (h1 c q1 q2 q3 q4), fun k hk => ?_, fun k hk => ?_⟩
      · rw [up2_ne _ _ _ (by omega), up2_ne _ _ _ (by omega), up2_ne _ _ _ (by omega)]; exact h2 k hk
      · rw [up2_row]
        by_cases e : k = x
        · subst e; rw [va_up_self]; rfl
        · rw [va_up_ne _ _ e]; exact h3 k (by omega)
  have loop1 : ∀ (c x : Nat) (In : HI), x + c = 12 → Cq I1 In b x 0 → V X P 0 0 27 [some (.ref b), some (.int n), some (.int (nI x))] [] S In J := by
    intro c
    induction c with
    | zero =>
      intro x In hx h
      have hx : x = 12 := hx
      subst hx
      refine V_iload_n C dX1_clear_27 rfl ?_
      refine V_bipush C (v := nI 12) dX1_clear_28 (by decide +kernel) ?_
      refine V_icmp_ge C 65 dX1_clear_30 (by decide) (fun h30 => ?_) (fun h30 => absurd (by decide) h30)
      refine V_iconst C (v := nI 0) dX1_clear_65 (by decide +kernel) ?_
      refine V_istore_n C dX1_clear_66 (hn _ (by decide)) ?_
      exact loop2 60 0 _ rfl h
    | succ c ih =>
      intro x In hx h
      obtain ⟨h1, h2, h3⟩ := h
      have e : nI 100 * (nI x + nI 1) = nI (100 * (x + 1)) := by rw [nI_add, pk_mul]
      refine V_iload_n C dX1_clear_27 rfl ?_
      refine V_bipush C (v := nI 12) dX1_clear_28 (by decide +kernel) ?_
      refine V_icmp_ge C 65 dX1_clear_30 (by decide) (fun h30 => absurd h30 (nI_ge (by omega) (by omega))) (fun h30 => ?_)
      refine V_aload_n C dX1_clear_33 rfl ?_
      refine V_getR C fl_X1_9 (ob_K hK1) (ob_R hK1 8 (b + 9) rfl rfl) rfl dX1_clear_34 ?_
      refine V_iload_n C dX1_clear_37 rfl ?_
      refine V_iconst C (v := nI 0) dX1_clear_38 (by decide +kernel) ?_
      refine V_iast C (x) (ob_A hK1 8 (b + 9) rfl rfl) (by first | rfl | (simp only [nI_add, pk_mul]; done) | (simp only [nI_add, pk_mul]; congr 1; omega)) (by rw [ob_N hK1 8 (b + 9) rfl rfl]; omega) (by rw [ob_N hK1 8 (b + 9) rfl rfl]; decide) dX1_clear_39 ?_
      refine V_aload_n C dX1_clear_40 rfl ?_
      refine V_getR C fl_X1_15 (ob_K hK1) (ob_R hK1 9 (b + 10) rfl rfl) rfl dX1_clear_41 ?_
      refine V_iload_n C dX1_clear_44 rfl ?_
      refine V_iconst C (v := nI 0) dX1_clear_45 (by decide +kernel) ?_
      refine V_iast C (x) (ob_A hK1 9 (b + 10) rfl rfl) (by first | rfl | (simp only [nI_add, pk_mul]; done) | (simp only [nI_add, pk_mul]; congr 1; omega)) (by rw [ob_N hK1 9 (b + 10) rfl rfl]; omega) (by rw [ob_N hK1 9 (b + 10) rfl rfl]; decide) dX1_clear_46 ?_
      refine V_aload_n C dX1_clear_47 rfl ?_
      refine V_getR C fl_X1_18 (ob_K hK1) (ob_R hK1 10 (b + 11) rfl rfl) rfl dX1_clear_48 ?_
      refine V_iload_n C dX1_clear_51 rfl ?_
      refine V_bipush C (v := nI 100) dX1_clear_52 (by decide +kernel) ?_
      refine V_iload_n C dX1_clear_54 rfl ?_
      refine V_iconst C (v := nI 1) dX1_clear_55 (by decide +kernel) ?_
      refine V_iadd C dX1_clear_56 ?_
      refine V_imul C dX1_clear_57 ?_
      rw [e]
      refine V_iast C (x) (ob_A hK1 10 (b + 11) rfl rfl) (by first | rfl | (simp only [nI_add, pk_mul]; done) | (simp only [nI_add, pk_mul]; congr 1; omega)) (by rw [ob_N hK1 10 (b + 11) rfl rfl]; omega) (by rw [ob_N hK1 10 (b + 11) rfl rfl]; decide) dX1_clear_58 ?_
      refine V_iincU C dX1_clear_59 rfl (hn _ (by decide)) ?_
      refine V_goto C 27 dX1_clear_62 (by decide) ?_
      refine ih (x + 1) _ (by omega) ⟨fun c q1 q2 q3 q4 => (up2_ne _ _ _ q3).trans ((up2_ne _ _ _ q2).trans ((up2_ne _ _ _ q1).trans (h1 c q1 q2 q3 q4))), fun k hk => ?_, fun k hk => absurd hk (Nat.not_lt_zero _)⟩
      rw [up2_ne _ _ _ (show b + 9 ≠ b + 11 by omega), up2_ne _ _ _ (show b + 9 ≠ b + 10 by omega), up2_row, up2_ne _ _ _ (show b + 10 ≠ b + 11 by omega), up2_row, up2_row, up2_ne _ _ _ (show b + 10 ≠ b + 9 by omega), up2_ne _ _ _ (show b + 11 ≠ b + 10 by omega), up2_ne _ _ _ (show b + 11 ≠ b + 9 by omega)]
      by_cases e : k = x
      · subst e; rw [va_up_self, va_up_self, va_up_self]; exact ⟨rfl, rfl, rfl⟩
      · rw [va_up_ne _ _ e, va_up_ne _ _ e, va_up_ne _ _ e]; exact h2 k (by omega)
  refine V_aload_n C dX1_clear_0 rfl ?_
  refine V_iload_n C dX1_clear_1 rfl ?_
  refine V_putI C fl_X1_35 (ob_K hK1) rfl rfl dX1_clear_2 ?_
  refine V_aload_n C dX1_clear_5 rfl ?_
  refine V_iconst C (v := nI 0) dX1_clear_6 (by decide +kernel) ?_
  refine V_putI C fl_X1_39 (ob_K hK1) rfl rfl dX1_clear_7 ?_
  refine V_aload_n C dX1_clear_10 rfl ?_
  refine V_iconst C (v := nI 0) dX1_clear_11 (by decide +kernel) ?_
  refine V_putI C fl_X1_42 (ob_K hK1) rfl rfl dX1_clear_12 ?_
  refine V_aload_n C dX1_clear_15 rfl ?_
  refine V_iconst C (v := nI 0) dX1_clear_16 (by decide +kernel) ?_
  refine V_putI C fl_X1_45 (ob_K hK1) rfl rfl dX1_clear_17 ?_
  refine V_aload_n C dX1_clear_20 rfl ?_
  refine V_iconst C (v := nI 0) dX1_clear_21 (by decide +kernel) ?_
  refine V_putI C fl_X1_48 (ob_K hK1) rfl rfl dX1_clear_22 ?_
  refine V_iconst C (v := nI 0) dX1_clear_25 (by decide +kernel) ?_
  refine V_istore_n C dX1_clear_26 (hn _ (by decide)) ?_
  rw [← hI1]
  exact loop1 12 0 _ rfl ⟨fun _ _ _ _ _ => rfl, fun k hk => absurd hk (Nat.not_lt_zero _), fun k hk => absurd hk (Nat.not_lt_zero _)⟩
/-- x lumps and all else of the disk b2 are in b -/
def BL (I I' : HI) (b b2 x : Nat) : Prop := (∀ a, (a < b ∨ b + 400 ≤ a) → I' a = I a) ∧ (∀ y, y < 8 → y ≠ 3 → I' b y = I b2 y) ∧ (∀ k, k < 12 → I' (b + 9) k = I (b2 + 9) k ∧ I' (b + 10) k = I (b2 + 10) k ∧ I' (b + 11) k = I (b2 + 11) k) ∧ (∀ k, k < 60 → I' (b + 12) k = I (b2 + 12) k) ∧ ∀ u, u < x → (∀ y, y < 7 → I' (b + 20 + 10 * u) y = I (b2 + 20 + 10 * u) y) ∧ ∀ k, k < 12 → I' (b + 20 + 10 * u + 8) k = I (b2 + 20 + 10 * u + 8) k
set_option maxRecDepth 100000 in
set_option maxHeartbeats 1000000 in
theorem c_diskLike {b2 : Nat} {q : QV} (hK : Dk S b) (hK2 : Dk S b2) (hne : b + 400 ≤ b2 ∨ b2 + 400 ≤ b) (hQ : CQ I J b2 q) (hD : rOk q.1) : Mn l yX1_becomeLike cX1_becomeLike 3 none 2 [.ref b, .ref b2] S I J (fun v I' J' => v = none ∧ CQ I' J' b q ∧ (∀ a, (a < b ∨ b + 400 ≤ a) → I' a = I a) ∧ ∀ a, (a < b ∨ b + 400 ≤ a) → J' a = J a) := by
  refine Mn.of (by decide) (fun ad => by simp [lg_sl, vv, Value.category]) (fun X P hP hn C => ?_)
  have hK1 := hK.1
  have hB := hK2.1
  have hn2 : b2 ≠ b := by omega
  obtain ⟨⟨⟨c0, c1, c2, c3, c4, c5⟩, g1, g2, g3⟩, q1, q2⟩ := hQ
  have h30 := hD.2.2.2.2.1
  obtain ⟨J1, hJ1⟩ : ∃ J1, J1 = up2 J b 3 (J b2 3) := ⟨_, rfl⟩
  have ec : I b2 6 = nI (cmD q.1) := c4.trans hD.2.2.2.1
  have done : ∀ In, BL I In b b2 (cmD q.1) → CQ In J1 b q ∧ (∀ a, (a < b ∨ b + 400 ≤ a) → In a = I a) ∧ ∀ a, (a < b ∨ b + 400 ≤ a) → J1 a = J a := by
    intro In h
    obtain ⟨h1, h2, h3, h4, h5⟩ := h
    refine ⟨⟨⟨?_, fun k hk => ?_, fun k hk => ?_, fun u hu => ?_⟩, ?_, ?_⟩, h1, fun a ha => by rw [hJ1, up2_ne _ _ _ (by omega)]⟩
    · rw [h2 0 (by decide) (by decide), h2 1 (by decide) (by decide), h2 2 (by decide) (by decide), h2 6 (by decide) (by decide), h2 7 (by decide) (by decide), hJ1, up2_row, va_up_self]
      exact ⟨c0, c1, c2, c3, c4, c5⟩
    · obtain ⟨p1, p2, p3⟩ := h3 k hk
      rw [p1, p2, p3]; exact g1 k hk
    · rw [h4 k hk]; exact g2 k hk
    · obtain ⟨p1, p2⟩ := h5 u hu
      obtain ⟨⟨w0, w1, w2, w3, w4, w5, w6⟩, w7⟩ := g3 u hu
      refine ⟨?_, fun k hk => (p2 k hk).trans (w7 k hk)⟩
      rw [p1 0 (by decide), p1 1 (by decide), p1 2 (by decide), p1 3 (by decide), p1 4 (by decide), p1 5 (by decide), p1 6 (by decide)]
      exact ⟨w0, w1, w2, w3, w4, w5, w6⟩
    · rw [h2 4 (by decide) (by decide)]; exact q1
    · rw [h2 5 (by decide) (by decide)]; exact q2
  have loop : ∀ (c x : Nat) (In : HI), x + c = cmD q.1 → BL I In b b2 x → V X P 0 0 126 [some (.ref b), some (.ref b2), some (.int (nI x))] [] S In J1 := by
    intro c
    induction c with
    | zero =>
      intro x In hx h
      have hx : x = cmD q.1 := hx
      have e6 : In b 6 = nI (cmD q.1) := (h.2.1 6 (by decide) (by decide)).trans ec
      rw [hx] at h
      obtain ⟨d1, d2, d3⟩ := done In h
      refine V_iload_n C dX1_becomeLike_126 rfl ?_
      refine V_aload_n C dX1_becomeLike_127 rfl ?_
      refine V_getI C fl_X1_45 (ob_K hK1) rfl dX1_becomeLike_128 ?_
      refine V_icmp_ge C 155 dX1_becomeLike_131 (by decide) (fun h131 => ?_) (fun h131 => absurd (by rw [e6, hx]; exact Int32.le_refl _) h131)
      exact V_vret C (Nat.zero_le _) (Nat.zero_le _) dX1_becomeLike_155 (hP _ _ _ ⟨rfl, d1, d2, d3⟩)
    | succ c ih =>
      intro x In hx h
      have e6 : In b 6 = nI (cmD q.1) := (h.2.1 6 (by decide) (by decide)).trans ec
      obtain ⟨hLx, hRx⟩ := hK.2 x (by omega)
      obtain ⟨hMx, hNx⟩ := hK2.2 x (by omega)
      have after : ∀ I2, LCp In I2 (b + 20 + 10 * x) (b2 + 20 + 10 * x) → BL I I2 b b2 (x + 1) := by
        intro I2 g
        obtain ⟨k1, k2, k3⟩ := g
        obtain ⟨h1, h2, h3, h4, h5⟩ := h
        refine ⟨fun a ha => (k1 a (by omega) (by omega)).trans (h1 a ha), fun y g1 g2 => by rw [k1 b (by omega) (by omega)]; exact h2 y g1 g2, fun k hk => by rw [k1 (b + 9) (by omega) (by omega), k1 (b + 10) (by omega) (by omega), k1 (b + 11) (by omega) (by omega)]; exact h3 k hk, fun k hk => by rw [k1 (b + 12) (by omega) (by omega)]; exact h4 k hk, fun u hu => ?_⟩
        by_cases e : u = x
        · subst e
          exact ⟨fun y hy => (k2 y hy).trans (by rw [h1 (b2 + 20 + 10 * u) (by omega)]), fun k hk => (k3 k hk).trans (by rw [h1 (b2 + 20 + 10 * u + 8) (by omega)])⟩
        · rw [k1 (b + 20 + 10 * u) (by omega) (by omega), k1 (b + 20 + 10 * u + 8) (by omega) (by omega)]
          exact h5 u (by omega)
      refine V_iload_n C dX1_becomeLike_126 rfl ?_
      refine V_aload_n C dX1_becomeLike_127 rfl ?_
      refine V_getI C fl_X1_45 (ob_K hK1) rfl dX1_becomeLike_128 ?_
      refine V_icmp_ge C 155 dX1_becomeLike_131 (by decide) (fun h131 => absurd h131 (by rw [e6]; exact nI_ge (by omega) (by omega))) (fun h131 => ?_)
      refine V_aload_n C dX1_becomeLike_134 rfl ?_
      refine V_getR C fl_X1_26 (ob_K hK1) (ob_R hK1 12 (b + 13) rfl rfl) rfl dX1_becomeLike_135 ?_
      refine V_iload_n C dX1_becomeLike_138 rfl ?_
      refine V_aald C (x) (ob_A2 hK1 12 (b + 13) rfl rfl) (by first | rfl | (simp only [nI_add, pk_mul]; done) | (simp only [nI_add, pk_mul]; congr 1; omega)) (by rw [ob_N hK1 12 (b + 13) rfl rfl]; omega) (by rw [ob_N hK1 12 (b + 13) rfl rfl]; decide) hRx dX1_becomeLike_139 ?_
      refine V_aload_n C dX1_becomeLike_140 rfl ?_
      refine V_getR C fl_X1_26 (ob_K hB) (ob_R hB 12 (b2 + 13) rfl rfl) rfl dX1_becomeLike_141 ?_
      refine V_iload_n C dX1_becomeLike_144 rfl ?_
      refine V_aald C (x) (ob_A2 hB 12 (b2 + 13) rfl rfl) (by first | rfl | (simp only [nI_add, pk_mul]; done) | (simp only [nI_add, pk_mul]; congr 1; omega)) (by rw [ob_N hB 12 (b2 + 13) rfl rfl]; omega) (by rw [ob_N hB 12 (b2 + 13) rfl rfl]; decide) hNx dX1_becomeLike_145 ?_
      refine V_callV (F := fun _ => True) C (c_lumpLike hLx hMx (by omega) (by omega)) mi_X3_becomeLike ml_X1_67 rfl (ob_K hLx) (by decide) (by decide) (by decide) (Nat.le_of_ble_eq_true rfl) (fun _ _ => trivial) (fun v _ => clo_T v) rfl dX1_becomeLike_146 ?_
      rintro v S' I2 J2 ⟨hS, rfl, h2, hJ⟩
      obtain rfl := hS.symm
      obtain rfl := hJ.symm
      refine V_iincU C dX1_becomeLike_149 rfl (hn _ (by decide)) ?_
      refine V_goto C 126 dX1_becomeLike_152 (by decide) ?_
      exact ih (x + 1) _ (by omega) (after _ h2)
  obtain ⟨I1, hI1⟩ : ∃ I1, I1 = up2 (up2 (up2 (up2 (up2 (up2 (up2 I b 0 (I b2 0)) b 1 (I b2 1)) b 2 (I b2 2)) b 4 (I b2 4)) b 5 (I b2 5)) b 6 (I b2 6)) b 7 (I b2 7) := ⟨_, rfl⟩
  have o1 : ∀ c, c ≠ b → I1 c = I c := fun c hc => by rw [hI1, up2_ne _ _ _ hc, up2_ne _ _ _ hc, up2_ne _ _ _ hc, up2_ne _ _ _ hc, up2_ne _ _ _ hc, up2_ne _ _ _ hc, up2_ne _ _ _ hc]
  have f1 : I1 b 0 = I b2 0 ∧ I1 b 1 = I b2 1 ∧ I1 b 2 = I b2 2 ∧ I1 b 4 = I b2 4 ∧ I1 b 5 = I b2 5 ∧ I1 b 6 = I b2 6 ∧ I1 b 7 = I b2 7 := by
    rw [hI1]
    refine ⟨?_, ?_, ?_, ?_, ?_, ?_, ?_⟩ <;> simp only [up2_row, up2_as, va_up_self] <;> rfl
  have start : BL I (cpI (cpI (cpI (cpI I1 (b2 + 9) (b + 9) 12) (b2 + 10) (b + 10) 12) (b2 + 11) (b + 11) 12) (b2 + 12) (b + 12) 60) b b2 0 := by
    refine ⟨fun a ha => ?_, fun y h8 h3 => ?_, fun k hk => ⟨?_, ?_, ?_⟩, fun k hk => ?_, fun u hu => absurd hu (Nat.not_lt_zero _)⟩
    · rw [cpI_ne (by omega), cpI_ne (by omega), cpI_ne (by omega), cpI_ne (by omega), o1 a (by omega)]
    · rw [cpI_ne (by omega), cpI_ne (by omega), cpI_ne (by omega), cpI_ne (by omega)]
      obtain ⟨f0, f1, f2, f4, f5, f6, f7⟩ := f1
      match y, h8, h3 with
      | 0, _, _ => exact f0
      | 1, _, _ => exact f1
      | 2, _, _ => exact f2
      | 4, _, _ => exact f4
      | 5, _, _ => exact f5
      | 6, _, _ => exact f6
      | 7, _, _ => exact f7
    · rw [cpI_ne (by omega), cpI_ne (by omega), cpI_ne (by omega), cpI_at hk, o1 _ (by omega)]
    · rw [cpI_ne (by omega), cpI_ne (by omega), cpI_at hk, cpI_ne (by omega), o1 _ (by omega)]
    · rw [cpI_ne (by omega), cpI_at hk, cpI_ne (by omega), cpI_ne (by omega), o1 _ (by omega)]
    · rw [cpI_at hk, cpI_ne (by omega), cpI_ne (by omega), cpI_ne (by omega), o1 _ (by omega)]
  refine V_aload_n C dX1_becomeLike_0 rfl ?_
  refine V_aload_n C dX1_becomeLike_1 rfl ?_
  refine V_getI C fl_X1_35 (ob_K hB) rfl dX1_becomeLike_2 ?_
  refine V_putI C fl_X1_35 (ob_K hK1) rfl rfl dX1_becomeLike_5 ?_
  refine V_aload_n C dX1_becomeLike_8 rfl ?_
  refine V_aload_n C dX1_becomeLike_9 rfl ?_
  refine V_getI C fl_X1_51 (ob_K hB) rfl dX1_becomeLike_10 ?_
  rw [up2_ne _ _ _ hn2]
  refine V_putI C fl_X1_51 (ob_K hK1) rfl rfl dX1_becomeLike_13 ?_
  refine V_aload_n C dX1_becomeLike_16 rfl ?_
  refine V_aload_n C dX1_becomeLike_17 rfl ?_
  refine V_getI C fl_X1_54 (ob_K hB) rfl dX1_becomeLike_18 ?_
  rw [up2_ne _ _ _ hn2, up2_ne _ _ _ hn2]
  refine V_putI C fl_X1_54 (ob_K hK1) rfl rfl dX1_becomeLike_21 ?_
  refine V_aload_n C dX1_becomeLike_24 rfl ?_
  refine V_aload_n C dX1_becomeLike_25 rfl ?_
  refine V_getJ C fl_X1_57 (ob_K hB) rfl dX1_becomeLike_26 ?_
  refine V_putJ C fl_X1_57 (ob_K hK1) rfl rfl dX1_becomeLike_29 ?_
  rw [← hJ1]
  refine V_aload_n C dX1_becomeLike_32 rfl ?_
  refine V_aload_n C dX1_becomeLike_33 rfl ?_
  refine V_getI C fl_X1_39 (ob_K hB) rfl dX1_becomeLike_34 ?_
  rw [up2_ne _ _ _ hn2, up2_ne _ _ _ hn2, up2_ne _ _ _ hn2]
  refine V_putI C fl_X1_39 (ob_K hK1) rfl rfl dX1_becomeLike_37 ?_
  refine V_aload_n C dX1_becomeLike_40 rfl ?_
  refine V_aload_n C dX1_becomeLike_41 rfl ?_
  refine V_getI C fl_X1_42 (ob_K hB) rfl dX1_becomeLike_42 ?_
  rw [up2_ne _ _ _ hn2, up2_ne _ _ _ hn2, up2_ne _ _ _ hn2, up2_ne _ _ _ hn2]
  refine V_putI C fl_X1_42 (ob_K hK1) rfl rfl dX1_becomeLike_45 ?_
  refine V_aload_n C dX1_becomeLike_48 rfl ?_
  refine V_aload_n C dX1_becomeLike_49 rfl ?_
  refine V_getI C fl_X1_45 (ob_K hB) rfl dX1_becomeLike_50 ?_
  rw [up2_ne _ _ _ hn2, up2_ne _ _ _ hn2, up2_ne _ _ _ hn2, up2_ne _ _ _ hn2, up2_ne _ _ _ hn2]
  refine V_putI C fl_X1_45 (ob_K hK1) rfl rfl dX1_becomeLike_53 ?_
  refine V_aload_n C dX1_becomeLike_56 rfl ?_
  refine V_aload_n C dX1_becomeLike_57 rfl ?_
  refine V_getI C fl_X1_48 (ob_K hB) rfl dX1_becomeLike_58 ?_
  rw [up2_ne _ _ _ hn2, up2_ne _ _ _ hn2, up2_ne _ _ _ hn2, up2_ne _ _ _ hn2, up2_ne _ _ _ hn2, up2_ne _ _ _ hn2]
  refine V_putI C fl_X1_48 (ob_K hK1) rfl rfl dX1_becomeLike_61 ?_
  rw [← hI1]
  refine V_aload_n C dX1_becomeLike_64 rfl ?_
  refine V_getR C fl_X1_9 (ob_K hB) (ob_R hB 8 (b2 + 9) rfl rfl) rfl dX1_becomeLike_65 ?_
  refine V_iconst C (v := nI 0) dX1_becomeLike_68 (by decide +kernel) ?_
  refine V_aload_n C dX1_becomeLike_69 rfl ?_
  refine V_getR C fl_X1_9 (ob_K hK1) (ob_R hK1 8 (b + 9) rfl rfl) rfl dX1_becomeLike_70 ?_
  refine V_iconst C (v := nI 0) dX1_becomeLike_73 (by decide +kernel) ?_
  refine V_bipush C (v := nI 12) dX1_becomeLike_74 (by decide +kernel) ?_
  refine V_copyi C ac_X1_61 (ob_A hB 8 (b2 + 9) rfl rfl) (ob_A hK1 8 (b + 9) rfl rfl) (by rw [ob_N hB 8 (b2 + 9) rfl rfl]; decide) (by rw [ob_N hK1 8 (b + 9) rfl rfl]; decide) (by decide) (by decide) (by decide) dX1_becomeLike_76 ?_
  refine V_aload_n C dX1_becomeLike_79 rfl ?_
  refine V_getR C fl_X1_15 (ob_K hB) (ob_R hB 9 (b2 + 10) rfl rfl) rfl dX1_becomeLike_80 ?_
  refine V_iconst C (v := nI 0) dX1_becomeLike_83 (by decide +kernel) ?_
  refine V_aload_n C dX1_becomeLike_84 rfl ?_
  refine V_getR C fl_X1_15 (ob_K hK1) (ob_R hK1 9 (b + 10) rfl rfl) rfl dX1_becomeLike_85 ?_
  refine V_iconst C (v := nI 0) dX1_becomeLike_88 (by decide +kernel) ?_
  refine V_bipush C (v := nI 12) dX1_becomeLike_89 (by decide +kernel) ?_
  refine V_copyi C ac_X1_61 (ob_A hB 9 (b2 + 10) rfl rfl) (ob_A hK1 9 (b + 10) rfl rfl) (by rw [ob_N hB 9 (b2 + 10) rfl rfl]; decide) (by rw [ob_N hK1 9 (b + 10) rfl rfl]; decide) (by decide) (by decide) (by decide) dX1_becomeLike_91 ?_
  refine V_aload_n C dX1_becomeLike_94 rfl ?_
  refine V_getR C fl_X1_18 (ob_K hB) (ob_R hB 10 (b2 + 11) rfl rfl) rfl dX1_becomeLike_95 ?_
  refine V_iconst C (v := nI 0) dX1_becomeLike_98 (by decide +kernel) ?_
  refine V_aload_n C dX1_becomeLike_99 rfl ?_
  refine V_getR C fl_X1_18 (ob_K hK1) (ob_R hK1 10 (b + 11) rfl rfl) rfl dX1_becomeLike_100 ?_
  refine V_iconst C (v := nI 0) dX1_becomeLike_103 (by decide +kernel) ?_
  refine V_bipush C (v := nI 12) dX1_becomeLike_104 (by decide +kernel) ?_
  refine V_copyi C ac_X1_61 (ob_A hB 10 (b2 + 11) rfl rfl) (ob_A hK1 10 (b + 11) rfl rfl) (by rw [ob_N hB 10 (b2 + 11) rfl rfl]; decide) (by rw [ob_N hK1 10 (b + 11) rfl rfl]; decide) (by decide) (by decide) (by decide) dX1_becomeLike_106 ?_
  refine V_aload_n C dX1_becomeLike_109 rfl ?_
  refine V_getR C fl_X1_21 (ob_K hB) (ob_R hB 11 (b2 + 12) rfl rfl) rfl dX1_becomeLike_110 ?_
  refine V_iconst C (v := nI 0) dX1_becomeLike_113 (by decide +kernel) ?_
  refine V_aload_n C dX1_becomeLike_114 rfl ?_
  refine V_getR C fl_X1_21 (ob_K hK1) (ob_R hK1 11 (b + 12) rfl rfl) rfl dX1_becomeLike_115 ?_
  refine V_iconst C (v := nI 0) dX1_becomeLike_118 (by decide +kernel) ?_
  refine V_bipush C (v := nI 60) dX1_becomeLike_119 (by decide +kernel) ?_
  refine V_copyi C ac_X1_61 (ob_A hB 11 (b2 + 12) rfl rfl) (ob_A hK1 11 (b + 12) rfl rfl) (by rw [ob_N hB 11 (b2 + 12) rfl rfl]; decide) (by rw [ob_N hK1 11 (b + 12) rfl rfl]; decide) (by decide) (by decide) (by decide) dX1_becomeLike_121 ?_
  refine V_iconst C (v := nI 0) dX1_becomeLike_124 (by decide +kernel) ?_
  refine V_istore_n C dX1_becomeLike_125 (hn _ (by decide)) ?_
  exact loop _ 0 _ (Nat.zero_add _) start
end C4
