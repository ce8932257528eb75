/-! the class's face: dust, star, seed, end, made, parts, count, told, forget -/
section C15
variable {l : Launch} {S S' : HS} {I I' : HI} {J J' : HJ} {z : SV} {D : DV}
theorem lrS_z {n : Nat} : ∀ m, (∀ k, n ≤ k → k < n + m → D 1 k = 0 ∧ aD D k = 0) → lrS D (n + m) = lrS D n
  | 0, _ => rfl
  | m + 1, h => by
    have h1 := lrS_z m (fun k a b => h k a (by omega))
    obtain ⟨e1, e2⟩ := h (n + m) (by omega) (by omega)
    show lrS D (n + m) + (D 1 (n + m) + aD D (n + m)).toInt64 = _
    rw [e1, e2, h1]
    exact Int64.add_zero _
theorem lrS_12 {q : QV} (h : iOk q) : lrS q.1 (rgD q.1) = lrS q.1 12 := by
  have h12 := h.1.2.2.1
  have := lrS_z (D := q.1) (n := rgD q.1) (12 - rgD q.1) (fun k h1 h2 => ⟨h.2.2.1.1 k h1 (by omega), ?_⟩)
  · rw [show rgD q.1 + (12 - rgD q.1) = 12 by omega] at this
    exact this.symm
  · have hz : ∀ i, i < 5 → q.1 4 (5 * k + i) = 0 := fun i hi => h.2.2.1.2.1 _ (by omega) (by omega)
    have e := iSum_congr (f := q.1 4) (g := fun _ => 0) (k := 5 * k) (m := 0) (n := 5) hz
    show iSum (q.1 4) (5 * k) 5 = 0
    rw [e]
    decide
theorem and1 {a b : Int32} : (a ||| b) &&& nI 1 = (a &&& nI 1) ||| (b &&& nI 1) := Int32.toBitVec_inj.1 BitVec.and_or_distrib_right
theorem bt_j : ∀ j, j < 12 → ∀ r, r < 12 → ((nI 1 <<< (nI j &&& 31)) >>> (nI r &&& 31)) &&& nI 1 = if j = r then nI 1 else nI 0 := by decide +kernel
theorem bt_0 : ∀ r, r < 12 → (nI 0 >>> (nI r &&& 31)) &&& nI 1 = nI 0 := by decide +kernel
/-- the set of families, place by place -/
theorem or_01 {a B : Int32} (ha : a = 0 ∨ a = 1) (hB : B = 0 ∨ B = 1) : a ||| B = if a = 0 then B else 1 := by
  rcases ha with rfl | rfl <;> rcases hB with rfl | rfl <;> decide
theorem fs_bit {r : Nat} (hr : r < 12) : ∀ n, (fsN D n >>> (nI r &&& 31)) &&& nI 1 = anN D 3 (nI r) n
  | 0 => bt_0 r hr
  | n + 1 => by
    show ((fsN D n ||| (if D 5 n = 0 then (if famD D n < 0 then nI 0 else nI 1 <<< (famD D n &&& 31)) else nI 0)) >>> (nI r &&& 31)) &&& nI 1 = _
    rw [Int32.shiftRight_or, and1, fs_bit hr n]
    have hB : ((if D 5 n = 0 then (if famD D n < 0 then nI 0 else nI 1 <<< (famD D n &&& 31)) else nI 0) >>> (nI r &&& 31)) &&& nI 1 = if D 5 n = 0 then (if famD D n = nI r then 1 else 0) else 0 := by
      by_cases h0 : D 5 n = 0
      · rw [if_pos h0, if_pos h0]
        rcases fm_or (fun k => D 11 (12 * n + k)) 12 with q | ⟨j, h1, h2⟩
        · have ef : famD D n = -1 := q
          rw [ef, if_pos (by decide), bt_0 r hr, if_neg (fun h => nI_pos (n := r) (by omega) (by rw [← h]; decide))]
          rfl
        · have ef : famD D n = nI j := h2
          rw [ef, if_neg (nI_pos (by omega)), bt_j j h1 r hr]
          by_cases e : j = r
          · rw [if_pos e, if_pos (show nI j = nI r by rw [e])]; rfl
          · rw [if_neg e, if_neg (fun h => e ((nI_eq (by omega) (by omega)).mp h))]; rfl
      · rw [if_neg h0, if_neg h0, bt_0 r hr]; rfl
    have hb : (if D 5 n = 0 then (if famD D n = nI r then (1 : Int32) else 0) else 0) = 0 ∨ (if D 5 n = 0 then (if famD D n = nI r then (1 : Int32) else 0) else 0) = 1 := by
      split
      · split
        · exact Or.inr rfl
        · exact Or.inl rfl
      · exact Or.inl rfl
    rw [hB, or_01 (anN_01 n) hb]
    rfl
theorem cf_fc : ∀ n, n ≤ 12 → fcN (fsN D (cmD D)) n = cfN D n
  | 0, _ => rfl
  | n + 1, h => by
    rw [fcN, cfN, cf_fc n (by omega), fs_bit (by omega)]
    congr 1
    rcases anN_01 (D := D) (w := 3) (v := nI n) (cmD D) with q | q
    · rw [q, if_pos rfl]
    · rw [q, if_neg (by decide)]
/-- no lump has a family of a ring that there isn't -/
theorem an_no {v : Nat} (hz : zL D) (h12 : rgD D ≤ 12) (hv : rgD D ≤ v) (hv2 : v < 12) : ∀ n, n ≤ cmD D → anN D 3 (nI v) n = 0
  | 0, _ => rfl
  | n + 1, h => by
    rw [anN, an_no hz h12 hv hv2 n (by omega), if_pos rfl]
    split
    · rw [if_neg (show ¬ 3 = 1 by decide), if_neg]
      intro q
      have e2 := fm_z (f := fun k => D 11 (12 * n + k)) (n := rgD D) (12 - rgD D) (fun k h1 h2 => hz n (by omega) k h1 (by omega))
      rw [show rgD D + (12 - rgD D) = 12 by omega] at e2
      have q : fm (fun k => D 11 (12 * n + k)) 12 = nI v := q
      rw [e2] at q
      rcases fm_or (fun k => D 11 (12 * n + k)) (rgD D) with g | ⟨j, g1, g2⟩
      · rw [g] at q; exact nI_pos (n := v) (by omega) (by rw [← q]; decide)
      · rw [g2] at q; have := (nI_eq (by omega) (by omega)).mp q; omega
    · rfl
theorem cf_12 {q : QV} (h : iOk q) : cfN q.1 (rgD q.1) = fcN (fsN q.1 (cmD q.1)) 12 := by
  have h12 := h.1.2.2.1
  rw [cf_fc 12 (Nat.le_refl _)]
  have : ∀ m, rgD q.1 + m ≤ 12 → cfN q.1 (rgD q.1 + m) = cfN q.1 (rgD q.1) := by
    intro m
    induction m with
    | zero => intro _; rfl
    | succ m ih =>
      intro hm
      have h0 := an_no (v := rgD q.1 + m) h.2.2.1.2.2 h12 (by omega) (by omega) (cmD q.1) (Nat.le_refl _)
      show cfN q.1 (rgD q.1 + m) + (if anN q.1 3 (nI (rgD q.1 + m)) (cmD q.1) = 0 then 0 else 1) = _
      rw [ih (by omega), h0, if_pos rfl, Int32.add_zero]
  have := this (12 - rgD q.1) (by omega)
  rw [show rgD q.1 + (12 - rgD q.1) = 12 by omega] at this
  exact this.symm
set_option maxRecDepth 100000 in
set_option maxHeartbeats 1000000 in
theorem f_dust (hR : ClsR z S I J) (hO : OkC z) (r s n : Int32) : Mf l yX6_dust cX6_dust 4 (some .boolean) 2 [.ref 1100, .int r, .int s, .int n] S I J (fun v S' I' J' => v = some (.int (bI (okDust z r s n))) ∧ ClsR (nDust z r s n) S' I' J') := by
  refine Mf.of (by decide) (fun ad => by simp [lg_sl, vv, Value.category]) (fun X P hP hn C => ?_)
  have hR0 := hR
  obtain ⟨la, lb, hS, hC⟩ := hR
  have hla : la = 1160 ∨ la = 1180 := by have := hS.2.2.2.2.2.2.2.2.2.2; omega
  obtain ⟨h1, ⟨r0, r1, r3, r4, r5, r6, r7⟩, -, -, -, -, -, -, h9, h10, -⟩ := id hS
  have hK1 := h9.1
  obtain ⟨c0, c1, c2, c3, -, -⟩ := hC.1.1.1
  have nz := st_nz hO.1.2
  have bad : ¬ okDust z r s n → V X P 0 0 40 [some (.ref 1100), some (.int r), some (.int s), some (.int n)] [] S I J := by
    intro no
    refine V_iconst C (v := nI 0) dX6_dust_40 (by decide +kernel) ?_
    exact V_zret C (by first | exact Or.inl rfl | exact Or.inr rfl | (simp only [bI]; split <;> first | exact Or.inl rfl | exact Or.inr rfl) | assumption) (Nat.zero_le _) (Nat.zero_le _) dX6_dust_41 (hP _ _ _ _ ⟨by rw [bI_f no]; rfl, by rw [nDust, if_neg no]; exact hR0⟩)
  have good : okDust z r s n → V X P 0 0 42 [some (.ref 1100), some (.int r), some (.int s), some (.int n)] [] S I J := by
    intro ok
    obtain ⟨k, hk, ek, ec⟩ := isRx hO.1.1 ok.2.1
    obtain ⟨j, hj, ej⟩ := wi_ex (by omega) ok.2.2.1
    have ecj : cl s = j := by rw [ej]; exact nI_clamp (by omega)
    have h12 := hO.1.1.1.2.2.1
    have eidx : r * nI 5 + s = nI (5 * k + j) := by rw [ek, ej, pk_mul, nI_add, Nat.mul_comm]
    have q2 : CQ (up2 I 1512 (5 * k + j) n) J 1500 (up2 z.1.1 4 (5 * k + j) n, z.1.2) := hC.1.of (hC.1.1.dust (k := 5 * k + j) (v := n)) rfl rfl
    have c3 := hC.d hO hla q2 (FC.up (by omega))
    refine V_aload_n C dX6_dust_42 rfl ?_
    refine V_getR C fl_X6_10 (ob_K h1) r0 rfl dX6_dust_43 ?_
    refine V_getR C fl_X6_93 (ob_K hK1) (ob_R hK1 11 1512 rfl rfl) rfl dX6_dust_46 ?_
    refine V_iload_n C dX6_dust_49 rfl ?_
    refine V_iconst C (v := nI 5) dX6_dust_50 (by decide +kernel) ?_
    refine V_imul C dX6_dust_51 ?_
    refine V_iload_n C dX6_dust_52 rfl ?_
    refine V_iadd C dX6_dust_53 ?_
    refine V_iload_n C dX6_dust_54 rfl ?_
    refine V_iast C (5 * k + j) (ob_A hK1 11 1512 rfl rfl) eidx (by rw [ob_N hK1 11 1512 rfl rfl]; omega) (by rw [ob_N hK1 11 1512 rfl rfl]; decide) dX6_dust_55 ?_
    refine V_iconst C (v := nI 1) dX6_dust_56 (by decide +kernel) ?_
    exact V_zret C (by first | exact Or.inl rfl | exact Or.inr rfl | (simp only [bI]; split <;> first | exact Or.inl rfl | exact Or.inr rfl) | assumption) (Nat.zero_le _) (Nat.zero_le _) dX6_dust_57 (hP _ _ _ _ ⟨by rw [bI_t ok]; rfl, by rw [nDust, if_pos ok, ec, ecj]; exact ⟨la, lb, hS, c3⟩⟩)
  refine V_aload_n C dX6_dust_0 rfl ?_
  refine V_getR C fl_X6_10 (ob_K h1) r0 rfl dX6_dust_1 ?_
  refine V_getI C fl_X6_67 (ob_K hK1) rfl dX6_dust_4 ?_
  refine V_if_ne C 40 dX6_dust_7 (by decide) (fun h7 => ?_) (fun h7 => ?_)
  · first | exact bad (fun q => q.1 (nz.mp (by rw [← c1]; exact h7))) | exact bad (fun q => bI_0.mp h18 q.2.1) | exact bad (fun q => bI_0.mp h27 q.2.2.1) | exact bad (fun q => bI_0.mp h37 q.2.2.2)
  · refine V_aload_n C dX6_dust_10 rfl ?_
    refine V_getR C fl_X6_10 (ob_K h1) r0 rfl dX6_dust_11 ?_
    refine V_iload_n C dX6_dust_14 rfl ?_
    refine V_callV (F := fun _ => True) C (c_isRing h9 hC.1.1 hO.1.1.1 r) mi_X1_isRing ml_X6_79 rfl (ob_K hK1) (by decide) (by decide) (by decide) (Nat.le_of_ble_eq_true rfl) (fun _ _ => trivial) (fun v _ => clo_T v) rfl dX6_dust_15 ?_
    rintro v S' I' J' ⟨hS9, rfl, hI9, hJ9⟩
    obtain rfl := hS9.symm
    obtain rfl := hI9.symm
    obtain rfl := hJ9.symm
    refine V_if_eq C 40 dX6_dust_18 (by decide) (fun h18 => ?_) (fun h18 => ?_)
    · first | exact bad (fun q => q.1 (nz.mp (by rw [← c1]; exact h7))) | exact bad (fun q => bI_0.mp h18 q.2.1) | exact bad (fun q => bI_0.mp h27 q.2.2.1) | exact bad (fun q => bI_0.mp h37 q.2.2.2)
    · refine V_iload_n C dX6_dust_21 rfl ?_
      refine V_iconst C (v := nI 0) dX6_dust_22 (by decide +kernel) ?_
      refine V_iconst C (v := nI 4) dX6_dust_23 (by decide +kernel) ?_
      refine V_callS (F := fun _ => True) C (m_isW _ _ _) ms_X6_isWithin ml_X6_71 rfl (by decide) (by decide) (Nat.le_of_ble_eq_true rfl) (fun _ _ => trivial) (fun v _ => clo_T v) rfl dX6_dust_24 ?_
      rintro v S' I' J' ⟨hS9, rfl, hI9, hJ9⟩
      obtain rfl := hS9.symm
      obtain rfl := hI9.symm
      obtain rfl := hJ9.symm
      refine V_if_eq C 40 dX6_dust_27 (by decide) (fun h27 => ?_) (fun h27 => ?_)
      · first | exact bad (fun q => q.1 (nz.mp (by rw [← c1]; exact h7))) | exact bad (fun q => bI_0.mp h18 q.2.1) | exact bad (fun q => bI_0.mp h27 q.2.2.1) | exact bad (fun q => bI_0.mp h37 q.2.2.2)
      · refine V_iload_n C dX6_dust_30 rfl ?_
        refine V_iconst C (v := nI 0) dX6_dust_31 (by decide +kernel) ?_
        refine V_ldc C dX6_dust_32 kc_X6_83 ?_
        refine V_callS (F := fun _ => True) C (m_isW _ _ _) ms_X6_isWithin ml_X6_71 rfl (by decide) (by decide) (Nat.le_of_ble_eq_true rfl) (fun _ _ => trivial) (fun v _ => clo_T v) rfl dX6_dust_34 ?_
        rintro v S' I' J' ⟨hS9, rfl, hI9, hJ9⟩
        obtain rfl := hS9.symm
        obtain rfl := hI9.symm
        obtain rfl := hJ9.symm
        refine V_if_ne C 42 dX6_dust_37 (by decide) (fun h37 => ?_) (fun h37 => ?_)
        · exact good ⟨fun q => nz.mpr q (c1.symm.trans h7), Decidable.not_not.mp (fun q => h18 (bI_0.mpr q)), Decidable.not_not.mp (fun q => h27 (bI_0.mpr q)), Decidable.not_not.mp (fun q => h37 (bI_0.mpr q))⟩
        · first | exact bad (fun q => q.1 (nz.mp (by rw [← c1]; exact h7))) | exact bad (fun q => bI_0.mp h18 q.2.1) | exact bad (fun q => bI_0.mp h27 q.2.2.1) | exact bad (fun q => bI_0.mp h37 q.2.2.2)
/-- luck, share -/
theorem CR.ls {la lk : Nat} {s : Int32} (hla : la = 1160 ∨ la = 1180) (h : CR la z S I J) : CR la (z.1, z.2.1, (z.2.2.1.1, z.2.2.1.2.1, lk, s), z.2.2.2) S (up2 (up2 I 1140 3 (nI lk)) 1140 4 s) J := by
  obtain ⟨h1, h2, h3, h4, h5, h6, h7, h8⟩ := h
  have r : ∀ a, a ≠ 1140 → up2 (up2 I 1140 3 (nI lk)) 1140 4 s a = I a := fun a ha => by rw [up2_ne _ _ _ ha, up2_ne _ _ _ ha]
  have sm : ∀ {b : Nat} {q : QV}, 1500 ≤ b → CQ I J b q → (∀ u, u < cmD q.1 → True) → CQ (up2 (up2 I 1140 3 (nI lk)) 1140 4 s) J b q := fun {b q} hb hq _ => by
    obtain ⟨⟨a1, a2, a3, a4⟩, a5, a6⟩ := hq
    refine ⟨⟨by rw [r b (by omega)]; exact a1, fun k hk => by rw [r (b + 9) (by omega), r (b + 10) (by omega), r (b + 11) (by omega)]; exact a2 k hk, fun k hk => by rw [r (b + 12) (by omega)]; exact a3 k hk, fun u hu => (a4 u hu).cg (r _ (by omega)) (r _ (by omega)) (fun _ _ _ => rfl)⟩, by rw [r b (by omega)]; exact a5, by rw [r b (by omega)]; exact a6⟩
  refine ⟨sm (by omega) h1 (fun _ _ => trivial), fun m hm => ?_, h3.cg (fun x _ => by rw [r la (by omega)]) (fun a g1 g2 => r a (by omega)), by rw [r 1100 (by omega)]; exact h4, by rw [up2_row, va_up_ne _ _ (by decide), up2_row, va_up_self], by rw [up2_row, va_up_self], by unfold tpK; rw [r 1120 (by omega), r 1122 (by omega)]; exact h7, by unfold tdK; rw [r 1100 (by omega), r 1110 (by omega), r 1111 (by omega)]; exact h8⟩
  have hm2 := h2 m hm
  unfold mkC at hm2 ⊢
  dsimp only
  cases hz : z.2.1 m with
  | none => rw [hz] at hm2; exact hm2
  | some q => rw [hz] at hm2; exact ⟨hm2.1, hm2.2.1, sm (by omega) hm2.2.2 (fun _ _ => trivial)⟩
set_option maxRecDepth 100000 in
theorem f_star (hR : ClsR z S I J) (hO : OkC z) (p l1 s : Int32) : Mf l yX6_star cX6_star 4 (some .boolean) 2 [.ref 1100, .int p, .int l1, .int s] S I J (fun v S' I' J' => v = some (.int (bI (okStar p l1 s))) ∧ ClsR (nStar z p l1 s) S' I' J') := by
  refine Mf.of (by decide) (fun ad => by simp [lg_sl, vv, Value.category]) (fun X P hP hn C => ?_)
  have hR0 := hR
  obtain ⟨la, lb, hS, hC⟩ := hR
  have hla : la = 1160 ∨ la = 1180 := by have := hS.2.2.2.2.2.2.2.2.2.2; omega
  obtain ⟨h1, ⟨r0, r1, r3, r4, r5, r6, r7⟩, hF, -, -, -, -, -, h9, h10, -⟩ := id hS
  have hK1 := h9.1
  have bad : ¬ okStar p l1 s → V X P 0 0 30 [some (.ref 1100), some (.int p), some (.int l1), some (.int s)] [] S I J := by
    intro no
    refine V_iconst C (v := nI 0) dX6_star_30 (by decide +kernel) ?_
    exact V_zret C (by first | exact Or.inl rfl | exact Or.inr rfl | (simp only [bI]; split <;> first | exact Or.inl rfl | exact Or.inr rfl) | assumption) (Nat.zero_le _) (Nat.zero_le _) dX6_star_31 (hP _ _ _ _ ⟨by rw [bI_f no]; rfl, by rw [nStar, if_neg no]; exact hR0⟩)
  have good : okStar p l1 s → V X P 0 0 32 [some (.ref 1100), some (.int p), some (.int l1), some (.int s)] [] S I J := by
    intro ok
    obtain ⟨k, hk, ek⟩ := wi_ex (by omega) ok.2.1
    have ec : cl l1 = k := by rw [ek]; exact nI_clamp (by omega)
    have q2 : CQ (up2 I 1500 2 p) J 1500 (up2 z.1.1 0 2 p, z.1.2) := by
      refine hC.1.of (hC.1.1.row0 (fun a ha => up2_ne _ _ _ ha) ?_ rfl (fun c hc => up2_ne _ _ _ hc)) rfl rfl
      obtain ⟨c0, c1, c2, c3, c4, c5⟩ := hC.1.1.1
      exact ⟨c0, c1, rfl, c3, c4, c5⟩
    have c3 := (hC.d hO hla q2 (FC.up (by omega))).ls (lk := k) (s := s) hla
    refine V_aload_n C dX6_star_32 rfl ?_
    refine V_getR C fl_X6_10 (ob_K h1) r0 rfl dX6_star_33 ?_
    refine V_iload_n C dX6_star_36 rfl ?_
    refine V_putI C fl_X6_96 (ob_K hK1) rfl rfl dX6_star_37 ?_
    refine V_aload_n C dX6_star_40 rfl ?_
    refine V_getR C fl_X6_30 (ob_K h1) r5 rfl dX6_star_41 ?_
    refine V_iload_n C dX6_star_44 rfl ?_
    rw [ek]
    refine V_putI C fl_X6_99 (ob_K hF) rfl rfl dX6_star_45 ?_
    refine V_aload_n C dX6_star_48 rfl ?_
    refine V_getR C fl_X6_30 (ob_K h1) r5 rfl dX6_star_49 ?_
    refine V_iload_n C dX6_star_52 rfl ?_
    refine V_putI C fl_X6_102 (ob_K hF) rfl rfl dX6_star_53 ?_
    refine V_iconst C (v := nI 1) dX6_star_56 (by decide +kernel) ?_
    exact V_zret C (by first | exact Or.inl rfl | exact Or.inr rfl | (simp only [bI]; split <;> first | exact Or.inl rfl | exact Or.inr rfl) | assumption) (Nat.zero_le _) (Nat.zero_le _) dX6_star_57 (hP _ _ _ _ ⟨by rw [bI_t ok]; rfl, by rw [nStar, if_pos ok, ec]; exact ⟨la, lb, hS, c3⟩⟩)
  refine V_iload_n C dX6_star_0 rfl ?_
  refine V_iconst C (v := nI 0) dX6_star_1 (by decide +kernel) ?_
  refine V_ldc C dX6_star_2 kc_X6_83 ?_
  refine V_callS (F := fun _ => True) C (m_isW _ _ _) ms_X6_isWithin ml_X6_71 rfl (by decide) (by decide) (Nat.le_of_ble_eq_true rfl) (fun _ _ => trivial) (fun v _ => clo_T v) rfl dX6_star_4 ?_
  rintro v S' I' J' ⟨hS9, rfl, hI9, hJ9⟩
  obtain rfl := hS9.symm
  obtain rfl := hI9.symm
  obtain rfl := hJ9.symm
  refine V_if_eq C 30 dX6_star_7 (by decide) (fun h7 => ?_) (fun h7 => ?_)
  · first | exact bad (fun q => bI_0.mp h7 q.1) | exact bad (fun q => bI_0.mp h17 q.2.1) | exact bad (fun q => bI_0.mp h27 q.2.2)
  · refine V_iload_n C dX6_star_10 rfl ?_
    refine V_iconst C (v := nI 0) dX6_star_11 (by decide +kernel) ?_
    refine V_bipush C (v := nI 20) dX6_star_12 (by decide +kernel) ?_
    refine V_callS (F := fun _ => True) C (m_isW _ _ _) ms_X6_isWithin ml_X6_71 rfl (by decide) (by decide) (Nat.le_of_ble_eq_true rfl) (fun _ _ => trivial) (fun v _ => clo_T v) rfl dX6_star_14 ?_
    rintro v S' I' J' ⟨hS9, rfl, hI9, hJ9⟩
    obtain rfl := hS9.symm
    obtain rfl := hI9.symm
    obtain rfl := hJ9.symm
    refine V_if_eq C 30 dX6_star_17 (by decide) (fun h17 => ?_) (fun h17 => ?_)
    · first | exact bad (fun q => bI_0.mp h7 q.1) | exact bad (fun q => bI_0.mp h17 q.2.1) | exact bad (fun q => bI_0.mp h27 q.2.2)
    · refine V_iload_n C dX6_star_20 rfl ?_
      refine V_iconst C (v := nI 1) dX6_star_21 (by decide +kernel) ?_
      refine V_bipush C (v := nI 101) dX6_star_22 (by decide +kernel) ?_
      refine V_callS (F := fun _ => True) C (m_isW _ _ _) ms_X6_isWithin ml_X6_71 rfl (by decide) (by decide) (Nat.le_of_ble_eq_true rfl) (fun _ _ => trivial) (fun v _ => clo_T v) rfl dX6_star_24 ?_
      rintro v S' I' J' ⟨hS9, rfl, hI9, hJ9⟩
      obtain rfl := hS9.symm
      obtain rfl := hI9.symm
      obtain rfl := hJ9.symm
      refine V_if_ne C 32 dX6_star_27 (by decide) (fun h27 => ?_) (fun h27 => ?_)
      · exact good ⟨Decidable.not_not.mp (fun q => h7 (bI_0.mpr q)), Decidable.not_not.mp (fun q => h17 (bI_0.mpr q)), Decidable.not_not.mp (fun q => h27 (bI_0.mpr q))⟩
      · first | exact bad (fun q => bI_0.mp h7 q.1) | exact bad (fun q => bI_0.mp h17 q.2.1) | exact bad (fun q => bI_0.mp h27 q.2.2)
set_option maxRecDepth 100000 in
theorem f_seed (hR : ClsR z S I J) (hO : OkC z) (g : Int32) : Mf l yX6_seed cX6_seed 2 (some .boolean) 0 [.ref 1100, .int g] S I J (fun v S' I' J' => v = some (.int (bI (0 ≤ g))) ∧ ClsR (nSeed z g) S' I' J') := by
  refine Mf.of (by decide) (fun ad => by simp [lg_sl, vv, Value.category]) (fun X P hP hn C => ?_)
  have hR0 := hR
  obtain ⟨la, lb, hS, hC⟩ := hR
  have hla : la = 1160 ∨ la = 1180 := by have := hS.2.2.2.2.2.2.2.2.2.2; omega
  obtain ⟨h1', ⟨r0, r1, r3, r4, r5, r6, r7⟩, hF, -, -, -, -, -, h9, h10, -⟩ := id hS
  have hK1 := h9.1
  by_cases hg : 0 ≤ g
  · have q2 : CQ I (up2 J 1500 3 g.toInt64) 1500 (up2 z.1.1 0 3 g, z.1.2) := hC.1.of (hC.1.1.seed rfl) rfl rfl
    have c3 := hC.d hO hla q2 ⟨fun _ _ => rfl, fun a ha => up2_ne _ _ _ (by omega)⟩
    refine V_iload_n C dX6_seed_0 rfl ?_
    refine V_if_ge C 6 dX6_seed_1 (by decide) (fun h1 => ?_) (fun h1 => absurd (hg) h1)
    refine V_aload_n C dX6_seed_6 rfl ?_
    refine V_getR C fl_X6_10 (ob_K h1') r0 rfl dX6_seed_7 ?_
    refine V_iload_n C dX6_seed_10 rfl ?_
    refine V_i2l C dX6_seed_11 ?_
    refine V_putJ C fl_X6_105 (ob_K hK1) rfl rfl dX6_seed_12 ?_
    refine V_iconst C (v := nI 1) dX6_seed_15 (by decide +kernel) ?_
    exact V_zret C (by first | exact Or.inl rfl | exact Or.inr rfl | (simp only [bI]; split <;> first | exact Or.inl rfl | exact Or.inr rfl) | assumption) (Nat.zero_le _) (Nat.zero_le _) dX6_seed_16 (hP _ _ _ _ ⟨by rw [bI_t hg]; rfl, by rw [nSeed, if_pos hg]; exact ⟨la, lb, hS, c3⟩⟩)
  · refine V_iload_n C dX6_seed_0 rfl ?_
    refine V_if_ge C 6 dX6_seed_1 (by decide) (fun h1 => absurd h1 (hg)) (fun h1 => ?_)
    refine V_iconst C (v := nI 0) dX6_seed_4 (by decide +kernel) ?_
    exact V_zret C (by first | exact Or.inl rfl | exact Or.inr rfl | (simp only [bI]; split <;> first | exact Or.inl rfl | exact Or.inr rfl) | assumption) (Nat.zero_le _) (Nat.zero_le _) dX6_seed_5 (hP _ _ _ _ ⟨by rw [bI_f hg]; rfl, by rw [nSeed, if_neg hg]; exact hR0⟩)
theorem eN_ex (h4 : opN z.2.2.1.1 ≤ 4) : eN z = nI (2 ^ opN z.2.2.1.1) ∧ 2 ^ opN z.2.2.1.1 ≤ 16 ∧ 0 < 2 ^ opN z.2.2.1.1 := by
  unfold eN
  have : ∀ n, n ≤ 4 → nI 1 <<< (nI n &&& 31) = nI (2 ^ n) ∧ 2 ^ n ≤ 16 ∧ 0 < 2 ^ n := by
    intro n hn
    match n, hn with
    | 0, _ => decide
    | 1, _ => decide
    | 2, _ => decide
    | 3, _ => decide
    | 4, _ => decide
  exact this _ h4
theorem isE_ex (h4 : opN z.2.2.1.1 ≤ 4) {g : Int32} (h : isE z g) : ∃ e, e < 16 ∧ e < 2 ^ opN z.2.2.1.1 ∧ g = nI e := by
  obtain ⟨e1, e2, e3⟩ := eN_ex h4
  obtain ⟨k, hk, e⟩ := nI_ofge h.1
  have h2 := h.2
  rw [e1, e, nI_ltI hk (by omega)] at h2
  exact ⟨k, by omega, h2, e⟩
set_option maxRecDepth 100000 in
theorem f_isEnd {la lb : Nat} (hS : SS S la lb) (hC : CL I la z.2.2.1.1) (h4 : opN z.2.2.1.1 ≤ 4) (g : Int32) : Mn l yX6_isEnd cX6_isEnd 2 (some .boolean) 1 [.ref 1100, .int g] S I J (fun v I' J' => v = some (.int (bI (isE z g))) ∧ I' = I ∧ J' = J) := by
  refine Mn.of (by decide) (fun ad => by simp [lg_sl, vv, Value.category]) (fun X P hP hn C => ?_)
  obtain ⟨h1, ⟨r0, r1, r3, r4, r5, r6, r7⟩, hF, -, -, -, hL, -, h9, h10, -⟩ := id hS
  obtain ⟨e1, e2, e3⟩ := eN_ex h4
  have e : bI (wi g (nI 0) (nI 1 <<< (nI (opN z.2.2.1.1) &&& 31) - nI 1)) = bI (isE z g) := by
    have h := wi_isL (x := g) (m := eN z) (n := 2 ^ opN z.2.2.1.1) e1 (by omega)
    show bI (wi g (nI 0) (eN z - nI 1)) = _
    by_cases q : isE z g
    · rw [bI_t q, bI_t (h.mpr q)]
    · rw [bI_f q, bI_f (fun p => q (h.mp p))]
  refine V_iload_n C dX6_isEnd_0 rfl ?_
  refine V_iconst C (v := nI 0) dX6_isEnd_1 (by decide +kernel) ?_
  refine V_aload_n C dX6_isEnd_2 rfl ?_
  refine V_getR C fl_X6_42 (ob_K h1) r6 rfl dX6_isEnd_3 ?_
  refine V_callV (F := fun _ => True) C (c_howManyEnds hL hC) mi_X2_howManyEnds ml_X6_211 rfl (ob_K hL) (by decide) (by decide) (by decide) (Nat.le_of_ble_eq_true rfl) (fun _ _ => trivial) (fun v _ => clo_T v) rfl dX6_isEnd_6 ?_
  rintro v S' I' J' ⟨hS9, rfl, hI9, hJ9⟩
  obtain rfl := hS9.symm
  obtain rfl := hI9.symm
  obtain rfl := hJ9.symm
  refine V_iconst C (v := nI 1) dX6_isEnd_9 (by decide +kernel) ?_
  refine V_isub C dX6_isEnd_10 ?_
  refine V_callS (F := fun _ => True) C (m_isW _ _ _) ms_X6_isWithin ml_X6_71 rfl (by decide) (by decide) (Nat.le_of_ble_eq_true rfl) (fun _ _ => trivial) (fun v _ => clo_T v) rfl dX6_isEnd_11 ?_
  rintro v S' I' J' ⟨hS9, rfl, hI9, hJ9⟩
  obtain rfl := hS9.symm
  obtain rfl := hI9.symm
  obtain rfl := hJ9.symm
  rw [e]
  exact V_zret C (by first | exact Or.inl rfl | exact Or.inr rfl | (simp only [bI]; split <;> first | exact Or.inl rfl | exact Or.inr rfl) | assumption) (Nat.zero_le _) (Nat.zero_le _) dX6_isEnd_14 (hP _ _ _ ⟨rfl, rfl, rfl⟩)
theorem CR.o {la c : Nat} {v : Int32} {z' : SV} (hla : la = 1160 ∨ la = 1180) (h : CR la z S I J) (h1 : z'.1 = z.1) (h2 : z'.2.1 = z.2.1) (h3 : z'.2.2.1.1 = z.2.2.1.1) (h4 : z'.2.2.1.2.2 = z.2.2.1.2.2) (h5 : z'.2.2.2.1 = z.2.2.2.1) (e8 : up2 I 1100 c v 1100 8 = z'.2.2.1.2.1) (et : tdK (up2 I 1100 c v) z'.2.2.2.2) : CR la z' S (up2 I 1100 c v) J := by
  obtain ⟨g1, g2, g3, g4, g5, g6, g7, g8⟩ := h
  have r : ∀ a, a ≠ 1100 → up2 I 1100 c v a = I a := fun a ha => up2_ne _ _ _ ha
  have sm : ∀ {b : Nat} {q : QV}, 1500 ≤ b → CQ I J b q → CQ (up2 I 1100 c v) J b q := fun {b q} hb hq => by
    obtain ⟨⟨a1, a2, a3, a4⟩, a5, a6⟩ := hq
    refine ⟨⟨by rw [r b (by omega)]; exact a1, fun k hk => by rw [r (b + 9) (by omega), r (b + 10) (by omega), r (b + 11) (by omega)]; exact a2 k hk, fun k hk => by rw [r (b + 12) (by omega)]; exact a3 k hk, fun u hu => (a4 u hu).cg (r _ (by omega)) (r _ (by omega)) (fun _ _ _ => rfl)⟩, by rw [r b (by omega)]; exact a5, by rw [r b (by omega)]; exact a6⟩
  refine ⟨by rw [h1]; exact sm (by omega) g1, fun m hm => ?_, by rw [h3]; exact g3.cg (fun x _ => by rw [r la (by omega)]) (fun a q1 q2 => r a (by omega)), e8, by rw [r 1140 (by omega), h4]; exact g5, by rw [r 1140 (by omega), h4]; exact g6, by rw [h5]; unfold tpK; rw [r 1120 (by omega), r 1122 (by omega)]; exact g7, et⟩
  have hm2 := g2 m hm
  unfold mkC at hm2 ⊢
  rw [h2]
  cases hz : z.2.1 m with
  | none => rw [hz] at hm2; exact hm2
  | some q => rw [hz] at hm2; exact ⟨hm2.1, hm2.2.1, sm (by omega) hm2.2.2⟩
set_option maxRecDepth 100000 in
theorem f_end (hR : ClsR z S I J) (hO : OkC z) (g : Int32) : Mf l yX6_end cX6_end 2 (some .boolean) 2 [.ref 1100, .int g] S I J (fun v S' I' J' => v = some (.int (bI (isE z g))) ∧ ClsR (nEnd z g) S' I' J') := by
  refine Mf.of (by decide) (fun ad => by simp [lg_sl, vv, Value.category]) (fun X P hP hn C => ?_)
  have hR0 := hR
  obtain ⟨la, lb, hS, hC⟩ := hR
  have hla : la = 1160 ∨ la = 1180 := by have := hS.2.2.2.2.2.2.2.2.2.2; omega
  obtain ⟨h1, ⟨r0, r1, r3, r4, r5, r6, r7⟩, hF, -, -, -, hL, -, h9, h10, -⟩ := id hS
  have h4 := hO.2.2.2.2.2.1
  by_cases hg : isE z g
  · have c3 : CR la (z.1, z.2.1, (z.2.2.1.1, g, z.2.2.1.2.2), z.2.2.2) S (up2 I 1100 8 g) J := hC.o hla rfl rfl rfl rfl rfl rfl ⟨hC.2.2.2.2.2.2.2.1, hC.2.2.2.2.2.2.2.2⟩
    refine V_aload_n C dX6_end_0 rfl ?_
    refine V_iload_n C dX6_end_1 rfl ?_
    refine V_callV (F := fun _ => True) C (f_isEnd hS hC.2.2.1 h4 g) mi_X6_isEnd ml_X6_123 rfl (ob_K h1) (by decide) (by decide) (by decide) (Nat.le_of_ble_eq_true rfl) (fun _ _ => trivial) (fun v _ => clo_T v) rfl dX6_end_2 ?_
    rintro v S' I' J' ⟨hS9, rfl, hI9, hJ9⟩
    obtain rfl := hS9.symm
    obtain rfl := hI9.symm
    obtain rfl := hJ9.symm
    refine V_if_ne C 10 dX6_end_5 (by decide) (fun h5 => ?_) (fun h5 => absurd h5 (by rw [bI_0]; exact fun q => q hg))
    refine V_aload_n C dX6_end_10 rfl ?_
    refine V_iload_n C dX6_end_11 rfl ?_
    refine V_putI C fl_X6_120 (ob_K h1) rfl rfl dX6_end_12 ?_
    refine V_iconst C (v := nI 1) dX6_end_15 (by decide +kernel) ?_
    exact V_zret C (by first | exact Or.inl rfl | exact Or.inr rfl | (simp only [bI]; split <;> first | exact Or.inl rfl | exact Or.inr rfl) | assumption) (Nat.zero_le _) (Nat.zero_le _) dX6_end_16 (hP _ _ _ _ ⟨by rw [bI_t hg]; rfl, by rw [nEnd, if_pos hg]; exact ⟨la, lb, hS, c3⟩⟩)
  · refine V_aload_n C dX6_end_0 rfl ?_
    refine V_iload_n C dX6_end_1 rfl ?_
    refine V_callV (F := fun _ => True) C (f_isEnd hS hC.2.2.1 h4 g) mi_X6_isEnd ml_X6_123 rfl (ob_K h1) (by decide) (by decide) (by decide) (Nat.le_of_ble_eq_true rfl) (fun _ _ => trivial) (fun v _ => clo_T v) rfl dX6_end_2 ?_
    rintro v S' I' J' ⟨hS9, rfl, hI9, hJ9⟩
    obtain rfl := hS9.symm
    obtain rfl := hI9.symm
    obtain rfl := hJ9.symm
    refine V_if_ne C 10 dX6_end_5 (by decide) (fun h5 => absurd (bI_f hg) h5) (fun h5 => ?_)
    refine V_iconst C (v := nI 0) dX6_end_8 (by decide +kernel) ?_
    exact V_zret C (by first | exact Or.inl rfl | exact Or.inr rfl | (simp only [bI]; split <;> first | exact Or.inl rfl | exact Or.inr rfl) | assumption) (Nat.zero_le _) (Nat.zero_le _) dX6_end_9 (hP _ _ _ _ ⟨by rw [bI_f hg]; rfl, by rw [nEnd, if_neg hg]; exact hR0⟩)
set_option maxRecDepth 100000 in
theorem f_made (hR : ClsR z S I J) (hO : OkC z) (u r : Int32) : Mf l yX6_made cX6_made 3 (some .int) 2 [.ref 1100, .int u, .int r] S I J (fun v S' I' J' => v = some (.int (madeV z u r)) ∧ ClsR z S' I' J') := by
  refine Mf.of (by decide) (fun ad => by simp [lg_sl, vv, Value.category]) (fun X P hP hn C => ?_)
  have hR0 := hR
  obtain ⟨la, lb, hS, hC⟩ := hR
  obtain ⟨h1, ⟨r0, r1, r3, r4, r5, r6, r7⟩, hF, -, -, -, hL, -, h9, h10, -⟩ := id hS
  have hK1 := h9.1
  have bad : ¬ okMade z u r → V X P 0 0 39 [some (.ref 1100), some (.int u), some (.int r)] [] S I J := by
    intro no
    refine V_iconst C (v := (-1)) dX6_made_39 (by decide +kernel) ?_
    exact V_iret C (Nat.zero_le _) (Nat.zero_le _) dX6_made_40 (hP _ _ _ _ ⟨by rw [madeV, if_neg no], hR0⟩)
  have good : okMade z u r → V X P 0 0 22 [some (.ref 1100), some (.int u), some (.int r)] [] S I J := by
    intro ok
    obtain ⟨k, hk, ek, ec⟩ := isLx hO.1.1 ok.1
    obtain ⟨j, hj, ej, ecj⟩ := isRx hO.1.1 ok.2
    have h30 := hO.1.1.1.2.2.2.2.1
    have h12 := hO.1.1.1.2.2.1
    obtain ⟨hLk, hRk⟩ := h9.2 k (by omega)
    have e35 := (hC.1.1.2.2.2 k hk).2 j (by omega)
    refine V_aload_n C dX6_made_22 rfl ?_
    refine V_getR C fl_X6_10 (ob_K h1) r0 rfl dX6_made_23 ?_
    refine V_getR C fl_X6_146 (ob_K hK1) (ob_R hK1 12 1513 rfl rfl) rfl dX6_made_26 ?_
    refine V_iload_n C dX6_made_29 rfl ?_
    refine V_aald C (k) (ob_A2 hK1 12 1513 rfl rfl) ek (by rw [ob_N hK1 12 1513 rfl rfl]; omega) (by rw [ob_N hK1 12 1513 rfl rfl]; decide) hRk dX6_made_30 ?_
    refine V_getR C fl_X6_186 (ob_K hLk) (ob_R hLk 7 ((1500 + 20 + 10 * k) + 8) rfl rfl) rfl dX6_made_31 ?_
    refine V_iload_n C dX6_made_34 rfl ?_
    refine V_iald C (j) (ob_A hLk 7 ((1500 + 20 + 10 * k) + 8) rfl rfl) ej (by rw [ob_N hLk 7 ((1500 + 20 + 10 * k) + 8) rfl rfl]; omega) (by rw [ob_N hLk 7 ((1500 + 20 + 10 * k) + 8) rfl rfl]; decide) dX6_made_35 ?_
    refine V_goto C 40 dX6_made_36 (by decide) ?_
    exact V_iret C (Nat.zero_le _) (Nat.zero_le _) dX6_made_40 (hP _ _ _ _ ⟨by rw [madeV, if_pos ok, ec, ecj, ← e35], hR0⟩)
  refine V_aload_n C dX6_made_0 rfl ?_
  refine V_getR C fl_X6_10 (ob_K h1) r0 rfl dX6_made_1 ?_
  refine V_iload_n C dX6_made_4 rfl ?_
  refine V_callV (F := fun _ => True) C (c_isLump h9 hC.1.1 hO.1.1.1 u) mi_X1_isLump ml_X6_143 rfl (ob_K hK1) (by decide) (by decide) (by decide) (Nat.le_of_ble_eq_true rfl) (fun _ _ => trivial) (fun v _ => clo_T v) rfl dX6_made_5 ?_
  rintro v S' I' J' ⟨hS9, rfl, hI9, hJ9⟩
  obtain rfl := hS9.symm
  obtain rfl := hI9.symm
  obtain rfl := hJ9.symm
  refine V_if_eq C 39 dX6_made_8 (by decide) (fun h8 => ?_) (fun h8 => ?_)
  · first | exact bad (fun q => bI_0.mp h8 q.1) | exact bad (fun q => bI_0.mp h19 q.2)
  · refine V_aload_n C dX6_made_11 rfl ?_
    refine V_getR C fl_X6_10 (ob_K h1) r0 rfl dX6_made_12 ?_
    refine V_iload_n C dX6_made_15 rfl ?_
    refine V_callV (F := fun _ => True) C (c_isRing h9 hC.1.1 hO.1.1.1 r) mi_X1_isRing ml_X6_79 rfl (ob_K hK1) (by decide) (by decide) (by decide) (Nat.le_of_ble_eq_true rfl) (fun _ _ => trivial) (fun v _ => clo_T v) rfl dX6_made_16 ?_
    rintro v S' I' J' ⟨hS9, rfl, hI9, hJ9⟩
    obtain rfl := hS9.symm
    obtain rfl := hI9.symm
    obtain rfl := hJ9.symm
    refine V_if_eq C 39 dX6_made_19 (by decide) (fun h19 => ?_) (fun h19 => ?_)
    · first | exact bad (fun q => bI_0.mp h8 q.1) | exact bad (fun q => bI_0.mp h19 q.2)
    · exact good ⟨Decidable.not_not.mp (fun q => h8 (bI_0.mpr q)), Decidable.not_not.mp (fun q => h19 (bI_0.mpr q))⟩
end C15
