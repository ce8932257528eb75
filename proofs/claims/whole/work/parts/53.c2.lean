/-! the class's disk at key b: rows at b + 9 .. b + 13, its lump u at b + 20 + 10 * u -/
section C2
variable {l : Launch} {S : HS} {I I' : HI} {J J' : HJ} {b : Nat} {D D' : DV}
def Dk (S : HS) (b : Nat) : Prop := Ob S 1 b ∧ ∀ x, x < 30 → Ob S 3 (b + 20 + 10 * x) ∧ S.2.2 (b + 13) x = some (b + 20 + 10 * x)
def LR (I : HI) (a : Nat) (D : DV) (u : Nat) : Prop := (I a 0 = D 5 u ∧ I a 1 = D 6 u ∧ I a 2 = wD D u ∧ I a 3 = D 7 u ∧ I a 4 = D 10 u ∧ I a 5 = D 9 u ∧ I a 6 = D 8 u) ∧ ∀ k, k < 12 → I (a + 8) k = D 11 (12 * u + k)
def CD (I : HI) (J : HJ) (b : Nat) (D : DV) : Prop := (I b 0 = D 0 0 ∧ I b 1 = D 0 1 ∧ I b 2 = D 0 2 ∧ J b 3 = (D 0 3).toInt64 ∧ I b 6 = D 0 6 ∧ I b 7 = thD D) ∧ (∀ k, k < 12 → I (b + 9) k = D 1 k ∧ I (b + 10) k = D 2 k ∧ I (b + 11) k = D 3 k) ∧ (∀ k, k < 60 → I (b + 12) k = D 4 k) ∧ ∀ u, u < cmD D → LR I (b + 20 + 10 * u) D u
def CQ (I : HI) (J : HJ) (b : Nat) (q : QV) : Prop := CD I J b q.1 ∧ (I b 4).toInt64 = q.2.1 ∧ (I b 5).toInt64 = q.2.2
/-- all keys but those of the disk b, of what is told and tried -/
def ouK (b a : Nat) : Prop := (a < b ∨ b + 400 ≤ a) ∧ a ≠ 1146 ∧ a ≠ 1147 ∧ a ≠ 1148 ∧ a ≠ 1172 ∧ a ≠ 1192
def FC (b : Nat) (I : HI) (J : HJ) (I' : HI) (J' : HJ) : Prop := (∀ a, ouK b a → I' a = I a) ∧ ∀ a, (a < b ∨ b + 400 ≤ a) → J' a = J a
theorem FC.re : FC b I J I J := ⟨fun _ _ => rfl, fun _ _ => rfl⟩
theorem FC.tr {I2 : HI} {J2 : HJ} (h : FC b I J I2 J2) (g : FC b I2 J2 I' J') : FC b I J I' J' := ⟨fun a ha => (g.1 a ha).trans (h.1 a ha), fun a ha => (g.2 a ha).trans (h.2 a ha)⟩
theorem FC.up {a j : Nat} {v : Int32} (h : b ≤ a ∧ a < b + 400) : FC b I J (up2 I a j v) J := ⟨fun c hc => up2_ne _ _ _ (by have := hc.1; omega), fun _ _ => rfl⟩
/-- what is told and tried, alone -/
def Sk (I I' : HI) : Prop := ∀ a, a ≠ 1146 → a ≠ 1147 → a ≠ 1148 → a ≠ 1172 → a ≠ 1192 → I' a = I a
theorem Sk.fc (h : Sk I I') : FC b I J I' J := ⟨fun a ha => h a ha.2.1 ha.2.2.1 ha.2.2.2.1 ha.2.2.2.2.1 ha.2.2.2.2.2, fun _ _ => rfl⟩
theorem LR.cg {a u : Nat} (h : LR I a D u) (e1 : I' a = I a) (e2 : I' (a + 8) = I (a + 8)) (hD : ∀ c, 5 ≤ c → c ≤ 11 → D' c = D c) : LR I' a D' u := by
  have ew : wD D' u = wD D u := by unfold wD; rw [hD 11 (by omega) (by omega), hD 7 (by omega) (by omega)]
  unfold LR
  rw [e1, e2, ew, hD 5 (by omega) (by omega), hD 6 (by omega) (by omega), hD 7 (by omega) (by omega), hD 8 (by omega) (by omega), hD 9 (by omega) (by omega), hD 10 (by omega) (by omega), hD 11 (by omega) (by omega)]
  exact h
theorem thD_cg (h0 : D' 0 6 = D 0 6) (h5 : D' 5 = D 5) : thD D' = thD D := by unfold thD cmD; rw [h0, h5]
theorem cmD_cg (h0 : D' 0 6 = D 0 6) : cmD D' = cmD D := by unfold cmD; rw [h0]
/-- another memory that is the same on the disk -/
theorem CD.same (h : CD I J b D) (hI : ∀ a, b ≤ a → a < b + 400 → I' a = I a) (hJ : J' b = J b) (h30 : cmD D ≤ 30) : CD I' J' b D := by
  obtain ⟨⟨h0, h1, h2, h3, h4, h5⟩, g1, g2, g3⟩ := h
  refine ⟨?_, fun k hk => ?_, fun k hk => ?_, fun u hu => ?_⟩
  · rw [hI b (by omega) (by omega), hJ]; exact ⟨h0, h1, h2, h3, h4, h5⟩
  · rw [hI (b + 9) (by omega) (by omega), hI (b + 10) (by omega) (by omega), hI (b + 11) (by omega) (by omega)]; exact g1 k hk
  · rw [hI (b + 12) (by omega) (by omega)]; exact g2 k hk
  · exact (g3 u hu).cg (hI _ (by omega) (by omega)) (hI _ (by omega) (by omega)) (fun _ _ _ => rfl)
theorem CD.sk (hb : 1500 ≤ b) (h : CD I J b D) (hI : Sk I I') (h30 : cmD D ≤ 30) : CD I' J b D := h.same (fun a h1 _ => hI a (by omega) (by omega) (by omega) (by omega) (by omega)) rfl h30
theorem CD.row4 (h : CD I J b D) (hI : ∀ a, a ≠ b + 12 → I' a = I a) (h4 : ∀ k, k < 60 → I' (b + 12) k = D' 4 k) (hD : ∀ c, c ≠ 4 → D' c = D c) : CD I' J b D' := by
  obtain ⟨⟨h0, h1, h2, h3, h4', h5⟩, g1, g2, g3⟩ := h
  have e0 := hD 0 (by decide)
  refine ⟨?_, fun k hk => ?_, h4, fun u hu => ?_⟩
  · rw [hI b (by omega), e0, thD_cg (by rw [e0]) (hD 5 (by decide))]; exact ⟨h0, h1, h2, h3, h4', h5⟩
  · rw [hI (b + 9) (by omega), hI (b + 10) (by omega), hI (b + 11) (by omega), hD 1 (by decide), hD 2 (by decide), hD 3 (by decide)]; exact g1 k hk
  · rw [cmD_cg (by rw [e0])] at hu
    exact (g3 u hu).cg (hI _ (by omega)) (hI _ (by omega)) (fun c q1 _ => hD c (by omega))
theorem CD.dust {k : Nat} {v : Int32} (h : CD I J b D) : CD (up2 I (b + 12) k v) J b (up2 D 4 k v) := h.row4 (fun a ha => up2_ne _ _ _ ha) (fun x hx => by
  rw [up2_row, up2_row]
  by_cases e : x = k
  · subst e; rw [va_up_self, va_up_self]
  · rw [va_up_ne _ _ e, va_up_ne _ _ e]; exact h.2.2.1 x hx) (fun c hc => up2_ne _ _ _ hc)
theorem CD.mv {k k2 : Nat} {p : Int32} (h : CD I J b D) (hk : k < 60) (hk2 : k2 < 60) : CD (up2 (up2 I (b + 12) k (I (b + 12) k - p)) (b + 12) k2 (up2 I (b + 12) k (I (b + 12) k - p) (b + 12) k2 + p)) J b (mvD D k k2 p) := by
  have e1 := h.2.2.1 k hk
  rw [e1]
  have h1 := h.dust (k := k) (v := D 4 k - p)
  have e2 := h1.2.2.1 k2 hk2
  rw [e2]
  exact h1.dust
theorem CD.row1 (h : CD I J b D) (hI : ∀ a, a ≠ b + 9 → I' a = I a) (h1' : ∀ k, k < 12 → I' (b + 9) k = D' 1 k) (hD : ∀ c, c ≠ 1 → D' c = D c) : CD I' J b D' := by
  obtain ⟨⟨h0, h1, h2, h3, h4', h5⟩, g1, g2, g3⟩ := h
  have e0 := hD 0 (by decide)
  refine ⟨?_, fun k hk => ?_, fun k hk => ?_, fun u hu => ?_⟩
  · rw [hI b (by omega), e0, thD_cg (by rw [e0]) (hD 5 (by decide))]; exact ⟨h0, h1, h2, h3, h4', h5⟩
  · rw [hI (b + 10) (by omega), hI (b + 11) (by omega), hD 2 (by decide), hD 3 (by decide)]; exact ⟨h1' k hk, (g1 k hk).2⟩
  · rw [hI (b + 12) (by omega), hD 4 (by decide)]; exact g2 k hk
  · rw [cmD_cg (by rw [e0])] at hu
    exact (g3 u hu).cg (hI _ (by omega)) (hI _ (by omega)) (fun c q1 _ => hD c (by omega))
theorem CD.gas {k : Nat} {v : Int32} (h : CD I J b D) : CD (up2 I (b + 9) k v) J b (up2 D 1 k v) := h.row1 (fun a ha => up2_ne _ _ _ ha) (fun x hx => by
  rw [up2_row, up2_row]
  by_cases e : x = k
  · subst e; rw [va_up_self, va_up_self]
  · rw [va_up_ne _ _ e, va_up_ne _ _ e]; exact (h.2.1 x hx).1) (fun c hc => up2_ne _ _ _ hc)
/-- the disk's own numbers -/
theorem CD.row0 (h : CD I J b D) (hI : ∀ a, a ≠ b → I' a = I a) (h0 : I' b 0 = D' 0 0 ∧ I' b 1 = D' 0 1 ∧ I' b 2 = D' 0 2 ∧ J' b 3 = (D' 0 3).toInt64 ∧ I' b 6 = D' 0 6 ∧ I' b 7 = thD D') (h6 : D' 0 6 = D 0 6) (hD : ∀ c, c ≠ 0 → D' c = D c) : CD I' J' b D' := by
  obtain ⟨-, g1, g2, g3⟩ := h
  refine ⟨h0, fun k hk => ?_, fun k hk => ?_, fun u hu => ?_⟩
  · rw [hI (b + 9) (by omega), hI (b + 10) (by omega), hI (b + 11) (by omega), hD 1 (by decide), hD 2 (by decide), hD 3 (by decide)]; exact g1 k hk
  · rw [hI (b + 12) (by omega), hD 4 (by decide)]; exact g2 k hk
  · rw [cmD_cg h6] at hu
    exact (g3 u hu).cg (hI _ (by omega)) (hI _ (by omega)) (fun c q1 _ => hD c (by omega))
theorem CD.seed {v : Int32} {w : Int64} (h : CD I J b D) (hw : w = v.toInt64) : CD I (up2 J b 3 w) b (up2 D 0 3 v) := by
  obtain ⟨h0, h1, h2, h3, h4, h5⟩ := h.1
  refine h.row0 (fun _ _ => rfl) ⟨h0, h1, h2, ?_, h4, h5⟩ rfl (fun c hc => up2_ne _ _ _ hc)
  rw [up2_row, va_up_self, hw]
  rfl
/-- fallen and thrown aren't the disk's value's -/
theorem CD.oth {x : Nat} {v : Int32} (h : CD I J b D) (hx : x = 4 ∨ x = 5) : CD (up2 I b x v) J b D := by
  have e : ∀ y, y ≠ x → up2 I b x v b y = I b y := fun y hy => by rw [up2_row, va_up_ne _ _ hy]
  refine h.row0 (fun a ha => up2_ne _ _ _ ha) ?_ rfl (fun _ _ => rfl)
  rw [e 0 (by omega), e 1 (by omega), e 2 (by omega), e 6 (by omega), e 7 (by omega)]
  exact h.1
/-- one lump has changed -/
theorem CD.lump {u0 : Nat} (h : CD I J b D) (hI : ∀ a, a ≠ b + 20 + 10 * u0 → a ≠ b + 20 + 10 * u0 + 8 → a ≠ b → I' a = I a) (hb : I' b 0 = I b 0 ∧ I' b 1 = I b 1 ∧ I' b 2 = I b 2 ∧ I' b 6 = I b 6) (h7 : I' b 7 = thD D') (hJ : J' b = J b) (hD : ∀ c, c ≤ 4 → D' c = D c) (hu : ∀ c, 5 ≤ c → c ≤ 10 → ∀ u, u ≠ u0 → D' c u = D c u) (h11 : ∀ k, (k < 12 * u0 ∨ 12 * u0 + 12 ≤ k) → D' 11 k = D 11 k) (hL : LR I' (b + 20 + 10 * u0) D' u0) : CD I' J' b D' := by
  obtain ⟨⟨h0, h1, h2, h3, h4, h5⟩, g1, g2, g3⟩ := h
  have e0 := hD 0 (by decide)
  refine ⟨?_, fun k hk => ?_, fun k hk => ?_, fun u hu' => ?_⟩
  · rw [hb.1, hb.2.1, hb.2.2.1, hb.2.2.2, hJ, e0]; exact ⟨h0, h1, h2, h3, h4, h7⟩
  · rw [hI (b + 9) (by omega) (by omega) (by omega), hI (b + 10) (by omega) (by omega) (by omega), hI (b + 11) (by omega) (by omega) (by omega), hD 1 (by decide), hD 2 (by decide), hD 3 (by decide)]; exact g1 k hk
  · rw [hI (b + 12) (by omega) (by omega) (by omega), hD 4 (by decide)]; exact g2 k hk
  · rw [cmD_cg (by rw [e0])] at hu'
    by_cases e : u = u0
    · subst e; exact hL
    · obtain ⟨⟨w0, w1, w2, w3, w4, w5, w6⟩, w7⟩ := g3 u hu'
      have ew : wD D' u = wD D u := by
        unfold wD
        rw [hu 7 (by omega) (by omega) u e, iSum_congr (f := D' 11) (g := D 11) (k := 12 * u) (m := 12 * u) (fun i hi => h11 _ (by omega))]
      refine ⟨?_, fun k hk => ?_⟩
      · rw [hI (b + 20 + 10 * u) (by omega) (by omega) (by omega), ew, hu 5 (by omega) (by omega) u e, hu 6 (by omega) (by omega) u e, hu 7 (by omega) (by omega) u e, hu 8 (by omega) (by omega) u e, hu 9 (by omega) (by omega) u e, hu 10 (by omega) (by omega) u e]
        exact ⟨w0, w1, w2, w3, w4, w5, w6⟩
      · rw [hI (b + 20 + 10 * u + 8) (by omega) (by omega) (by omega), h11 _ (by omega)]; exact w7 k hk
theorem tCnt_up {f : Nat → Int32} {u : Nat} {v : Int32} (h0 : f u = 0) (hv : ¬ v = 0) : ∀ n, tCnt (va_up f u v) n = if u < n then tCnt f n - nI 1 else tCnt f n
  | 0 => rfl
  | n + 1 => by
    rw [tCnt, tCnt_up h0 hv n]
    by_cases e : u = n
    · subst e
      rw [if_neg (Nat.lt_irrefl _), if_pos (Nat.lt_succ_self _), va_up_self, if_neg hv, tCnt, if_pos h0]
      show _ = tCnt f u + 1 - 1
      rw [Int32.add_sub_cancel, ← nI_0, show tCnt f u + nI 0 = tCnt f u from Int32.add_zero _]
    · rw [va_up_ne _ _ (fun q => e q.symm), tCnt]
      generalize (if f n = 0 then (1 : Int32) else 0) = z
      by_cases h : u < n
      · rw [if_pos h, if_pos (by omega)]
        rw [Int32.sub_eq_add_neg, Int32.sub_eq_add_neg, Int32.add_assoc, Int32.add_comm (-nI 1), ← Int32.add_assoc]
      · rw [if_neg h, if_neg (by omega)]
theorem thD_up {u : Nat} {v : Int32} (hu : u < cmD D) (h0 : D 5 u = 0) (hv : ¬ v = 0) : thD (up2 D 5 u v) = thD D - nI 1 := by
  have : thD (up2 D 5 u v) = tCnt (va_up (D 5) u v) (cmD D) := rfl
  rw [this, tCnt_up h0 hv, if_pos hu]
  rfl
/-! what is asked of a disk -/
set_option maxRecDepth 100000 in
theorem c_allDustIn (hK : Dk S b) {r : Nat} (hr : r < 12) : Mn l yX1_allDustIn cX1_allDustIn 3 (some .int) 0 [.ref b, .int (nI r)] S I J (fun v I' J' => v = some (.int (iSum (I (b + 12)) (5 * r) 5)) ∧ I' = I ∧ J' = J) := by
  refine Mn.of (by decide) (fun ad => by simp [lg_sl, vv, Value.category]) (fun X P hP hn C => ?_)
  have hK1 := hK.1
  have e : nI r * nI 5 = nI (5 * r) := by rw [pk_mul, Nat.mul_comm]
  have es : I (b + 12) (5 * r) + I (b + 12) (5 * r + 1) + I (b + 12) (5 * r + 2) + I (b + 12) (5 * r + 3) + I (b + 12) (5 * r + 4) = iSum (I (b + 12)) (5 * r) 5 := by
    simp only [iSum, Int32.zero_add, Nat.add_zero]
  refine V_iload_n C dX1_allDustIn_0 rfl ?_
  refine V_iconst C (v := nI 5) dX1_allDustIn_1 (by decide +kernel) ?_
  refine V_imul C dX1_allDustIn_2 ?_
  rw [e]
  refine V_istore_n C dX1_allDustIn_3 (hn _ (by decide)) ?_
  refine V_aload_n C dX1_allDustIn_4 rfl ?_
  refine V_getR C fl_X1_21 (ob_K hK1) (ob_R hK1 11 (b + 12) rfl rfl) rfl dX1_allDustIn_5 ?_
  refine V_iload_n C dX1_allDustIn_8 rfl ?_
  refine V_iald C (5 * r) (ob_A hK1 11 (b + 12) rfl rfl) (by first | rfl | (simp only [nI_add, pk_mul]; done) | (simp only [nI_add, pk_mul]; congr 1; omega)) (by rw [ob_N hK1 11 (b + 12) rfl rfl]; omega) (by rw [ob_N hK1 11 (b + 12) rfl rfl]; decide) dX1_allDustIn_9 ?_
  refine V_aload_n C dX1_allDustIn_10 rfl ?_
  refine V_getR C fl_X1_21 (ob_K hK1) (ob_R hK1 11 (b + 12) rfl rfl) rfl dX1_allDustIn_11 ?_
  refine V_iload_n C dX1_allDustIn_14 rfl ?_
  refine V_iconst C (v := nI 1) dX1_allDustIn_15 (by decide +kernel) ?_
  refine V_iadd C dX1_allDustIn_16 ?_
  refine V_iald C (5 * r + 1) (ob_A hK1 11 (b + 12) rfl rfl) (by first | rfl | (simp only [nI_add, pk_mul]; done) | (simp only [nI_add, pk_mul]; congr 1; omega)) (by rw [ob_N hK1 11 (b + 12) rfl rfl]; omega) (by rw [ob_N hK1 11 (b + 12) rfl rfl]; decide) dX1_allDustIn_17 ?_
  refine V_iadd C dX1_allDustIn_18 ?_
  refine V_aload_n C dX1_allDustIn_19 rfl ?_
  refine V_getR C fl_X1_21 (ob_K hK1) (ob_R hK1 11 (b + 12) rfl rfl) rfl dX1_allDustIn_20 ?_
  refine V_iload_n C dX1_allDustIn_23 rfl ?_
  refine V_iconst C (v := nI 2) dX1_allDustIn_24 (by decide +kernel) ?_
  refine V_iadd C dX1_allDustIn_25 ?_
  refine V_iald C (5 * r + 2) (ob_A hK1 11 (b + 12) rfl rfl) (by first | rfl | (simp only [nI_add, pk_mul]; done) | (simp only [nI_add, pk_mul]; congr 1; omega)) (by rw [ob_N hK1 11 (b + 12) rfl rfl]; omega) (by rw [ob_N hK1 11 (b + 12) rfl rfl]; decide) dX1_allDustIn_26 ?_
  refine V_iadd C dX1_allDustIn_27 ?_
  refine V_aload_n C dX1_allDustIn_28 rfl ?_
  refine V_getR C fl_X1_21 (ob_K hK1) (ob_R hK1 11 (b + 12) rfl rfl) rfl dX1_allDustIn_29 ?_
  refine V_iload_n C dX1_allDustIn_32 rfl ?_
  refine V_iconst C (v := nI 3) dX1_allDustIn_33 (by decide +kernel) ?_
  refine V_iadd C dX1_allDustIn_34 ?_
  refine V_iald C (5 * r + 3) (ob_A hK1 11 (b + 12) rfl rfl) (by first | rfl | (simp only [nI_add, pk_mul]; done) | (simp only [nI_add, pk_mul]; congr 1; omega)) (by rw [ob_N hK1 11 (b + 12) rfl rfl]; omega) (by rw [ob_N hK1 11 (b + 12) rfl rfl]; decide) dX1_allDustIn_35 ?_
  refine V_iadd C dX1_allDustIn_36 ?_
  refine V_aload_n C dX1_allDustIn_37 rfl ?_
  refine V_getR C fl_X1_21 (ob_K hK1) (ob_R hK1 11 (b + 12) rfl rfl) rfl dX1_allDustIn_38 ?_
  refine V_iload_n C dX1_allDustIn_41 rfl ?_
  refine V_iconst C (v := nI 4) dX1_allDustIn_42 (by decide +kernel) ?_
  refine V_iadd C dX1_allDustIn_43 ?_
  refine V_iald C (5 * r + 4) (ob_A hK1 11 (b + 12) rfl rfl) (by first | rfl | (simp only [nI_add, pk_mul]; done) | (simp only [nI_add, pk_mul]; congr 1; omega)) (by rw [ob_N hK1 11 (b + 12) rfl rfl]; omega) (by rw [ob_N hK1 11 (b + 12) rfl rfl]; decide) dX1_allDustIn_44 ?_
  refine V_iadd C dX1_allDustIn_45 ?_
  exact V_iret C (Nat.zero_le _) (Nat.zero_le _) dX1_allDustIn_46 (hP _ _ _ ⟨by rw [← es], rfl, rfl⟩)
theorem CD.aD (h : CD I J b D) {r : Nat} (hr : r < 12) : iSum (I (b + 12)) (5 * r) 5 = aD D r := iSum_congr (fun i hi => h.2.2.1 _ (by omega))
set_option maxRecDepth 100000 in
set_option maxHeartbeats 1000000 in
theorem c_wayFrom (hK : Dk S b) (hC : CD I J b D) (hD : rOk D) {r : Nat} (hr : r < rgD D) : Mn l yX1_wayFrom cX1_wayFrom 6 (some .int) 0 [.ref b, .int (nI r)] S I J (fun v I' J' => v = some (.int (nI r + wayD D r)) ∧ I' = I ∧ J' = J) := by
  refine Mn.of (by decide) (fun ad => by simp [lg_sl, vv, Value.category]) (fun X P hP hn C => ?_)
  have hK1 := hK.1
  have h12 := hD.2.2.1
  have e0 : I b 0 = nI (rgD D) := hC.1.1.trans hD.1
  have eg : ∀ k, k < 12 → I (b + 9) k = D 1 k := fun k hk => (hC.2.1 k hk).1
  have ep : I b 2 = D 0 2 := hC.1.2.2.1
  -- behind the place outside
  have fin : ∀ (best way x4 : Int32), best = (if inD D r ≤ D 1 r then D 1 r else inD D r) → way = nI r + (if inD D r ≤ D 1 r then nI 0 else -1) → V X P 0 0 67 [some (.ref b), some (.int (nI r)), some (.int best), some (.int way), some (.int x4), some (.int (outD D r))] [] S I J := by
    intro best way x4 hb hw
    refine V_iload C dX1_wayFrom_67 rfl ?_
    refine V_iload_n C dX1_wayFrom_69 rfl ?_
    refine V_icmp_le C 77 dX1_wayFrom_70 (by decide) (fun h70 => ?_) (fun h70 => ?_)
    · refine V_iload_n C dX1_wayFrom_77 rfl ?_
      exact V_iret C (Nat.zero_le _) (Nat.zero_le _) dX1_wayFrom_78 (hP _ _ _ ⟨by first | (rw [wayD, if_pos (by rw [← hb]; exact h70), ← hw]) | (rw [wayD, if_neg (by rw [← hb]; exact h70)]), rfl, rfl⟩)
    · refine V_iload_n C dX1_wayFrom_73 rfl ?_
      refine V_iconst C (v := nI 1) dX1_wayFrom_74 (by decide +kernel) ?_
      refine V_iadd C dX1_wayFrom_75 ?_
      refine V_istore_n C dX1_wayFrom_76 (hn _ (by decide)) ?_
      refine V_iload_n C dX1_wayFrom_77 rfl ?_
      exact V_iret C (Nat.zero_le _) (Nat.zero_le _) dX1_wayFrom_78 (hP _ _ _ ⟨by first | (rw [wayD, if_pos (by rw [← hb]; exact h70), ← hw]) | (rw [wayD, if_neg (by rw [← hb]; exact h70)]), rfl, rfl⟩)
  have mid : ∀ (best way : Int32), best = (if inD D r ≤ D 1 r then D 1 r else inD D r) → way = nI r + (if inD D r ≤ D 1 r then nI 0 else -1) → V X P 0 0 43 [some (.ref b), some (.int (nI r)), some (.int best), some (.int way), some (.int (inD D r)), none] [] S I J := by
    intro best way hb hw
    have f := fin best way (inD D r) hb hw
    by_cases hl : r + 1 = rgD D
    · have eo : outD D r = nI 0 := by unfold outD; rw [hD.1, pk_sub (by omega), if_pos (by rw [← hl]; rfl)]
      rw [eo] at f
      refine V_iload_n C dX1_wayFrom_43 rfl ?_
      refine V_iconst C (v := nI 1) dX1_wayFrom_44 (by decide +kernel) ?_
      refine V_iadd C dX1_wayFrom_45 ?_
      refine V_aload_n C dX1_wayFrom_46 rfl ?_
      refine V_getI C fl_X1_35 (ob_K hK1) rfl dX1_wayFrom_47 ?_
      refine V_icmp_ge C 64 dX1_wayFrom_50 (by decide) (fun h50 => ?_) (fun h50 => absurd (by rw [e0, nI_add, hl]; exact Int32.le_refl _) h50)
      refine V_iconst C (v := nI 0) dX1_wayFrom_64 (by decide +kernel) ?_
      refine V_istore C dX1_wayFrom_65 (hn _ (by decide)) ?_
      exact f
    · have eo : outD D r = D 1 (r + 1) := by
        unfold outD
        rw [hD.1, pk_sub (by omega), if_neg (fun q => by have := (nI_eq (by omega) (by omega)).mp q; omega)]
      rw [eo, ← eg (r + 1) (by omega)] at f
      refine V_iload_n C dX1_wayFrom_43 rfl ?_
      refine V_iconst C (v := nI 1) dX1_wayFrom_44 (by decide +kernel) ?_
      refine V_iadd C dX1_wayFrom_45 ?_
      refine V_aload_n C dX1_wayFrom_46 rfl ?_
      refine V_getI C fl_X1_35 (ob_K hK1) rfl dX1_wayFrom_47 ?_
      refine V_icmp_ge C 64 dX1_wayFrom_50 (by decide) (fun h50 => absurd h50 (by rw [e0, nI_add]; exact nI_ge (by omega) (by omega))) (fun h50 => ?_)
      refine V_aload_n C dX1_wayFrom_53 rfl ?_
      refine V_getR C fl_X1_9 (ob_K hK1) (ob_R hK1 8 (b + 9) rfl rfl) rfl dX1_wayFrom_54 ?_
      refine V_iload_n C dX1_wayFrom_57 rfl ?_
      refine V_iconst C (v := nI 1) dX1_wayFrom_58 (by decide +kernel) ?_
      refine V_iadd C dX1_wayFrom_59 ?_
      refine V_iald C (r + 1) (ob_A hK1 8 (b + 9) rfl rfl) (by first | rfl | (simp only [nI_add, pk_mul]; done) | (simp only [nI_add, pk_mul]; congr 1; omega)) (by rw [ob_N hK1 8 (b + 9) rfl rfl]; omega) (by rw [ob_N hK1 8 (b + 9) rfl rfl]; decide) dX1_wayFrom_60 ?_
      refine V_goto C 65 dX1_wayFrom_61 (by decide) ?_
      refine V_istore C dX1_wayFrom_65 (hn _ (by decide)) ?_
      exact f
  have m28 : V X P 0 0 28 [some (.ref b), some (.int (nI r)), some (.int (D 1 r)), some (.int (nI r)), none, none] [.int (inD D r)] S I J := by
    by_cases hi : inD D r ≤ D 1 r
    · have m := mid (D 1 r) (nI r) (by rw [if_pos hi]) (by rw [if_pos hi]; exact (Int32.add_zero _).symm)
      refine V_istore C dX1_wayFrom_28 (hn _ (by decide)) ?_
      refine V_iload C dX1_wayFrom_30 rfl ?_
      refine V_iload_n C dX1_wayFrom_32 rfl ?_
      refine V_icmp_le C 43 dX1_wayFrom_33 (by decide) (fun h33 => ?_) (fun h33 => absurd (hi) h33)
      exact m
    · have m := mid (inD D r) (nI r - nI 1) (by rw [if_neg hi]) (by rw [if_neg hi, Int32.sub_eq_add_neg, show -nI 1 = (-1 : Int32) by decide])
      refine V_istore C dX1_wayFrom_28 (hn _ (by decide)) ?_
      refine V_iload C dX1_wayFrom_30 rfl ?_
      refine V_iload_n C dX1_wayFrom_32 rfl ?_
      refine V_icmp_le C 43 dX1_wayFrom_33 (by decide) (fun h33 => absurd h33 (hi)) (fun h33 => ?_)
      refine V_iload C dX1_wayFrom_36 rfl ?_
      refine V_istore_n C dX1_wayFrom_38 (hn _ (by decide)) ?_
      refine V_iload_n C dX1_wayFrom_39 rfl ?_
      refine V_iconst C (v := nI 1) dX1_wayFrom_40 (by decide +kernel) ?_
      refine V_isub C dX1_wayFrom_41 ?_
      refine V_istore_n C dX1_wayFrom_42 (hn _ (by decide)) ?_
      exact m
  have ein : inD D r = if nI r = 0 then D 0 2 else D 1 (r - 1) := rfl
  refine V_aload_n C dX1_wayFrom_0 rfl ?_
  refine V_getR C fl_X1_9 (ob_K hK1) (ob_R hK1 8 (b + 9) rfl rfl) rfl dX1_wayFrom_1 ?_
  refine V_iload_n C dX1_wayFrom_4 rfl ?_
  refine V_iald C (r) (ob_A hK1 8 (b + 9) rfl rfl) (by first | rfl | (simp only [nI_add, pk_mul]; done) | (simp only [nI_add, pk_mul]; congr 1; omega)) (by rw [ob_N hK1 8 (b + 9) rfl rfl]; omega) (by rw [ob_N hK1 8 (b + 9) rfl rfl]; decide) dX1_wayFrom_5 ?_
  rw [eg r (by omega)]
  refine V_istore_n C dX1_wayFrom_6 (hn _ (by decide)) ?_
  refine V_iload_n C dX1_wayFrom_7 rfl ?_
  refine V_istore_n C dX1_wayFrom_8 (hn _ (by decide)) ?_
  refine V_iload_n C dX1_wayFrom_9 rfl ?_
  refine V_if_ne C 20 dX1_wayFrom_10 (by decide) (fun h10 => ?_) (fun h10 => ?_)
  · refine V_aload_n C dX1_wayFrom_20 rfl ?_
    refine V_getR C fl_X1_9 (ob_K hK1) (ob_R hK1 8 (b + 9) rfl rfl) rfl dX1_wayFrom_21 ?_
    refine V_iload_n C dX1_wayFrom_24 rfl ?_
    refine V_iconst C (v := nI 1) dX1_wayFrom_25 (by decide +kernel) ?_
    refine V_isub C dX1_wayFrom_26 ?_
    refine V_iald C (r - 1) (ob_A hK1 8 (b + 9) rfl rfl) (pk_sub (Nat.pos_of_ne_zero (fun q => h10 (by rw [q]; rfl)))) (by rw [ob_N hK1 8 (b + 9) rfl rfl]; omega) (by rw [ob_N hK1 8 (b + 9) rfl rfl]; decide) dX1_wayFrom_27 ?_
    first | (rw [ein, if_pos h10] at m28; rw [ep]; exact m28) | (rw [ein, if_neg h10] at m28; rw [eg (r - 1) (by omega)]; exact m28)
  · refine V_aload_n C dX1_wayFrom_13 rfl ?_
    refine V_getI C fl_X1_54 (ob_K hK1) rfl dX1_wayFrom_14 ?_
    refine V_goto C 28 dX1_wayFrom_17 (by decide) ?_
    first | (rw [ein, if_pos h10] at m28; rw [ep]; exact m28) | (rw [ein, if_neg h10] at m28; rw [eg (r - 1) (by omega)]; exact m28)
set_option maxRecDepth 100000 in
theorem c_isTrap (hK : Dk S b) (hC : CD I J b D) (hD : rOk D) {r : Nat} (hr : r < rgD D) : Mn l yX1_isTrap cX1_isTrap 2 (some .boolean) 1 [.ref b, .int (nI r)] S I J (fun v I' J' => v = some (.int (bI (wayD D r = 0))) ∧ I' = I ∧ J' = J) := by
  refine Mn.of (by decide) (fun ad => by simp [lg_sl, vv, Value.category]) (fun X P hP hn C => ?_)
  have hK1 := hK.1
  have e : nI r + wayD D r = nI r ↔ wayD D r = 0 := Int32.add_eq_left
  refine V_aload_n C dX1_isTrap_0 rfl ?_
  refine V_iload_n C dX1_isTrap_1 rfl ?_
  refine V_callV (F := fun _ => True) C (c_wayFrom hK hC hD hr) mi_X1_wayFrom ml_X1_75 rfl (ob_K hK1) (by decide) (by decide) (by decide) (Nat.le_of_ble_eq_true rfl) (fun _ _ => trivial) (fun v _ => clo_T v) rfl dX1_isTrap_2 ?_
  rintro v S' I' J' ⟨hS9, rfl, hI9, hJ9⟩
  obtain rfl := hS9.symm
  obtain rfl := hI9.symm
  obtain rfl := hJ9.symm
  refine V_iload_n C dX1_isTrap_5 rfl ?_
  refine V_icmp_ne C 13 dX1_isTrap_6 (by decide) (fun h6 => ?_) (fun h6 => ?_)
  · refine V_iconst C (v := nI 0) dX1_isTrap_13 (by decide +kernel) ?_
    exact V_zret C (by first | exact Or.inl rfl | exact Or.inr rfl | (simp only [bI]; split <;> first | exact Or.inl rfl | exact Or.inr rfl) | assumption) (Nat.zero_le _) (Nat.zero_le _) dX1_isTrap_14 (hP _ _ _ ⟨by first | (rw [bI_f (fun q => h6 (e.mpr q))]; rfl) | (rw [bI_t (e.mp h6)]; rfl), rfl, rfl⟩)
  · refine V_iconst C (v := nI 1) dX1_isTrap_9 (by decide +kernel) ?_
    refine V_goto C 14 dX1_isTrap_10 (by decide) ?_
    exact V_zret C (by first | exact Or.inl rfl | exact Or.inr rfl | (simp only [bI]; split <;> first | exact Or.inl rfl | exact Or.inr rfl) | assumption) (Nat.zero_le _) (Nat.zero_le _) dX1_isTrap_14 (hP _ _ _ ⟨by first | (rw [bI_f (fun q => h6 (e.mpr q))]; rfl) | (rw [bI_t (e.mp h6)]; rfl), rfl, rfl⟩)
theorem wi_isR {x m : Int32} {n : Nat} (h1 : m = nI n) (h0 : 0 < n) (h2 : n < 2 ^ 31) : wi x (nI 0) (m - nI 1) ↔ (0 ≤ x ∧ x < m) := by
  have e : m - nI 1 = nI (n - 1) := by rw [h1, pk_sub h0]
  unfold wi
  rw [e, h1]
  refine and_congr Iff.rfl ?_
  rw [Int32.le_iff_toInt_le, Int32.lt_iff_toInt_lt, nI_toInt (by omega), nI_toInt h2]
  omega
theorem wi_isL {x m : Int32} {n : Nat} (h1 : m = nI n) (h2 : n < 2 ^ 31) : wi x (nI 0) (m - nI 1) ↔ (0 ≤ x ∧ x < m) := by
  cases n with
  | zero =>
    have e : m - nI 1 = -1 := by rw [h1]; decide
    unfold wi
    rw [e, h1]
    constructor
    · intro q
      exact absurd (Int32.le_trans q.1 q.2) (by decide)
    · intro q
      exact absurd (Int32.lt_of_le_of_lt q.1 q.2) (by decide)
  | succ n => exact wi_isR h1 (by omega) h2
set_option maxRecDepth 100000 in
theorem c_isRing (hK : Dk S b) (hC : CD I J b D) (hD : rOk D) (r : Int32) : Mn l yX1_isRing cX1_isRing 2 (some .boolean) 1 [.ref b, .int r] S I J (fun v I' J' => v = some (.int (bI (isR D r))) ∧ I' = I ∧ J' = J) := by
  refine Mn.of (by decide) (fun ad => by simp [lg_sl, vv, Value.category]) (fun X P hP hn C => ?_)
  have hK1 := hK.1
  have h12 := hD.2.2.1
  have e : bI (wi r (nI 0) (I b 0 - nI 1)) = bI (isR D r) := by
    have h := wi_isL (x := r) (m := I b 0) (n := rgD D) (hC.1.1.trans hD.1) (by omega)
    rw [hC.1.1] at h ⊢
    by_cases q : isR D r
    · rw [bI_t q, bI_t (h.mpr q)]
    · rw [bI_f q, bI_f (fun p => q (h.mp p))]
  refine V_iload_n C dX1_isRing_0 rfl ?_
  refine V_iconst C (v := nI 0) dX1_isRing_1 (by decide +kernel) ?_
  refine V_aload_n C dX1_isRing_2 rfl ?_
  refine V_getI C fl_X1_35 (ob_K hK1) rfl dX1_isRing_3 ?_
  refine V_iconst C (v := nI 1) dX1_isRing_6 (by decide +kernel) ?_
  refine V_isub C dX1_isRing_7 ?_
  refine V_callSN (F := fun _ => True) C (m_isW _ _ _) ms_X6_isWithin (fun q => q.1) rfl (by decide) (by decide) (Nat.le_of_ble_eq_true rfl) (fun _ _ => trivial) (fun v _ => clo_T v) rfl dX1_isRing_8 ?_
  rintro v S' I' J' ⟨hS9, rfl, hI9, hJ9⟩
  obtain rfl := hS9.symm
  obtain rfl := hI9.symm
  obtain rfl := hJ9.symm
  rw [e]
  exact V_zret C (by first | exact Or.inl rfl | exact Or.inr rfl | (simp only [bI]; split <;> first | exact Or.inl rfl | exact Or.inr rfl) | assumption) (Nat.zero_le _) (Nat.zero_le _) dX1_isRing_11 (hP _ _ _ ⟨rfl, rfl, rfl⟩)
set_option maxRecDepth 100000 in
theorem c_isLump (hK : Dk S b) (hC : CD I J b D) (hD : rOk D) (r : Int32) : Mn l yX1_isLump cX1_isLump 2 (some .boolean) 1 [.ref b, .int r] S I J (fun v I' J' => v = some (.int (bI (isL D r))) ∧ I' = I ∧ J' = J) := by
  refine Mn.of (by decide) (fun ad => by simp [lg_sl, vv, Value.category]) (fun X P hP hn C => ?_)
  have hK1 := hK.1
  have h30 := hD.2.2.2.2.1
  have e6 : I b 6 = D 0 6 := hC.1.2.2.2.2.1
  have e : bI (wi r (nI 0) (I b 6 - nI 1)) = bI (isL D r) := by
    have h := wi_isL (x := r) (m := I b 6) (n := cmD D) (e6.trans hD.2.2.2.1) (by omega)
    rw [e6] at h ⊢
    by_cases q : isL D r
    · rw [bI_t q, bI_t (h.mpr q)]
    · rw [bI_f q, bI_f (fun p => q (h.mp p))]
  refine V_iload_n C dX1_isLump_0 rfl ?_
  refine V_iconst C (v := nI 0) dX1_isLump_1 (by decide +kernel) ?_
  refine V_aload_n C dX1_isLump_2 rfl ?_
  refine V_getI C fl_X1_45 (ob_K hK1) rfl dX1_isLump_3 ?_
  refine V_iconst C (v := nI 1) dX1_isLump_6 (by decide +kernel) ?_
  refine V_isub C dX1_isLump_7 ?_
  refine V_callSN (F := fun _ => True) C (m_isW _ _ _) ms_X6_isWithin (fun q => q.1) rfl (by decide) (by decide) (Nat.le_of_ble_eq_true rfl) (fun _ _ => trivial) (fun v _ => clo_T v) rfl dX1_isLump_8 ?_
  rintro v S' I' J' ⟨hS9, rfl, hI9, hJ9⟩
  obtain rfl := hS9.symm
  obtain rfl := hI9.symm
  obtain rfl := hJ9.symm
  rw [e]
  exact V_zret C (by first | exact Or.inl rfl | exact Or.inr rfl | (simp only [bI]; split <;> first | exact Or.inl rfl | exact Or.inr rfl) | assumption) (Nat.zero_le _) (Nat.zero_le _) dX1_isLump_11 (hP _ _ _ ⟨rfl, rfl, rfl⟩)
end C2
