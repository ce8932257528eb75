/-! what a call answers and leaves; the reference's calls that tell -/
section M18
variable {l : Launch} {S : HS} {I I' : HI} {J J' : HJ} {z : SV}
abbrev wi (v lo hi : Int32) : Prop := lo ≤ v ∧ v ≤ hi
abbrev cl (v : Int32) : Nat := v.toNatClampNeg
def setD (z : SV) (D : DV) : SV := ((D, z.1.2), z.2)
def setQ (z : SV) (q : QV) : SV := (q, z.2)
abbrev okRings (z : SV) (n : Int32) : Prop := ¬ 0 < z.1.1 0 1 ∧ wi n (nI 2) (nI 12)
def nRings (z : SV) (n : Int32) : SV := if okRings z n then setQ z (clD n z.1.1, 0, 0) else z
abbrev okRing (z : SV) (r g w p : Int32) : Prop := ¬ 0 < z.1.1 0 1 ∧ isR z.1.1 r ∧ wi g (nI 0) 99999 ∧ wi w (nI 0) (nI 999) ∧ wi p (nI 1) (nI 9999)
def nRing (z : SV) (r g w p : Int32) : SV := if okRing z r g w p then setD z (up2 (up2 (up2 z.1.1 1 (cl r) g) 2 (cl r) w) 3 (cl r) p) else z
abbrev okDust (z : SV) (r s n : Int32) : Prop := ¬ 0 < z.1.1 0 1 ∧ isR z.1.1 r ∧ wi s (nI 0) (nI 4) ∧ wi n (nI 0) 99999
def nDust (z : SV) (r s n : Int32) : SV := if okDust z r s n then setD z (up2 z.1.1 4 (5 * cl r + cl s) n) else z
abbrev okStar (p l s : Int32) : Prop := wi p (nI 0) 99999 ∧ wi l (nI 0) (nI 20) ∧ wi s (nI 1) (nI 101)
def nStar (z : SV) (p l s : Int32) : SV := if okStar p l s then ((up2 z.1.1 0 2 p, z.1.2), z.2.1, (z.2.2.1.1, z.2.2.1.2.1, cl l, s), z.2.2.2) else z
def nSeed (z : SV) (g : Int32) : SV := if 0 ≤ g then setD z (up2 z.1.1 0 3 g) else z
def nEnd (z : SV) (g : Int32) : SV := if isE z g then (z.1, z.2.1, (z.2.2.1.1, g, z.2.2.1.2.2), z.2.2.2) else z
abbrev okSteps (z : SV) (n : Int32) : Prop := wi n (nI 1) (nI 100) ∧ z.1.1 0 1 + n ≤ nI 9999
def nSteps (z : SV) (n : Int32) : SV := if okSteps z n then setQ z (itN (stZ z z.2.2.1.2.1) (cl n) z.1) else z
def aSteps (z : SV) (n : Int32) : Int32 := if okSteps z n then (nSteps z n).1.1 0 1 else -1
theorem RefR.st0 (h : RefR z I J) : I 1034 0 = z.1.1 0 1 := by rw [← h.d]; rfl
theorem isR_ex {D : DV} {r : Int32} (h : isR D r) (hD : rOk D) : ∃ k, k < rgD D ∧ k < 12 ∧ r = nI k := by
  obtain ⟨h1, h2⟩ := h
  rw [hD.1] at h2
  have := hD.2.2.1
  rcases pk_ix r (n := rgD D) (by omega) with q | q | ⟨j, h3, h4⟩
  · exact absurd q (Int32.not_lt.mpr h1)
  · exact absurd h2 (Int32.not_lt.mpr q)
  · exact ⟨j, h3, by omega, h4⟩
theorem wi_ex {x : Int32} {n : Nat} (hn : n < 2 ^ 31) (h : wi x (nI 0) (nI n)) : ∃ k, k ≤ n ∧ x = nI k := nI_of2 (nI_toInt hn) (Int32.not_lt.mpr h.1) h.2
theorem RefR.fr0 {q : QV} (h : RefR z I J) (f : Fr 0 I J I' J') (e : refQ I' J' 0 = q) (hc : cmD q.1 ≤ 30) : RefR (setQ z q) I' J' := by
  obtain ⟨h1, h2, h3, h4, h5, h6, h7, h8, h9, h10, h11⟩ := h
  have ed : refD I' J' 0 = q.1 := congrArg Prod.fst e
  have k1 : ∀ c, I' 1000 c = I 1000 c := fun c => by rw [f.1 1000 (by omega)]
  have k3 : ∀ m, m < 6 → refQ I' J' (1 + m) = refQ I J (1 + m) := fun m hm => by unfold refQ; rw [f.2.1 (1 + m) (by omega) (by omega), (f.2.2.2 (1 + m) (by omega)).1, (f.2.2.2 (1 + m) (by omega)).2]
  exact ⟨e, f.cm h2 (by rw [ed]; exact hc), fun m hm => mkR_cg (f.1 1052 (by omega)) (k3 m hm) (h3 m hm), RL_cg (k1 10) (fun a g1 g2 => f.1 a (by omega)) h4, opR_cg (k1 10) (f.1 1019 (by omega)) h5, by rw [k1 24]; exact h6, by rw [k1 44]; exact h7, by rw [k1 45]; exact h8, tpR_cg (k1 2) (f.1 1002 (by omega)) h9, tdR_cg (k1 48) (f.1 1050 (by omega)) (f.1 1051 (by omega)) h10, fun i hi => by rw [f.2.2.1 1010 (by omega) (by omega)]; exact h11 i hi⟩
theorem RefR.d0 {D : DV} (h : RefR z I J) (f : Fr 0 I J I' J) (e : refD I' J 0 = D) (hc : cmD D ≤ 30) : RefR (setD z D) I' J := by
  refine h.fr0 (q := (D, z.1.2)) f ?_ hc
  have h1 := h.1
  unfold refQ at h1 ⊢
  rw [e, ← h1]
theorem RefR.zr (h : RefR z I J) : RefR z (up2 I 1000 0 (nI 0)) J := h.kp (Kp.o (Or.inl rfl))
set_option maxRecDepth 100000 in
theorem m_rings (hM : Ob S 7 1000) (hR : RefR z I J) (n : Int32) : Mn l yX7_rings cX7_rings 2 (some .boolean) 1 [.ref 1000, .int n] S I J (fun v I' J' => v = some (.int (bI (okRings z n))) ∧ RefR (nRings z n) I' J') := by
  refine Mn.of (by decide) (fun ad => by simp [lg_sl, vv, Value.category]) (fun X P hP hn C => ?_)
  have key : ∀ I0, RefR z I0 J → V X P 0 0 5 [some (.ref 1000), some (.int n)] [] S I0 J := by
    intro I0 hR
    have es := hR.st0
    refine V_aload_n C dX7_rings_5 rfl ?_
    refine V_getR C fl_X7_137 (ob_K hM) (ob_R hM 33 1034 rfl rfl) rfl dX7_rings_6 ?_
    refine V_iconst C (v := nI 0) dX7_rings_9 (by decide +kernel) ?_
    refine V_iald C (0) (ob_A hM 33 1034 rfl rfl) (by first | rfl | (simp only [nI_add, pk_mul]; done) | (simp only [nI_add, pk_mul]; congr 1; omega)) (by rw [ob_N hM 33 1034 rfl rfl]; omega) (by rw [ob_N hM 33 1034 rfl rfl]; decide) dX7_rings_10 ?_
    rw [es]
    refine V_if_gt C 24 dX7_rings_11 (by decide) (fun h11 => ?_) (fun h11 => ?_)
    · refine V_iconst C (v := nI 0) dX7_rings_24 (by decide +kernel) ?_
      exact V_zret C (by first | exact Or.inl rfl | exact Or.inr rfl | (simp only [bI]; split <;> first | exact Or.inl rfl | exact Or.inr rfl) | assumption) (Nat.zero_le _) (Nat.zero_le _) dX7_rings_25 (hP _ _ _ (by have no : ¬ okRings z n := (by first | exact fun q => q.1 h11 | exact fun q => (bI_0.mp h21) q.2); exact ⟨by rw [bI_f no]; rfl, by rw [nRings, if_neg no]; exact hR⟩))
    · refine V_iload_n C dX7_rings_14 rfl ?_
      refine V_iconst C (v := nI 2) dX7_rings_15 (by decide +kernel) ?_
      refine V_bipush C (v := nI 12) dX7_rings_16 (by decide +kernel) ?_
      refine V_callS (F := fun _ => True) C (m_within _ _ _) ms_X7_within ml_X7_301 rfl (by decide) (by decide) (Nat.le_of_ble_eq_true rfl) (fun _ _ => trivial) (fun v _ => clo_T v) rfl dX7_rings_18 ?_
      rintro v S' I' J' ⟨hS, rfl, hI, hJ⟩
      obtain rfl := hS.symm
      obtain rfl := hI.symm
      obtain rfl := hJ.symm
      refine V_if_ne C 26 dX7_rings_21 (by decide) (fun h21 => ?_) (fun h21 => ?_)
      · refine V_aload_n C dX7_rings_26 rfl ?_
        refine V_iload_n C dX7_rings_27 rfl ?_
        refine V_callV (F := fun _ => True) C (m_clears hM n) mi_X7_clears ml_X7_186 rfl (ob_K hM) (by decide) (by decide) (by decide) (Nat.le_of_ble_eq_true rfl) (fun _ _ => trivial) (fun v _ => clo_T v) rfl dX7_rings_28 ?_
        rintro v S' I2 J2 ⟨hS, rfl, e, f⟩
        obtain rfl := hS.symm
        have ok : okRings z n := ⟨h11, Decidable.not_not.mp (fun q => h21 (bI_0.mpr q))⟩
        refine V_iconst C (v := nI 1) dX7_rings_31 (by decide +kernel) ?_
        exact V_zret C (by first | exact Or.inl rfl | exact Or.inr rfl | (simp only [bI]; split <;> first | exact Or.inl rfl | exact Or.inr rfl) | assumption) (Nat.zero_le _) (Nat.zero_le _) dX7_rings_32 (hP _ _ _ ⟨by rw [bI_t ok]; rfl, by rw [nRings, if_pos ok]; exact hR.fr0 f (by rw [e, hR.d]) (by show (0 : Int32).toNatClampNeg ≤ 30; decide)⟩)
      · refine V_iconst C (v := nI 0) dX7_rings_24 (by decide +kernel) ?_
        exact V_zret C (by first | exact Or.inl rfl | exact Or.inr rfl | (simp only [bI]; split <;> first | exact Or.inl rfl | exact Or.inr rfl) | assumption) (Nat.zero_le _) (Nat.zero_le _) dX7_rings_25 (hP _ _ _ (by have no : ¬ okRings z n := (by first | exact fun q => q.1 h11 | exact fun q => (bI_0.mp h21) q.2); exact ⟨by rw [bI_f no]; rfl, by rw [nRings, if_neg no]; exact hR⟩))
  refine V_aload_n C dX7_rings_0 rfl ?_
  refine V_iconst C (v := nI 0) dX7_rings_1 (by decide +kernel) ?_
  refine V_putI C fl_X7_1 (ob_K hM) rfl rfl dX7_rings_2 ?_
  exact key _ hR.zr
theorem cm_up {D : DV} {a j : Nat} {v : Int32} (h : a ≠ 0) : cmD (up2 D a j v) = cmD D := by unfold cmD; rw [up2_ne _ _ _ (fun e => h e.symm)]
set_option maxRecDepth 100000 in
theorem m_ring (hM : Ob S 7 1000) (hR : RefR z I J) (hO : OkR z) (r g w p : Int32) : Mn l yX7_ring cX7_ring 5 (some .boolean) 1 [.ref 1000, .int r, .int g, .int w, .int p] S I J (fun v I' J' => v = some (.int (bI (okRing z r g w p))) ∧ RefR (nRing z r g w p) I' J') := by
  refine Mn.of (by decide) (fun ad => by simp [lg_sl, vv, Value.category]) (fun X P hP hn C => ?_)
  have key : ∀ I0, RefR z I0 J → V X P 0 0 5 [some (.ref 1000), some (.int r), some (.int g), some (.int w), some (.int p)] [] S I0 J := by
    intro I0 hR
    have es := hR.st0
    have last : okRing z r g w p → V X P 0 0 57 [some (.ref 1000), some (.int r), some (.int g), some (.int w), some (.int p)] [] S I0 J := by
      intro ok
      obtain ⟨k, hk, hk2, ek⟩ := isR_ex ok.2.1 hO.1.1
      have ec : cl r = k := by rw [ek]; exact nI_clamp (by omega)
      have f1 : Fr 0 I0 J (up2 I0 1028 k g) J := by have := Fr.Gas (b := 0) (I := I0) (J := J) (v := g) hk2; rw [Nat.mul_zero, Nat.zero_add] at this; exact this
      have f2 : Fr 0 (up2 I0 1028 k g) J (up2 (up2 I0 1028 k g) 1029 k w) J := by have := Fr.Warm (b := 0) (I := up2 I0 1028 k g) (J := J) (v := w) hk2; rw [Nat.mul_zero, Nat.zero_add] at this; exact this
      have f3 : Fr 0 (up2 (up2 I0 1028 k g) 1029 k w) J (up2 (up2 (up2 I0 1028 k g) 1029 k w) 1030 k p) J := by have := Fr.Per (b := 0) (I := up2 (up2 I0 1028 k g) 1029 k w) (J := J) (v := p) hk2; rw [Nat.mul_zero, Nat.zero_add] at this; exact this
      have e1 := rGas (b := 0) (I := I0) (J := J) (v := g) hk2
      have e2 := rWarm (b := 0) (I := up2 I0 1028 k g) (J := J) (v := w) hk2
      have e3 := rPer (b := 0) (I := up2 (up2 I0 1028 k g) 1029 k w) (J := J) (v := p) hk2
      rw [Nat.mul_zero, Nat.zero_add] at e1 e2 e3
      rw [e2, e1] at e3
      have fin := hR.d0 ((f1.tr f2).tr f3) e3 (by rw [cm_up (by decide), cm_up (by decide), cm_up (by decide)]; exact hR.2.1 0 (by omega))
      rw [hR.d] at fin
      refine V_aload_n C dX7_ring_57 rfl ?_
      refine V_getR C fl_X7_119 (ob_K hM) (ob_R hM 27 1028 rfl rfl) rfl dX7_ring_58 ?_
      refine V_iload_n C dX7_ring_61 rfl ?_
      refine V_iload_n C dX7_ring_62 rfl ?_
      refine V_iast C (k) (ob_A hM 27 1028 rfl rfl) ek (by rw [ob_N hM 27 1028 rfl rfl]; omega) (by rw [ob_N hM 27 1028 rfl rfl]; decide) dX7_ring_63 ?_
      refine V_aload_n C dX7_ring_64 rfl ?_
      refine V_getR C fl_X7_122 (ob_K hM) (ob_R hM 28 1029 rfl rfl) rfl dX7_ring_65 ?_
      refine V_iload_n C dX7_ring_68 rfl ?_
      refine V_iload_n C dX7_ring_69 rfl ?_
      refine V_iast C (k) (ob_A hM 28 1029 rfl rfl) ek (by rw [ob_N hM 28 1029 rfl rfl]; omega) (by rw [ob_N hM 28 1029 rfl rfl]; decide) dX7_ring_70 ?_
      refine V_aload_n C dX7_ring_71 rfl ?_
      refine V_getR C fl_X7_125 (ob_K hM) (ob_R hM 29 1030 rfl rfl) rfl dX7_ring_72 ?_
      refine V_iload_n C dX7_ring_75 rfl ?_
      refine V_iload C dX7_ring_76 rfl ?_
      refine V_iast C (k) (ob_A hM 29 1030 rfl rfl) ek (by rw [ob_N hM 29 1030 rfl rfl]; omega) (by rw [ob_N hM 29 1030 rfl rfl]; decide) dX7_ring_78 ?_
      refine V_iconst C (v := nI 1) dX7_ring_79 (by decide +kernel) ?_
      exact V_zret C (by first | exact Or.inl rfl | exact Or.inr rfl | (simp only [bI]; split <;> first | exact Or.inl rfl | exact Or.inr rfl) | assumption) (Nat.zero_le _) (Nat.zero_le _) dX7_ring_80 (hP _ _ _ ⟨by rw [bI_t ok]; rfl, by rw [nRing, if_pos ok, ec]; exact fin⟩)
    refine V_aload_n C dX7_ring_5 rfl ?_
    refine V_getR C fl_X7_137 (ob_K hM) (ob_R hM 33 1034 rfl rfl) rfl dX7_ring_6 ?_
    refine V_iconst C (v := nI 0) dX7_ring_9 (by decide +kernel) ?_
    refine V_iald C (0) (ob_A hM 33 1034 rfl rfl) (by first | rfl | (simp only [nI_add, pk_mul]; done) | (simp only [nI_add, pk_mul]; congr 1; omega)) (by rw [ob_N hM 33 1034 rfl rfl]; omega) (by rw [ob_N hM 33 1034 rfl rfl]; decide) dX7_ring_10 ?_
    rw [es]
    refine V_if_gt C 55 dX7_ring_11 (by decide) (fun h11 => ?_) (fun h11 => ?_)
    · refine V_iconst C (v := nI 0) dX7_ring_55 (by decide +kernel) ?_
      exact V_zret C (by first | exact Or.inl rfl | exact Or.inr rfl | (simp only [bI]; split <;> first | exact Or.inl rfl | exact Or.inr rfl) | assumption) (Nat.zero_le _) (Nat.zero_le _) dX7_ring_56 (hP _ _ _ (by have no : ¬ okRing z r g w p := (by first | exact fun q => q.1 h11 | exact fun q => (bI_0.mp h19) q.2.1 | exact fun q => (bI_0.mp h29) q.2.2.1 | exact fun q => (bI_0.mp h40) q.2.2.2.1 | exact fun q => (bI_0.mp h52) q.2.2.2.2); exact ⟨by rw [bI_f no]; rfl, by rw [nRing, if_neg no]; exact hR⟩))
    · refine V_aload_n C dX7_ring_14 rfl ?_
      refine V_iload_n C dX7_ring_15 rfl ?_
      refine V_callV (F := fun _ => True) C (m_isRing hM hR r) mi_X7_isRing ml_X7_305 rfl (ob_K hM) (by decide) (by decide) (by decide) (Nat.le_of_ble_eq_true rfl) (fun _ _ => trivial) (fun v _ => clo_T v) rfl dX7_ring_16 ?_
      rintro v S' I' J' ⟨hS, rfl, hI, hJ⟩
      obtain rfl := hS.symm
      obtain rfl := hI.symm
      obtain rfl := hJ.symm
      refine V_if_eq C 55 dX7_ring_19 (by decide) (fun h19 => ?_) (fun h19 => ?_)
      · refine V_iconst C (v := nI 0) dX7_ring_55 (by decide +kernel) ?_
        exact V_zret C (by first | exact Or.inl rfl | exact Or.inr rfl | (simp only [bI]; split <;> first | exact Or.inl rfl | exact Or.inr rfl) | assumption) (Nat.zero_le _) (Nat.zero_le _) dX7_ring_56 (hP _ _ _ (by have no : ¬ okRing z r g w p := (by first | exact fun q => q.1 h11 | exact fun q => (bI_0.mp h19) q.2.1 | exact fun q => (bI_0.mp h29) q.2.2.1 | exact fun q => (bI_0.mp h40) q.2.2.2.1 | exact fun q => (bI_0.mp h52) q.2.2.2.2); exact ⟨by rw [bI_f no]; rfl, by rw [nRing, if_neg no]; exact hR⟩))
      · refine V_iload_n C dX7_ring_22 rfl ?_
        refine V_iconst C (v := nI 0) dX7_ring_23 (by decide +kernel) ?_
        refine V_ldc C dX7_ring_24 kc_X7_252 ?_
        refine V_callS (F := fun _ => True) C (m_within _ _ _) ms_X7_within ml_X7_301 rfl (by decide) (by decide) (Nat.le_of_ble_eq_true rfl) (fun _ _ => trivial) (fun v _ => clo_T v) rfl dX7_ring_26 ?_
        rintro v S' I' J' ⟨hS, rfl, hI, hJ⟩
        obtain rfl := hS.symm
        obtain rfl := hI.symm
        obtain rfl := hJ.symm
        refine V_if_eq C 55 dX7_ring_29 (by decide) (fun h29 => ?_) (fun h29 => ?_)
        · refine V_iconst C (v := nI 0) dX7_ring_55 (by decide +kernel) ?_
          exact V_zret C (by first | exact Or.inl rfl | exact Or.inr rfl | (simp only [bI]; split <;> first | exact Or.inl rfl | exact Or.inr rfl) | assumption) (Nat.zero_le _) (Nat.zero_le _) dX7_ring_56 (hP _ _ _ (by have no : ¬ okRing z r g w p := (by first | exact fun q => q.1 h11 | exact fun q => (bI_0.mp h19) q.2.1 | exact fun q => (bI_0.mp h29) q.2.2.1 | exact fun q => (bI_0.mp h40) q.2.2.2.1 | exact fun q => (bI_0.mp h52) q.2.2.2.2); exact ⟨by rw [bI_f no]; rfl, by rw [nRing, if_neg no]; exact hR⟩))
        · refine V_iload_n C dX7_ring_32 rfl ?_
          refine V_iconst C (v := nI 0) dX7_ring_33 (by decide +kernel) ?_
          refine V_sipush C (v := nI 999) dX7_ring_34 (by decide +kernel) ?_
          refine V_callS (F := fun _ => True) C (m_within _ _ _) ms_X7_within ml_X7_301 rfl (by decide) (by decide) (Nat.le_of_ble_eq_true rfl) (fun _ _ => trivial) (fun v _ => clo_T v) rfl dX7_ring_37 ?_
          rintro v S' I' J' ⟨hS, rfl, hI, hJ⟩
          obtain rfl := hS.symm
          obtain rfl := hI.symm
          obtain rfl := hJ.symm
          refine V_if_eq C 55 dX7_ring_40 (by decide) (fun h40 => ?_) (fun h40 => ?_)
          · refine V_iconst C (v := nI 0) dX7_ring_55 (by decide +kernel) ?_
            exact V_zret C (by first | exact Or.inl rfl | exact Or.inr rfl | (simp only [bI]; split <;> first | exact Or.inl rfl | exact Or.inr rfl) | assumption) (Nat.zero_le _) (Nat.zero_le _) dX7_ring_56 (hP _ _ _ (by have no : ¬ okRing z r g w p := (by first | exact fun q => q.1 h11 | exact fun q => (bI_0.mp h19) q.2.1 | exact fun q => (bI_0.mp h29) q.2.2.1 | exact fun q => (bI_0.mp h40) q.2.2.2.1 | exact fun q => (bI_0.mp h52) q.2.2.2.2); exact ⟨by rw [bI_f no]; rfl, by rw [nRing, if_neg no]; exact hR⟩))
          · refine V_iload C dX7_ring_43 rfl ?_
            refine V_iconst C (v := nI 1) dX7_ring_45 (by decide +kernel) ?_
            refine V_sipush C (v := nI 9999) dX7_ring_46 (by decide +kernel) ?_
            refine V_callS (F := fun _ => True) C (m_within _ _ _) ms_X7_within ml_X7_301 rfl (by decide) (by decide) (Nat.le_of_ble_eq_true rfl) (fun _ _ => trivial) (fun v _ => clo_T v) rfl dX7_ring_49 ?_
            rintro v S' I' J' ⟨hS, rfl, hI, hJ⟩
            obtain rfl := hS.symm
            obtain rfl := hI.symm
            obtain rfl := hJ.symm
            refine V_if_ne C 57 dX7_ring_52 (by decide) (fun h52 => ?_) (fun h52 => ?_)
            · exact last ⟨h11, Decidable.not_not.mp (fun q => h19 (bI_0.mpr q)), Decidable.not_not.mp (fun q => h29 (bI_0.mpr q)), Decidable.not_not.mp (fun q => h40 (bI_0.mpr q)), Decidable.not_not.mp (fun q => h52 (bI_0.mpr q))⟩
            · refine V_iconst C (v := nI 0) dX7_ring_55 (by decide +kernel) ?_
              exact V_zret C (by first | exact Or.inl rfl | exact Or.inr rfl | (simp only [bI]; split <;> first | exact Or.inl rfl | exact Or.inr rfl) | assumption) (Nat.zero_le _) (Nat.zero_le _) dX7_ring_56 (hP _ _ _ (by have no : ¬ okRing z r g w p := (by first | exact fun q => q.1 h11 | exact fun q => (bI_0.mp h19) q.2.1 | exact fun q => (bI_0.mp h29) q.2.2.1 | exact fun q => (bI_0.mp h40) q.2.2.2.1 | exact fun q => (bI_0.mp h52) q.2.2.2.2); exact ⟨by rw [bI_f no]; rfl, by rw [nRing, if_neg no]; exact hR⟩))
  refine V_aload_n C dX7_ring_0 rfl ?_
  refine V_iconst C (v := nI 0) dX7_ring_1 (by decide +kernel) ?_
  refine V_putI C fl_X7_1 (ob_K hM) rfl rfl dX7_ring_2 ?_
  exact key _ hR.zr
set_option maxRecDepth 100000 in
theorem m_dust (hM : Ob S 7 1000) (hR : RefR z I J) (hO : OkR z) (r s n : Int32) : Mn l yX7_dust cX7_dust 4 (some .boolean) 1 [.ref 1000, .int r, .int s, .int n] S I J (fun v I' J' => v = some (.int (bI (okDust z r s n))) ∧ RefR (nDust z r s n) I' J') := by
  refine Mn.of (by decide) (fun ad => by simp [lg_sl, vv, Value.category]) (fun X P hP hn C => ?_)
  have key : ∀ I0, RefR z I0 J → V X P 0 0 5 [some (.ref 1000), some (.int r), some (.int s), some (.int n)] [] S I0 J := by
    intro I0 hR
    have es := hR.st0
    have last : okDust z r s n → V X P 0 0 43 [some (.ref 1000), some (.int r), some (.int s), some (.int n)] [] S I0 J := by
      intro ok
      obtain ⟨k, hk, hk2, ek⟩ := isR_ex ok.2.1 hO.1.1
      obtain ⟨m, hm, em⟩ := wi_ex (by omega) ok.2.2.1
      have ec : cl r = k := by rw [ek]; exact nI_clamp (by omega)
      have ec2 : cl s = m := by rw [em]; exact nI_clamp (by omega)
      have hkm : 5 * k + m < 60 := by omega
      have f1 : Fr 0 I0 J (up2 I0 1031 (5 * k + m) n) J := by have := Fr.dust (b := 0) (I := I0) (J := J) (v := n) hkm; rw [Nat.mul_zero, Nat.zero_add] at this; exact this
      have e1 := rDust (b := 0) (I := I0) (J := J) (v := n) hkm
      rw [Nat.mul_zero, Nat.zero_add] at e1
      have fin := hR.d0 f1 e1 (by rw [cm_up (by decide)]; exact hR.2.1 0 (by omega))
      rw [hR.d] at fin
      refine V_aload_n C dX7_dust_43 rfl ?_
      refine V_getR C fl_X7_128 (ob_K hM) (ob_R hM 30 1031 rfl rfl) rfl dX7_dust_44 ?_
      refine V_iconst C (v := nI 5) dX7_dust_47 (by decide +kernel) ?_
      refine V_iload_n C dX7_dust_48 rfl ?_
      refine V_imul C dX7_dust_49 ?_
      refine V_iload_n C dX7_dust_50 rfl ?_
      refine V_iadd C dX7_dust_51 ?_
      refine V_iload_n C dX7_dust_52 rfl ?_
      refine V_iast C (5 * k + m) (ob_A hM 30 1031 rfl rfl) (by rw [ek, em, pk_mul, nI_add]) (by rw [ob_N hM 30 1031 rfl rfl]; omega) (by rw [ob_N hM 30 1031 rfl rfl]; decide) dX7_dust_53 ?_
      refine V_iconst C (v := nI 1) dX7_dust_54 (by decide +kernel) ?_
      exact V_zret C (by first | exact Or.inl rfl | exact Or.inr rfl | (simp only [bI]; split <;> first | exact Or.inl rfl | exact Or.inr rfl) | assumption) (Nat.zero_le _) (Nat.zero_le _) dX7_dust_55 (hP _ _ _ ⟨by rw [bI_t ok]; rfl, by rw [nDust, if_pos ok, ec, ec2]; exact fin⟩)
    refine V_aload_n C dX7_dust_5 rfl ?_
    refine V_getR C fl_X7_137 (ob_K hM) (ob_R hM 33 1034 rfl rfl) rfl dX7_dust_6 ?_
    refine V_iconst C (v := nI 0) dX7_dust_9 (by decide +kernel) ?_
    refine V_iald C (0) (ob_A hM 33 1034 rfl rfl) (by first | rfl | (simp only [nI_add, pk_mul]; done) | (simp only [nI_add, pk_mul]; congr 1; omega)) (by rw [ob_N hM 33 1034 rfl rfl]; omega) (by rw [ob_N hM 33 1034 rfl rfl]; decide) dX7_dust_10 ?_
    rw [es]
    refine V_if_gt C 41 dX7_dust_11 (by decide) (fun h11 => ?_) (fun h11 => ?_)
    · refine V_iconst C (v := nI 0) dX7_dust_41 (by decide +kernel) ?_
      exact V_zret C (by first | exact Or.inl rfl | exact Or.inr rfl | (simp only [bI]; split <;> first | exact Or.inl rfl | exact Or.inr rfl) | assumption) (Nat.zero_le _) (Nat.zero_le _) dX7_dust_42 (hP _ _ _ (by have no : ¬ okDust z r s n := (by first | exact fun q => q.1 h11 | exact fun q => (bI_0.mp h19) q.2.1 | exact fun q => (bI_0.mp h28) q.2.2.1 | exact fun q => (bI_0.mp h38) q.2.2.2); exact ⟨by rw [bI_f no]; rfl, by rw [nDust, if_neg no]; exact hR⟩))
    · refine V_aload_n C dX7_dust_14 rfl ?_
      refine V_iload_n C dX7_dust_15 rfl ?_
      refine V_callV (F := fun _ => True) C (m_isRing hM hR r) mi_X7_isRing ml_X7_305 rfl (ob_K hM) (by decide) (by decide) (by decide) (Nat.le_of_ble_eq_true rfl) (fun _ _ => trivial) (fun v _ => clo_T v) rfl dX7_dust_16 ?_
      rintro v S' I' J' ⟨hS, rfl, hI, hJ⟩
      obtain rfl := hS.symm
      obtain rfl := hI.symm
      obtain rfl := hJ.symm
      refine V_if_eq C 41 dX7_dust_19 (by decide) (fun h19 => ?_) (fun h19 => ?_)
      · refine V_iconst C (v := nI 0) dX7_dust_41 (by decide +kernel) ?_
        exact V_zret C (by first | exact Or.inl rfl | exact Or.inr rfl | (simp only [bI]; split <;> first | exact Or.inl rfl | exact Or.inr rfl) | assumption) (Nat.zero_le _) (Nat.zero_le _) dX7_dust_42 (hP _ _ _ (by have no : ¬ okDust z r s n := (by first | exact fun q => q.1 h11 | exact fun q => (bI_0.mp h19) q.2.1 | exact fun q => (bI_0.mp h28) q.2.2.1 | exact fun q => (bI_0.mp h38) q.2.2.2); exact ⟨by rw [bI_f no]; rfl, by rw [nDust, if_neg no]; exact hR⟩))
      · refine V_iload_n C dX7_dust_22 rfl ?_
        refine V_iconst C (v := nI 0) dX7_dust_23 (by decide +kernel) ?_
        refine V_iconst C (v := nI 4) dX7_dust_24 (by decide +kernel) ?_
        refine V_callS (F := fun _ => True) C (m_within _ _ _) ms_X7_within ml_X7_301 rfl (by decide) (by decide) (Nat.le_of_ble_eq_true rfl) (fun _ _ => trivial) (fun v _ => clo_T v) rfl dX7_dust_25 ?_
        rintro v S' I' J' ⟨hS, rfl, hI, hJ⟩
        obtain rfl := hS.symm
        obtain rfl := hI.symm
        obtain rfl := hJ.symm
        refine V_if_eq C 41 dX7_dust_28 (by decide) (fun h28 => ?_) (fun h28 => ?_)
        · refine V_iconst C (v := nI 0) dX7_dust_41 (by decide +kernel) ?_
          exact V_zret C (by first | exact Or.inl rfl | exact Or.inr rfl | (simp only [bI]; split <;> first | exact Or.inl rfl | exact Or.inr rfl) | assumption) (Nat.zero_le _) (Nat.zero_le _) dX7_dust_42 (hP _ _ _ (by have no : ¬ okDust z r s n := (by first | exact fun q => q.1 h11 | exact fun q => (bI_0.mp h19) q.2.1 | exact fun q => (bI_0.mp h28) q.2.2.1 | exact fun q => (bI_0.mp h38) q.2.2.2); exact ⟨by rw [bI_f no]; rfl, by rw [nDust, if_neg no]; exact hR⟩))
        · refine V_iload_n C dX7_dust_31 rfl ?_
          refine V_iconst C (v := nI 0) dX7_dust_32 (by decide +kernel) ?_
          refine V_ldc C dX7_dust_33 kc_X7_252 ?_
          refine V_callS (F := fun _ => True) C (m_within _ _ _) ms_X7_within ml_X7_301 rfl (by decide) (by decide) (Nat.le_of_ble_eq_true rfl) (fun _ _ => trivial) (fun v _ => clo_T v) rfl dX7_dust_35 ?_
          rintro v S' I' J' ⟨hS, rfl, hI, hJ⟩
          obtain rfl := hS.symm
          obtain rfl := hI.symm
          obtain rfl := hJ.symm
          refine V_if_ne C 43 dX7_dust_38 (by decide) (fun h38 => ?_) (fun h38 => ?_)
          · exact last ⟨h11, Decidable.not_not.mp (fun q => h19 (bI_0.mpr q)), Decidable.not_not.mp (fun q => h28 (bI_0.mpr q)), Decidable.not_not.mp (fun q => h38 (bI_0.mpr q))⟩
          · refine V_iconst C (v := nI 0) dX7_dust_41 (by decide +kernel) ?_
            exact V_zret C (by first | exact Or.inl rfl | exact Or.inr rfl | (simp only [bI]; split <;> first | exact Or.inl rfl | exact Or.inr rfl) | assumption) (Nat.zero_le _) (Nat.zero_le _) dX7_dust_42 (hP _ _ _ (by have no : ¬ okDust z r s n := (by first | exact fun q => q.1 h11 | exact fun q => (bI_0.mp h19) q.2.1 | exact fun q => (bI_0.mp h28) q.2.2.1 | exact fun q => (bI_0.mp h38) q.2.2.2); exact ⟨by rw [bI_f no]; rfl, by rw [nDust, if_neg no]; exact hR⟩))
  refine V_aload_n C dX7_dust_0 rfl ?_
  refine V_iconst C (v := nI 0) dX7_dust_1 (by decide +kernel) ?_
  refine V_putI C fl_X7_1 (ob_K hM) rfl rfl dX7_dust_2 ?_
  exact key _ hR.zr
theorem rPull {b : Nat} {v : Int32} : refD (up2 I 1032 b v) J b = up2 (refD I J b) 0 2 v ∧ ∀ d, d ≠ b → refD (up2 I 1032 b v) J d = refD I J d := by
  refine ⟨?_, fun d hd => ?_⟩
  · funext c x
    match c with
    | 0 =>
      match x with
      | 0 => rfl
      | 1 => rfl
      | 2 => show va_up (I 1032) b v b = _; rw [va_up_self]; rfl
      | 3 => rfl
      | 4 => rfl
      | 5 => rfl
      | 6 => rfl
      | x + 7 => rfl
    | 1 => rfl
    | 2 => rfl
    | 3 => rfl
    | 4 => rfl
    | 5 => rfl
    | 6 => rfl
    | 7 => rfl
    | 8 => rfl
    | 9 => rfl
    | 10 => rfl
    | 11 => rfl
    | c + 12 => rfl
  · have e : ∀ a, a ≠ 1032 → up2 I 1032 b v a = I a := fun a ha => up2_ne _ _ _ ha
    have e2 : up2 I 1032 b v 1032 d = I 1032 d := by rw [up2_row, va_up_ne _ _ hd]
    exact refD_ext (by rw [e 1027 (by decide)]) (by rw [e 1034 (by decide)]) e2 (by rw [e 1033 (by decide)]) (by rw [e 1037 (by decide)]) (fun x _ => by rw [e 1028 (by decide)]) (fun x _ => by rw [e 1029 (by decide)]) (fun x _ => by rw [e 1030 (by decide)]) (fun x _ => by rw [e 1031 (by decide)]) (fun x _ => by rw [e 1038 (by decide)]) (fun x _ => by rw [e 1039 (by decide)]) (fun x _ => by rw [e 1040 (by decide)]) (fun x _ => by rw [e 1041 (by decide)]) (fun x _ => by rw [e 1042 (by decide)]) (fun x _ => by rw [e 1043 (by decide)]) (fun x _ => by rw [e 1044 (by decide)])
theorem Fr.pull {b : Nat} {v : Int32} : Fr b I J (up2 I 1032 b v) J := Fr.int (fun a ha => up2_ne _ _ _ (by omega)) (fun d _ h => rPull.2 d h)
/-- luck and share written -/
theorem RefR.ls (h : RefR z I J) {lk : Nat} {s : Int32} : RefR (z.1, z.2.1, (z.2.2.1.1, z.2.2.1.2.1, lk, s), z.2.2.2) (up2 (up2 I 1000 44 (nI lk)) 1000 45 s) J := by
  obtain ⟨h1, h2, h3, h4, h5, h6, h7, h8, h9, h10, h11⟩ := h
  have k1 : ∀ c, c ≠ 44 → c ≠ 45 → up2 (up2 I 1000 44 (nI lk)) 1000 45 s 1000 c = I 1000 c := fun c a b => by rw [o_ne b, o_ne a]
  have k2 : ∀ a, a ≠ 1000 → up2 (up2 I 1000 44 (nI lk)) 1000 45 s a = I a := fun a ha => by rw [up2_ne _ _ _ ha, up2_ne _ _ _ ha]
  exact ⟨by rw [refQ_o, refQ_o]; exact h1, cAll_o (cAll_o h2), fun m hm => mkR_cg (k2 1052 (by decide)) (by rw [refQ_o, refQ_o]) (h3 m hm), RL_cg (k1 10 (by decide) (by decide)) (fun a g1 g2 => k2 a (by omega)) h4, opR_cg (k1 10 (by decide) (by decide)) (k2 1019 (by decide)) h5, (k1 24 (by decide) (by decide)).trans h6, by rw [o_ne (by decide), o_at], o_at, tpR_cg (k1 2 (by decide) (by decide)) (k2 1002 (by decide)) h9, tdR_cg (k1 48 (by decide) (by decide)) (k2 1050 (by decide)) (k2 1051 (by decide)) h10, h11⟩
set_option maxRecDepth 100000 in
theorem m_star (hM : Ob S 7 1000) (hR : RefR z I J) (p l1 s : Int32) : Mn l yX7_star cX7_star 4 (some .boolean) 1 [.ref 1000, .int p, .int l1, .int s] S I J (fun v I' J' => v = some (.int (bI (okStar p l1 s))) ∧ RefR (nStar z p l1 s) I' J') := by
  refine Mn.of (by decide) (fun ad => by simp [lg_sl, vv, Value.category]) (fun X P hP hn C => ?_)
  have key : ∀ I0, RefR z I0 J → V X P 0 0 5 [some (.ref 1000), some (.int p), some (.int l1), some (.int s)] [] S I0 J := by
    intro I0 hR
    have last : okStar p l1 s → V X P 0 0 37 [some (.ref 1000), some (.int p), some (.int l1), some (.int s)] [] S I0 J := by
      intro ok
      obtain ⟨k, hk, ek⟩ := wi_ex (by omega) ok.2.1
      have ec : cl l1 = k := by rw [ek]; exact nI_clamp (by omega)
      have fin := (hR.d0 (Fr.pull (b := 0) (v := p)) rPull.1 (by show cmD (refD I0 J 0) ≤ 30; exact hR.2.1 0 (by omega))).ls (lk := k) (s := s)
      rw [hR.d, ← ek] at fin
      refine V_aload_n C dX7_star_37 rfl ?_
      refine V_getR C fl_X7_131 (ob_K hM) (ob_R hM 31 1032 rfl rfl) rfl dX7_star_38 ?_
      refine V_iconst C (v := nI 0) dX7_star_41 (by decide +kernel) ?_
      refine V_iload_n C dX7_star_42 rfl ?_
      refine V_iast C (0) (ob_A hM 31 1032 rfl rfl) (by first | rfl | (simp only [nI_add, pk_mul]; done) | (simp only [nI_add, pk_mul]; congr 1; omega)) (by rw [ob_N hM 31 1032 rfl rfl]; omega) (by rw [ob_N hM 31 1032 rfl rfl]; decide) dX7_star_43 ?_
      refine V_aload_n C dX7_star_44 rfl ?_
      refine V_iload_n C dX7_star_45 rfl ?_
      refine V_putI C fl_X7_308 (ob_K hM) rfl rfl dX7_star_46 ?_
      refine V_aload_n C dX7_star_49 rfl ?_
      refine V_iload_n C dX7_star_50 rfl ?_
      refine V_putI C fl_X7_190 (ob_K hM) rfl rfl dX7_star_51 ?_
      refine V_iconst C (v := nI 1) dX7_star_54 (by decide +kernel) ?_
      exact V_zret C (by first | exact Or.inl rfl | exact Or.inr rfl | (simp only [bI]; split <;> first | exact Or.inl rfl | exact Or.inr rfl) | assumption) (Nat.zero_le _) (Nat.zero_le _) dX7_star_55 (hP _ _ _ ⟨by rw [bI_t ok]; rfl, by rw [nStar, if_pos ok, ec]; exact fin⟩)
    refine V_iload_n C dX7_star_5 rfl ?_
    refine V_iconst C (v := nI 0) dX7_star_6 (by decide +kernel) ?_
    refine V_ldc C dX7_star_7 kc_X7_252 ?_
    refine V_callS (F := fun _ => True) C (m_within _ _ _) ms_X7_within ml_X7_301 rfl (by decide) (by decide) (Nat.le_of_ble_eq_true rfl) (fun _ _ => trivial) (fun v _ => clo_T v) rfl dX7_star_9 ?_
    rintro v S' I' J' ⟨hS, rfl, hI, hJ⟩
    obtain rfl := hS.symm
    obtain rfl := hI.symm
    obtain rfl := hJ.symm
    refine V_if_eq C 35 dX7_star_12 (by decide) (fun h12 => ?_) (fun h12 => ?_)
    · refine V_iconst C (v := nI 0) dX7_star_35 (by decide +kernel) ?_
      exact V_zret C (by first | exact Or.inl rfl | exact Or.inr rfl | (simp only [bI]; split <;> first | exact Or.inl rfl | exact Or.inr rfl) | assumption) (Nat.zero_le _) (Nat.zero_le _) dX7_star_36 (hP _ _ _ (by have no : ¬ okStar p l1 s := (by first | exact fun q => (bI_0.mp h12) q.1 | exact fun q => (bI_0.mp h22) q.2.1 | exact fun q => (bI_0.mp h32) q.2.2); exact ⟨by rw [bI_f no]; rfl, by rw [nStar, if_neg no]; exact hR⟩))
    · refine V_iload_n C dX7_star_15 rfl ?_
      refine V_iconst C (v := nI 0) dX7_star_16 (by decide +kernel) ?_
      refine V_bipush C (v := nI 20) dX7_star_17 (by decide +kernel) ?_
      refine V_callS (F := fun _ => True) C (m_within _ _ _) ms_X7_within ml_X7_301 rfl (by decide) (by decide) (Nat.le_of_ble_eq_true rfl) (fun _ _ => trivial) (fun v _ => clo_T v) rfl dX7_star_19 ?_
      rintro v S' I' J' ⟨hS, rfl, hI, hJ⟩
      obtain rfl := hS.symm
      obtain rfl := hI.symm
      obtain rfl := hJ.symm
      refine V_if_eq C 35 dX7_star_22 (by decide) (fun h22 => ?_) (fun h22 => ?_)
      · refine V_iconst C (v := nI 0) dX7_star_35 (by decide +kernel) ?_
        exact V_zret C (by first | exact Or.inl rfl | exact Or.inr rfl | (simp only [bI]; split <;> first | exact Or.inl rfl | exact Or.inr rfl) | assumption) (Nat.zero_le _) (Nat.zero_le _) dX7_star_36 (hP _ _ _ (by have no : ¬ okStar p l1 s := (by first | exact fun q => (bI_0.mp h12) q.1 | exact fun q => (bI_0.mp h22) q.2.1 | exact fun q => (bI_0.mp h32) q.2.2); exact ⟨by rw [bI_f no]; rfl, by rw [nStar, if_neg no]; exact hR⟩))
      · refine V_iload_n C dX7_star_25 rfl ?_
        refine V_iconst C (v := nI 1) dX7_star_26 (by decide +kernel) ?_
        refine V_bipush C (v := nI 101) dX7_star_27 (by decide +kernel) ?_
        refine V_callS (F := fun _ => True) C (m_within _ _ _) ms_X7_within ml_X7_301 rfl (by decide) (by decide) (Nat.le_of_ble_eq_true rfl) (fun _ _ => trivial) (fun v _ => clo_T v) rfl dX7_star_29 ?_
        rintro v S' I' J' ⟨hS, rfl, hI, hJ⟩
        obtain rfl := hS.symm
        obtain rfl := hI.symm
        obtain rfl := hJ.symm
        refine V_if_ne C 37 dX7_star_32 (by decide) (fun h32 => ?_) (fun h32 => ?_)
        · exact last ⟨Decidable.not_not.mp (fun q => h12 (bI_0.mpr q)), Decidable.not_not.mp (fun q => h22 (bI_0.mpr q)), Decidable.not_not.mp (fun q => h32 (bI_0.mpr q))⟩
        · refine V_iconst C (v := nI 0) dX7_star_35 (by decide +kernel) ?_
          exact V_zret C (by first | exact Or.inl rfl | exact Or.inr rfl | (simp only [bI]; split <;> first | exact Or.inl rfl | exact Or.inr rfl) | assumption) (Nat.zero_le _) (Nat.zero_le _) dX7_star_36 (hP _ _ _ (by have no : ¬ okStar p l1 s := (by first | exact fun q => (bI_0.mp h12) q.1 | exact fun q => (bI_0.mp h22) q.2.1 | exact fun q => (bI_0.mp h32) q.2.2); exact ⟨by rw [bI_f no]; rfl, by rw [nStar, if_neg no]; exact hR⟩))
  refine V_aload_n C dX7_star_0 rfl ?_
  refine V_iconst C (v := nI 0) dX7_star_1 (by decide +kernel) ?_
  refine V_putI C fl_X7_1 (ob_K hM) rfl rfl dX7_star_2 ?_
  exact key _ hR.zr
set_option maxRecDepth 100000 in
theorem m_seed (hM : Ob S 7 1000) (hR : RefR z I J) (g : Int32) : Mn l yX7_seed cX7_seed 2 (some .boolean) 0 [.ref 1000, .int g] S I J (fun v I' J' => v = some (.int (bI (0 ≤ g))) ∧ RefR (nSeed z g) I' J') := by
  refine Mn.of (by decide) (fun ad => by simp [lg_sl, vv, Value.category]) (fun X P hP hn C => ?_)
  have key : ∀ I0, RefR z I0 J → V X P 0 0 5 [some (.ref 1000), some (.int g)] [] S I0 J := by
    intro I0 hR
    have fin := hR.d0 (Fr.seed (b := 0) (v := g)) rSeed (by show cmD (refD I0 J 0) ≤ 30; exact hR.2.1 0 (by omega))
    rw [hR.d] at fin
    refine V_iload_n C dX7_seed_5 rfl ?_
    refine V_if_ge C 11 dX7_seed_6 (by decide) (fun h6 => ?_) (fun h6 => ?_)
    · refine V_aload_n C dX7_seed_11 rfl ?_
      refine V_getR C fl_X7_134 (ob_K hM) (ob_R hM 32 1033 rfl rfl) rfl dX7_seed_12 ?_
      refine V_iconst C (v := nI 0) dX7_seed_15 (by decide +kernel) ?_
      refine V_iload_n C dX7_seed_16 rfl ?_
      refine V_iast C (0) (ob_A hM 32 1033 rfl rfl) (by first | rfl | (simp only [nI_add, pk_mul]; done) | (simp only [nI_add, pk_mul]; congr 1; omega)) (by rw [ob_N hM 32 1033 rfl rfl]; omega) (by rw [ob_N hM 32 1033 rfl rfl]; decide) dX7_seed_17 ?_
      refine V_iconst C (v := nI 1) dX7_seed_18 (by decide +kernel) ?_
      exact V_zret C (by first | exact Or.inl rfl | exact Or.inr rfl | (simp only [bI]; split <;> first | exact Or.inl rfl | exact Or.inr rfl) | assumption) (Nat.zero_le _) (Nat.zero_le _) dX7_seed_19 (hP _ _ _ ⟨by rw [bI_t h6]; rfl, by rw [nSeed, if_pos h6]; exact fin⟩)
    · refine V_iconst C (v := nI 0) dX7_seed_9 (by decide +kernel) ?_
      exact V_zret C (by first | exact Or.inl rfl | exact Or.inr rfl | (simp only [bI]; split <;> first | exact Or.inl rfl | exact Or.inr rfl) | assumption) (Nat.zero_le _) (Nat.zero_le _) dX7_seed_10 (hP _ _ _ ⟨by rw [bI_f h6]; rfl, by rw [nSeed, if_neg h6]; exact hR⟩)
  refine V_aload_n C dX7_seed_0 rfl ?_
  refine V_iconst C (v := nI 0) dX7_seed_1 (by decide +kernel) ?_
  refine V_putI C fl_X7_1 (ob_K hM) rfl rfl dX7_seed_2 ?_
  exact key _ hR.zr
theorem RefR.en (h : RefR z I J) {g : Int32} : RefR (z.1, z.2.1, (z.2.2.1.1, g, z.2.2.1.2.2), z.2.2.2) (up2 I 1000 24 g) J := by
  obtain ⟨h1, h2, h3, h4, h5, h6, h7, h8, h9, h10, h11⟩ := h
  have k2 : ∀ a, a ≠ 1000 → up2 I 1000 24 g a = I a := fun a ha => up2_ne _ _ _ ha
  exact ⟨by rw [refQ_o]; exact h1, cAll_o h2, fun m hm => mkR_cg (k2 1052 (by decide)) refQ_o (h3 m hm), RL_cg (o_ne (by decide)) (fun a g1 g2 => k2 a (by omega)) h4, opR_cg (o_ne (by decide)) (k2 1019 (by decide)) h5, o_at, (o_ne (by decide)).trans h7, (o_ne (by decide)).trans h8, tpR_cg (o_ne (by decide)) (k2 1002 (by decide)) h9, tdR_cg (o_ne (by decide)) (k2 1050 (by decide)) (k2 1051 (by decide)) h10, h11⟩
set_option maxRecDepth 100000 in
theorem m_end (hM : Ob S 7 1000) (hR : RefR z I J) (g : Int32) : Mn l yX7_end cX7_end 2 (some .boolean) 1 [.ref 1000, .int g] S I J (fun v I' J' => v = some (.int (bI (isE z g))) ∧ RefR (nEnd z g) I' J') := by
  refine Mn.of (by decide) (fun ad => by simp [lg_sl, vv, Value.category]) (fun X P hP hn C => ?_)
  have key : ∀ I0, RefR z I0 J → V X P 0 0 5 [some (.ref 1000), some (.int g)] [] S I0 J := by
    intro I0 hR
    refine V_aload_n C dX7_end_5 rfl ?_
    refine V_iload_n C dX7_end_6 rfl ?_
    refine V_callV (F := fun _ => True) C (m_isEnd hM hR g) mi_X7_isEnd ml_X7_311 rfl (ob_K hM) (by decide) (by decide) (by decide) (Nat.le_of_ble_eq_true rfl) (fun _ _ => trivial) (fun v _ => clo_T v) rfl dX7_end_7 ?_
    rintro v S' I' J' ⟨hS, rfl, hI, hJ⟩
    obtain rfl := hS.symm
    obtain rfl := hI.symm
    obtain rfl := hJ.symm
    refine V_if_ne C 15 dX7_end_10 (by decide) (fun h10 => ?_) (fun h10 => ?_)
    · refine V_aload_n C dX7_end_15 rfl ?_
      refine V_iload_n C dX7_end_16 rfl ?_
      refine V_putI C fl_X7_249 (ob_K hM) rfl rfl dX7_end_17 ?_
      refine V_iconst C (v := nI 1) dX7_end_20 (by decide +kernel) ?_
      exact V_zret C (by first | exact Or.inl rfl | exact Or.inr rfl | (simp only [bI]; split <;> first | exact Or.inl rfl | exact Or.inr rfl) | assumption) (Nat.zero_le _) (Nat.zero_le _) dX7_end_21 (hP _ _ _ ⟨by rw [bI_1 h10]; rfl, by rw [nEnd, if_pos (Decidable.not_not.mp (fun q => h10 (bI_0.mpr q)))]; exact hR.en⟩)
    · refine V_iconst C (v := nI 0) dX7_end_13 (by decide +kernel) ?_
      exact V_zret C (by first | exact Or.inl rfl | exact Or.inr rfl | (simp only [bI]; split <;> first | exact Or.inl rfl | exact Or.inr rfl) | assumption) (Nat.zero_le _) (Nat.zero_le _) dX7_end_14 (hP _ _ _ ⟨by rw [h10]; rfl, by rw [nEnd, if_neg (bI_0.mp h10)]; exact hR⟩)
  refine V_aload_n C dX7_end_0 rfl ?_
  refine V_iconst C (v := nI 0) dX7_end_1 (by decide +kernel) ?_
  refine V_putI C fl_X7_1 (ob_K hM) rfl rfl dX7_end_2 ?_
  exact key _ hR.zr
end M18
