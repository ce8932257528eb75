/-! the reference reads a test, a part; all of it by levels -/
section M26
variable {S : HS} {J J' : HJ} {z : SV}
theorem rmL {m n k : Nat} (h : m + 1 ≤ n) (hk : k ≤ 40) : (rmk m).frames + 1 ≤ (rmk n).frames ∧ 8 + (k + 11) + (rmk m).locals ≤ (rmk n).locals := ⟨h, by show 8 + (k + 11) + 60 * m ≤ 60 * n; omega⟩
set_option maxRecDepth 100000 in
set_option maxHeartbeats 1000000 in
theorem m_test (hM : Ob S 7 1000) {K : List Tok} {nx d n : Nat} (hn1 : 1 ≤ n) {sub : Nat → PR} (hsub : MP yX7_sums cX7_sums 3 n d S J K nx sub) : MP yX7_test cX7_test 3 (n + 1) d S J K nx (tstP (selP (fun a => isSP K a 60) (fun a => isSP K a 61) 8 9) sub) := by
  intro l I a q hE hT ha hqa
  refine Mn.of (by decide) (fun ad => by simp [lg_sl, vv, Value.category]) (fun X P hP hn C => ?_)
  obtain ⟨sel, hsel⟩ : ∃ sel, sel = selP (fun a => isSP K a 60) (fun a => isSP K a 61) 8 9 := ⟨_, rfl⟩
  rw [← hsel] at hP
  have bad : ∀ (In : HI) (a' q' : Nat) (e : Int32) (x2 : Option Value), EV In J K → 0 < e → a ≤ a' → a' < K.length → q ≤ q' → a + q' ≤ a' + q → PSt In nx a' q' e → PFr nx q I In → tstP sel sub a = .error e → V X P 0 0 5 [some (.ref 1000), some (.int (nI d)), x2] [] S In J := by
    intro In a' q' e x2 hEn he h1 h2 h3 h4 h5 h6 h7
    refine V_aload_n C dX7_test_5 rfl ?_
    refine V_bipush C (v := nI 60) dX7_test_6 (by decide +kernel) ?_
    refine V_callV (F := fun _ => True) C (m_isSign hM (c := 60) hEn h5 h2) mi_X7_isSign ml_X7_222 rfl (ob_K hM) (by decide) (rmL (by omega) (by decide)) ⟨Nat.le_refl 0, Nat.le_refl 0⟩ (Nat.le_of_ble_eq_true rfl) (fun _ _ => trivial) (fun v _ => clo_T v) rfl dX7_test_8 ?_
    rintro v S' I' J' ⟨hS, rfl, hI, hJ⟩
    obtain rfl := hS.symm
    obtain rfl := hI.symm
    obtain rfl := hJ.symm
    refine V_istore_n C dX7_test_11 (hn _ (by decide)) ?_
    refine V_aload_n C dX7_test_12 rfl ?_
    refine V_bipush C (v := nI 60) dX7_test_13 (by decide +kernel) ?_
    refine V_callV (F := fun _ => True) C (m_hasSign hM (c := 60) hEn h5 h2) mi_X7_hasSign ml_X7_282 rfl (ob_K hM) (by decide) (rmL (by omega) (by decide)) ⟨Nat.le_refl 0, Nat.le_refl 0⟩ (Nat.le_of_ble_eq_true rfl) (fun _ _ => trivial) (fun v _ => clo_T v) rfl dX7_test_15 ?_
    rintro v S' I' J' ⟨hS, rfl, hI, hJ⟩
    obtain rfl := hS.symm
    obtain rfl := hI.symm
    obtain rfl := hJ.symm
    rw [if_neg (fun r => pos_ne he r.1)]
    refine V_if_ne C 30 dX7_test_18 (by decide) (fun h18 => absurd (bI_f (fun r => pos_ne he r.1)) h18) (fun h18 => ?_)
    refine V_aload_n C dX7_test_21 rfl ?_
    refine V_bipush C (v := nI 61) dX7_test_22 (by decide +kernel) ?_
    refine V_callV (F := fun _ => True) C (m_hasSign hM (c := 61) hEn h5 h2) mi_X7_hasSign ml_X7_282 rfl (ob_K hM) (by decide) (rmL (by omega) (by decide)) ⟨Nat.le_refl 0, Nat.le_refl 0⟩ (Nat.le_of_ble_eq_true rfl) (fun _ _ => trivial) (fun v _ => clo_T v) rfl dX7_test_24 ?_
    rintro v S' I' J' ⟨hS, rfl, hI, hJ⟩
    obtain rfl := hS.symm
    obtain rfl := hI.symm
    obtain rfl := hJ.symm
    rw [if_neg (fun r => pos_ne he r.1)]
    refine V_if_eq C 51 dX7_test_27 (by decide) (fun h27 => ?_) (fun h27 => absurd (bI_f (fun r => pos_ne he r.1)) h27)
    exact V_vret C (Nat.zero_le _) (Nat.zero_le _) dX7_test_51 (hP _ _ _ ⟨rfl, by rw [h7]; exact ⟨he, a', q', h1, h2, h3, h4, h5, h6⟩, rfl⟩)
  have good : ∀ (In : HI) (c : Cds) (a' : Nat) (x2 : Option Value), sub a = .ok (c, a') → EV In J K → a < a' → a' < K.length → a + c.length ≤ a' → PSt In nx a' (q + c.length) 0 → mtP In c (1100 * nx + q) → PFr nx q I In → V X P 0 0 5 [some (.ref 1000), some (.int (nI d)), x2] [] S In J := by
    intro In c a' x2 hsa hEn h1 h2 h3 h5 h6 h7
    obtain ⟨-, -, -, -, -, e6, e7⟩ := hEn.at h2
    have h8 : tstP sel sub a = tstP sel sub a := rfl
    conv at h8 => rhs; rw [tstP, hsa]
    by_cases hs : ¬ isSP K a' 60 ∧ ¬ isSP K a' 61
    · have es : sel a' = none := by rw [hsel]; exact selP_n (p := fun a => isSP K a 60) (q := fun a => isSP K a 61) hs.1 hs.2
      dsimp only at h8
      rw [es] at h8
      refine V_aload_n C dX7_test_5 rfl ?_
      refine V_bipush C (v := nI 60) dX7_test_6 (by decide +kernel) ?_
      refine V_callV (F := fun _ => True) C (m_isSign hM (c := 60) hEn h5 h2) mi_X7_isSign ml_X7_222 rfl (ob_K hM) (by decide) (rmL (by omega) (by decide)) ⟨Nat.le_refl 0, Nat.le_refl 0⟩ (Nat.le_of_ble_eq_true rfl) (fun _ _ => trivial) (fun v _ => clo_T v) rfl dX7_test_8 ?_
      rintro v S' I' J' ⟨hS, rfl, hI, hJ⟩
      obtain rfl := hS.symm
      obtain rfl := hI.symm
      obtain rfl := hJ.symm
      refine V_istore_n C dX7_test_11 (hn _ (by decide)) ?_
      refine V_aload_n C dX7_test_12 rfl ?_
      refine V_bipush C (v := nI 60) dX7_test_13 (by decide +kernel) ?_
      refine V_callV (F := fun _ => True) C (m_hasSign hM (c := 60) hEn h5 h2) mi_X7_hasSign ml_X7_282 rfl (ob_K hM) (by decide) (rmL (by omega) (by decide)) ⟨Nat.le_refl 0, Nat.le_refl 0⟩ (Nat.le_of_ble_eq_true rfl) (fun _ _ => trivial) (fun v _ => clo_T v) rfl dX7_test_15 ?_
      rintro v S' I' J' ⟨hS, rfl, hI, hJ⟩
      obtain rfl := hS.symm
      obtain rfl := hI.symm
      obtain rfl := hJ.symm
      rw [if_neg (fun r => hs.1 r.2)]
      refine V_if_ne C 30 dX7_test_18 (by decide) (fun h18 => absurd (bI_f (fun r => hs.1 r.2)) h18) (fun h18 => ?_)
      refine V_aload_n C dX7_test_21 rfl ?_
      refine V_bipush C (v := nI 61) dX7_test_22 (by decide +kernel) ?_
      refine V_callV (F := fun _ => True) C (m_hasSign hM (c := 61) hEn h5 h2) mi_X7_hasSign ml_X7_282 rfl (ob_K hM) (by decide) (rmL (by omega) (by decide)) ⟨Nat.le_refl 0, Nat.le_refl 0⟩ (Nat.le_of_ble_eq_true rfl) (fun _ _ => trivial) (fun v _ => clo_T v) rfl dX7_test_24 ?_
      rintro v S' I' J' ⟨hS, rfl, hI, hJ⟩
      obtain rfl := hS.symm
      obtain rfl := hI.symm
      obtain rfl := hJ.symm
      rw [if_neg (fun r => hs.2 r.2)]
      refine V_if_eq C 51 dX7_test_27 (by decide) (fun h27 => ?_) (fun h27 => absurd (bI_f (fun r => hs.2 r.2)) h27)
      exact V_vret C (Nat.zero_le _) (Nat.zero_le _) dX7_test_51 (hP _ _ _ ⟨rfl, by rw [h8]; exact ⟨h1, h2, h3, h5, h6, h7⟩, rfl⟩)
    · have hlt : a' + 1 < K.length := e6 (by
        by_cases g : isSP K a' 60
        · rw [g.1]; decide
        · rw [(Decidable.not_not.mp (fun h => hs ⟨g, h⟩)).1]; decide)
      have es : sel a' = some (if isSP K a' 60 then 8 else 9) := by rw [hsel]; exact selP_s (p := fun a => isSP K a 60) (q := fun a => isSP K a 61) hs
      dsimp only at h8
      rw [es] at h8
      dsimp only at h8
      have hS2 : PSt (up2 In 1000 7 (nI (a' + 1))) nx (a' + 1) (q + c.length) 0 := st_at h5
      have f2 : PFr nx q I (up2 In 1000 7 (nI (a' + 1))) := h7.tr (Nat.le_refl _) (PFr.o (Or.inl rfl))
      have hE2 := hE.fr f2
      have ev : (if bI ((0 : Int32) = 0 ∧ isSP K a' 60) = 0 then nI 9 else nI 8) = nI (if isSP K a' 60 then 8 else 9) := by
        by_cases g : isSP K a' 60
        · rw [if_pos g, if_neg (by rw [bI_0]; exact fun r => r ⟨rfl, g⟩)]
        · rw [if_neg g, if_pos (bI_0.mpr (fun r => g r.2))]
      obtain ⟨b, hb⟩ : ∃ b, b = bI ((0 : Int32) = 0 ∧ isSP K a' 60) := ⟨_, rfl⟩
      obtain ⟨op, hop⟩ : ∃ op, op = (if isSP K a' 60 then 8 else 9) := ⟨_, rfl⟩
      rw [← hop] at ev h8
      rw [← hb] at ev
      have after : ∀ (I2 : HI), PPost nx K (a' + 1) (q + c.length) (up2 In 1000 7 (nI (a' + 1))) I2 (sub (a' + 1)) → V X P 0 0 35 [some (.ref 1000), some (.int (nI d)), some (.int b)] [] S I2 J := by
        intro I2 hp
        cases hr : sub (a' + 1) with
        | error e =>
          rw [hr] at hp h8
          obtain ⟨he, a2, q2, p1, p2, p3, p4, p5, p6⟩ := hp
          have hq2 : q2 < 1100 := by have := hE.2.2.1; omega
          have f3 := f2.tr (by omega) p6
          have f4 := f3.tr (by omega) (emI_fr (c := nI op) (v := nI 0) hq2)
          refine V_aload_n C dX7_test_35 rfl ?_
          refine V_iload_n C dX7_test_36 rfl ?_
          refine V_tern_if_eq (vt := nI 9) (vf := nI 8) (pm := 47) C 45 dX7_test_37 (by decide) (fun h37 k => ?_) (fun h37 k => ?_) ?_
          · refine V_bipush C (v := nI 9) dX7_test_45 (by decide +kernel) ?_
            exact k
          · refine V_bipush C (v := nI 8) dX7_test_40 (by decide +kernel) ?_
            refine V_goto C 47 dX7_test_42 (by decide) ?_
            exact k
          rw [ev]
          refine V_iconst C (v := nI 0) dX7_test_47 (by decide +kernel) ?_
          refine V_callV (F := fun _ => True) C (m_emit hM p5 hq2 _ _) mi_X7_emit ml_X7_269 rfl (ob_K hM) (by decide) (rmL (by omega) (by decide)) ⟨Nat.le_refl 0, Nat.le_refl 0⟩ (Nat.le_of_ble_eq_true rfl) (fun _ _ => trivial) (fun v _ => clo_T v) rfl dX7_test_48 ?_
          rintro v S' I' J' ⟨hS, rfl, hI, hJ⟩
          obtain rfl := hS.symm
          obtain rfl := hI.symm
          obtain rfl := hJ.symm
          exact V_vret C (Nat.zero_le _) (Nat.zero_le _) dX7_test_51 (hP _ _ _ ⟨rfl, by rw [h8]; exact ⟨he, a2, q2 + 1, by omega, p2, by omega, by omega, emI_st p5, f4⟩, rfl⟩)
        | ok r =>
          obtain ⟨c2, a2⟩ := r
          rw [hr] at hp h8
          obtain ⟨p1, p2, p3, p4, p5, p6⟩ := hp
          have hq2 : q + c.length + c2.length < 1100 := by have := hE.2.2.1; omega
          have f3 := f2.tr (by omega) p6
          have f4 := f3.tr (by omega) (emI_fr (c := nI op) (v := nI 0) hq2)
          have el : (c ++ c2 ++ [(op, (0 : Int32))]).length = c.length + c2.length + 1 := by simp only [List.length_append, List.length_cons, List.length_nil]
          have mt1 : mtP (emI I2 nx (q + c.length + c2.length) (nI op) (nI 0)) (c ++ c2) (1100 * nx + q) := mtP_cg _ _ (fun i g1 g2 => by rw [List.length_append] at g2; exact (emI_fr (I := I2) (nx := nx) (c := nI op) (v := nI 0) hq2).2.2 i (Or.inl (by omega))) (mtP_app _ _ _ (mtP_cg _ _ (fun i g1 g2 => (p6.2.2 i (Or.inl (by omega))).imp (fun h => h.trans (by rfl)) (fun h => h.trans (by rfl))) h6) (by rw [show 1100 * nx + q + c.length = 1100 * nx + (q + c.length) by omega]; exact p5))
          have mt2 : mtP (emI I2 nx (q + c.length + c2.length) (nI op) (nI 0)) (c ++ c2 ++ [(op, 0)]) (1100 * nx + q) := mtP_app _ _ _ mt1 (by rw [List.length_append, show 1100 * nx + q + (c.length + c2.length) = 1100 * nx + (q + c.length + c2.length) by omega]; exact emI_mt)
          refine V_aload_n C dX7_test_35 rfl ?_
          refine V_iload_n C dX7_test_36 rfl ?_
          refine V_tern_if_eq (vt := nI 9) (vf := nI 8) (pm := 47) C 45 dX7_test_37 (by decide) (fun h37 k => ?_) (fun h37 k => ?_) ?_
          · refine V_bipush C (v := nI 9) dX7_test_45 (by decide +kernel) ?_
            exact k
          · refine V_bipush C (v := nI 8) dX7_test_40 (by decide +kernel) ?_
            refine V_goto C 47 dX7_test_42 (by decide) ?_
            exact k
          rw [ev]
          refine V_iconst C (v := nI 0) dX7_test_47 (by decide +kernel) ?_
          refine V_callV (F := fun _ => True) C (m_emit hM p4 hq2 _ _) mi_X7_emit ml_X7_269 rfl (ob_K hM) (by decide) (rmL (by omega) (by decide)) ⟨Nat.le_refl 0, Nat.le_refl 0⟩ (Nat.le_of_ble_eq_true rfl) (fun _ _ => trivial) (fun v _ => clo_T v) rfl dX7_test_48 ?_
          rintro v S' I' J' ⟨hS, rfl, hI, hJ⟩
          obtain rfl := hS.symm
          obtain rfl := hI.symm
          obtain rfl := hJ.symm
          exact V_vret C (Nat.zero_le _) (Nat.zero_le _) dX7_test_51 (hP _ _ _ ⟨rfl, by rw [h8]; exact ⟨by omega, p2, by rw [el]; omega, by rw [el, show q + (c.length + c2.length + 1) = q + c.length + c2.length + 1 by omega]; exact emI_st p4, mt2, f4⟩, rfl⟩)
      have rest : V X P 0 0 30 [some (.ref 1000), some (.int (nI d)), some (.int b)] [] S (up2 In 1000 7 (nI (a' + 1))) J := by
        refine V_aload_n C dX7_test_30 rfl ?_
        refine V_iload_n C dX7_test_31 rfl ?_
        refine V_callV (F := fun _ => True) C (hsub _ _ (a' + 1) (q + c.length) hE2 hS2 hlt (by omega)) mi_X7_sums ml_X7_279 rfl (ob_K hM) (by decide) (rmL (by omega) (by decide)) ⟨Nat.le_refl 0, Nat.le_refl 0⟩ (Nat.le_of_ble_eq_true rfl) (fun _ _ => trivial) (fun v _ => clo_T v) rfl dX7_test_32 ?_
        rintro v S' I2 J2 ⟨hS, rfl, hp, hJ⟩
        obtain rfl := hS.symm
        obtain rfl := hJ.symm
        exact after _ hp
      by_cases g : isSP K a' 60
      · refine V_aload_n C dX7_test_5 rfl ?_
        refine V_bipush C (v := nI 60) dX7_test_6 (by decide +kernel) ?_
        refine V_callV (F := fun _ => True) C (m_isSign hM (c := 60) hEn h5 h2) mi_X7_isSign ml_X7_222 rfl (ob_K hM) (by decide) (rmL (by omega) (by decide)) ⟨Nat.le_refl 0, Nat.le_refl 0⟩ (Nat.le_of_ble_eq_true rfl) (fun _ _ => trivial) (fun v _ => clo_T v) rfl dX7_test_8 ?_
        rintro v S' I' J' ⟨hS, rfl, hI, hJ⟩
        obtain rfl := hS.symm
        obtain rfl := hI.symm
        obtain rfl := hJ.symm
        rw [← hb]
        refine V_istore_n C dX7_test_11 (hn _ (by decide)) ?_
        refine V_aload_n C dX7_test_12 rfl ?_
        refine V_bipush C (v := nI 60) dX7_test_13 (by decide +kernel) ?_
        refine V_callV (F := fun _ => True) C (m_hasSign hM (c := 60) hEn h5 h2) mi_X7_hasSign ml_X7_282 rfl (ob_K hM) (by decide) (rmL (by omega) (by decide)) ⟨Nat.le_refl 0, Nat.le_refl 0⟩ (Nat.le_of_ble_eq_true rfl) (fun _ _ => trivial) (fun v _ => clo_T v) rfl dX7_test_15 ?_
        rintro v S' I' J' ⟨hS, rfl, hI, hJ⟩
        obtain rfl := hS.symm
        obtain rfl := hI.symm
        obtain rfl := hJ.symm
        rw [if_pos ⟨rfl, g⟩]
        refine V_if_ne C 30 dX7_test_18 (by decide) (fun h18 => ?_) (fun h18 => absurd h18 (by rw [bI_0]; exact fun r => r ⟨rfl, g⟩))
        exact rest
      · have g2 := Decidable.not_not.mp (fun h => hs ⟨g, h⟩)
        refine V_aload_n C dX7_test_5 rfl ?_
        refine V_bipush C (v := nI 60) dX7_test_6 (by decide +kernel) ?_
        refine V_callV (F := fun _ => True) C (m_isSign hM (c := 60) hEn h5 h2) mi_X7_isSign ml_X7_222 rfl (ob_K hM) (by decide) (rmL (by omega) (by decide)) ⟨Nat.le_refl 0, Nat.le_refl 0⟩ (Nat.le_of_ble_eq_true rfl) (fun _ _ => trivial) (fun v _ => clo_T v) rfl dX7_test_8 ?_
        rintro v S' I' J' ⟨hS, rfl, hI, hJ⟩
        obtain rfl := hS.symm
        obtain rfl := hI.symm
        obtain rfl := hJ.symm
        rw [← hb]
        refine V_istore_n C dX7_test_11 (hn _ (by decide)) ?_
        refine V_aload_n C dX7_test_12 rfl ?_
        refine V_bipush C (v := nI 60) dX7_test_13 (by decide +kernel) ?_
        refine V_callV (F := fun _ => True) C (m_hasSign hM (c := 60) hEn h5 h2) mi_X7_hasSign ml_X7_282 rfl (ob_K hM) (by decide) (rmL (by omega) (by decide)) ⟨Nat.le_refl 0, Nat.le_refl 0⟩ (Nat.le_of_ble_eq_true rfl) (fun _ _ => trivial) (fun v _ => clo_T v) rfl dX7_test_15 ?_
        rintro v S' I' J' ⟨hS, rfl, hI, hJ⟩
        obtain rfl := hS.symm
        obtain rfl := hI.symm
        obtain rfl := hJ.symm
        rw [if_neg (fun r => g r.2)]
        refine V_if_ne C 30 dX7_test_18 (by decide) (fun h18 => absurd (bI_f (fun r => g r.2)) h18) (fun h18 => ?_)
        refine V_aload_n C dX7_test_21 rfl ?_
        refine V_bipush C (v := nI 61) dX7_test_22 (by decide +kernel) ?_
        refine V_callV (F := fun _ => True) C (m_hasSign hM (c := 61) hEn h5 h2) mi_X7_hasSign ml_X7_282 rfl (ob_K hM) (by decide) (rmL (by omega) (by decide)) ⟨Nat.le_refl 0, Nat.le_refl 0⟩ (Nat.le_of_ble_eq_true rfl) (fun _ _ => trivial) (fun v _ => clo_T v) rfl dX7_test_24 ?_
        rintro v S' I' J' ⟨hS, rfl, hI, hJ⟩
        obtain rfl := hS.symm
        obtain rfl := hI.symm
        obtain rfl := hJ.symm
        rw [if_pos ⟨rfl, g2⟩]
        refine V_if_eq C 51 dX7_test_27 (by decide) (fun h27 => absurd h27 (by rw [bI_0]; exact fun r => r ⟨rfl, g2⟩)) (fun h27 => ?_)
        exact rest
  have after : ∀ (I2 : HI), PPost nx K a q I I2 (sub a) → V X P 0 0 5 [some (.ref 1000), some (.int (nI d)), none] [] S I2 J := by
    intro I2 hp
    cases hr : sub a with
    | error e =>
      rw [hr] at hp
      obtain ⟨he, a2, q2, p1, p2, p3, p4, p5, p6⟩ := hp
      exact bad I2 a2 q2 e none (hE.fr p6) he p1 p2 p3 p4 p5 p6 (by rw [tstP, hr])
    | ok r =>
      obtain ⟨c2, a2⟩ := r
      rw [hr] at hp
      obtain ⟨p1, p2, p3, p4, p5, p6⟩ := hp
      exact good I2 c2 a2 none hr (hE.fr p6) p1 p2 p3 p4 p5 p6
  refine V_aload_n C dX7_test_0 rfl ?_
  refine V_iload_n C dX7_test_1 rfl ?_
  refine V_callV (F := fun _ => True) C (hsub _ I a q hE hT ha hqa) mi_X7_sums ml_X7_279 rfl (ob_K hM) (by decide) (rmL (by omega) (by decide)) ⟨Nat.le_refl 0, Nat.le_refl 0⟩ (Nat.le_of_ble_eq_true rfl) (fun _ _ => trivial) (fun v _ => clo_T v) rfl dX7_test_2 ?_
  rintro v S' I2 J2 ⟨hS, rfl, hp, hJ⟩
  obtain rfl := hS.symm
  obtain rfl := hJ.symm
  exact after _ hp
/-- a part at the level d: f levels may be opened -/
theorem fwN_or {K : List Tok} {a w : Nat} : ∀ n, fwN K a w n = -1 ∨ ∃ j, j < n ∧ fwN K a w n = nI j ∧ isWP K a (w + j)
  | 0 => Or.inl rfl
  | n + 1 => by
    unfold fwN
    split
    · rename_i h; exact Or.inr ⟨n, by omega, rfl, h⟩
    · exact (fwN_or n).imp id (fun ⟨j, h1, h2, h3⟩ => ⟨j, by omega, h2, h3⟩)
abbrev badP (K : List Tok) (a : Nat) : Prop := fwN K a 14 9 < 0 ∧ ¬ (tk K a).1 = 2 ∧ ¬ isSP K a 40 ∧ ¬ isWP K a 13
set_option maxRecDepth 100000 in
set_option maxHeartbeats 2000000 in
theorem m_takePart (hM : Ob S 7 1000) {K : List Tok} {nx f d : Nat} (hd : d + f = 4) (hsub : ∀ g, f = g + 1 → MP yX7_takePart cX7_takePart 4 (5 * g + 2) (d + 1) S J K nx (parP K g) ∧ MP yX7_all cX7_all 3 (5 * g + 6) (d + 1) S J K nx (allP K (parP K g))) : MP yX7_takePart cX7_takePart 4 (5 * f + 2) d S J K nx (parP K f) := by
  intro l I a q hE hT ha hqa
  refine Mn.of (by decide) (fun ad => by simp [lg_sl, vv, Value.category]) (fun X P hP hn C => ?_)
  obtain ⟨e1, e2, e3, e4, e5, e6, e7⟩ := hE.at ha
  have ef := hT.2.1
  have e3' : (tk K a).1 = 2 → J 1007 a = (tk K a).2.2.1 := fun h => e3 (by omega)
  have q1100 : q < 1100 := by omega
  obtain ⟨num, hnum⟩ : ∃ num : Int32, num = (if nI (tk K a).1 = nI 2 then nI 1 else nI 0) := ⟨_, rfl⟩
  have num1 : (tk K a).1 = 2 → num = nI 1 := fun h => by rw [hnum, h, if_pos rfl]
  have num0 : ¬ (tk K a).1 = 2 → num = nI 0 := fun h => by rw [hnum, if_neg (fun q => h ((nI_eq (by omega) (by omega)).mp q))]
  have err : ∀ w, 0 < w → w < 16 → parP K f a = .error (errP K a w) → ∀ x2 x3, V X P 0 0 105 [some (.ref 1000), some (.int (nI d)), x2, x3] [] S (up2 I 1000 8 (errP K a w)) J := by
    intro w hw1 hw2 hp x2 x3
    obtain ⟨p1, p2⟩ := errP_pos (w := w) e4 hw1 hw2
    have o8 : up2 I 1000 8 (errP K a w) 1000 8 = errP K a w := o_at
    refine V_aload_n C dX7_takePart_105 rfl ?_
    refine V_getI C fl_X7_219 (ob_K hM) rfl dX7_takePart_106 ?_
    refine V_if_le C 113 dX7_takePart_109 (by decide) (fun h109 => absurd h109 (by rw [o8]; exact Int32.not_le.mpr p1)) (fun h109 => ?_)
    exact V_vret C (Nat.zero_le _) (Nat.zero_le _) dX7_takePart_112 (hP _ _ _ ⟨rfl, by rw [hp]; exact ⟨p1, a, q, Nat.le_refl _, ha, Nat.le_refl _, Nat.le_refl _, st_f hT, PFr.o (Or.inr (Or.inl rfl))⟩, rfl⟩)
  have go113 : ¬ badP K a → ∀ g, f = g + 1 → V X P 0 0 113 [some (.ref 1000), some (.int (nI d)), some (.int (fwN K a 14 9)), some (.int num)] [] S I J := by
    intro hb g hg
    subst hg
    obtain ⟨sub1, sub2⟩ := hsub g rfl
    have ed : nI d + nI 1 = nI (d + 1) := nI_add d 1
    have hp : parP K (g + 1) a = parP K (g + 1) a := rfl
    conv at hp => rhs; rw [parP, if_neg hb]
    have hS2 : PSt (up2 I 1000 7 (nI (a + 1))) nx (a + 1) q 0 := st_at hT
    have f2 : PFr nx q I (up2 I 1000 7 (nI (a + 1))) := PFr.o (Or.inl rfl)
    have hE2 := hE.fr f2
    by_cases hN : isWP K a 13
    · rw [if_pos hN] at hp
      have hlt : a + 1 < K.length := e6 (by rw [hN.1]; decide)
      have after : ∀ I2, PPost nx K (a + 1) q (up2 I 1000 7 (nI (a + 1))) I2 (parP K g (a + 1)) → V X P 0 0 129 [some (.ref 1000), some (.int (nI d)), some (.int (fwN K a 14 9)), some (.int num)] [] S I2 J := by
        intro I2 hq
        cases hr : parP K g (a + 1) with
        | error e =>
          rw [hr] at hq hp
          obtain ⟨he, a2, q2, p1, p2, p3, p4, p5, p6⟩ := hq
          have hq2 : q2 < 1100 := by have := hE.2.2.1; omega
          have f4 := (f2.tr (Nat.le_refl _) p6).tr p3 (emI_fr (c := nI 3) (v := nI 0) hq2)
          refine V_aload_n C dX7_takePart_129 rfl ?_
          refine V_iconst C (v := nI 3) dX7_takePart_130 (by decide +kernel) ?_
          refine V_iconst C (v := nI 0) dX7_takePart_131 (by decide +kernel) ?_
          refine V_callV (F := fun _ => True) C (m_emit hM p5 hq2 _ _) mi_X7_emit ml_X7_269 rfl (ob_K hM) (by decide) (rmL (by omega) (by decide)) ⟨Nat.le_refl 0, Nat.le_refl 0⟩ (Nat.le_of_ble_eq_true rfl) (fun _ _ => trivial) (fun v _ => clo_T v) rfl dX7_takePart_132 ?_
          rintro v S' I' J' ⟨hS, rfl, hI, hJ⟩
          obtain rfl := hS.symm
          obtain rfl := hI.symm
          obtain rfl := hJ.symm
          refine V_goto C 204 dX7_takePart_135 (by decide) ?_
          exact V_vret C (Nat.zero_le _) (Nat.zero_le _) dX7_takePart_204 (hP _ _ _ ⟨rfl, by rw [hp]; exact ⟨he, a2, q2 + 1, by omega, p2, by omega, by omega, emI_st p5, f4⟩, rfl⟩)
        | ok r =>
          obtain ⟨c, a2⟩ := r
          rw [hr] at hq hp
          obtain ⟨p1, p2, p3, p4, p5, p6⟩ := hq
          have hq2 : q + c.length < 1100 := by have := hE.2.2.1; omega
          have f4 := (f2.tr (Nat.le_refl _) p6).tr (by omega) (emI_fr (c := nI 3) (v := nI 0) hq2)
          have el : (c ++ [(3, (0 : Int32))]).length = c.length + 1 := by simp only [List.length_append, List.length_cons, List.length_nil]
          have mt2 : mtP (emI I2 nx (q + c.length) (nI 3) (nI 0)) (c ++ [(3, 0)]) (1100 * nx + q) := mtP_app _ _ _ (mtP_cg _ _ (fun i g1 g2 => (emI_fr (I := I2) (nx := nx) (c := nI 3) (v := nI 0) hq2).2.2 i (Or.inl (by omega))) p5) (by rw [show 1100 * nx + q + c.length = 1100 * nx + (q + c.length) by omega]; exact emI_mt)
          refine V_aload_n C dX7_takePart_129 rfl ?_
          refine V_iconst C (v := nI 3) dX7_takePart_130 (by decide +kernel) ?_
          refine V_iconst C (v := nI 0) dX7_takePart_131 (by decide +kernel) ?_
          refine V_callV (F := fun _ => True) C (m_emit hM p4 hq2 _ _) mi_X7_emit ml_X7_269 rfl (ob_K hM) (by decide) (rmL (by omega) (by decide)) ⟨Nat.le_refl 0, Nat.le_refl 0⟩ (Nat.le_of_ble_eq_true rfl) (fun _ _ => trivial) (fun v _ => clo_T v) rfl dX7_takePart_132 ?_
          rintro v S' I' J' ⟨hS, rfl, hI, hJ⟩
          obtain rfl := hS.symm
          obtain rfl := hI.symm
          obtain rfl := hJ.symm
          refine V_goto C 204 dX7_takePart_135 (by decide) ?_
          exact V_vret C (Nat.zero_le _) (Nat.zero_le _) dX7_takePart_204 (hP _ _ _ ⟨rfl, by rw [hp]; exact ⟨by omega, p2, by rw [el]; omega, by rw [el, show q + (c.length + 1) = q + c.length + 1 by omega]; exact emI_st p4, mt2, f4⟩, rfl⟩)
      refine V_aload_n C dX7_takePart_113 rfl ?_
      refine V_bipush C (v := nI 13) dX7_takePart_114 (by decide +kernel) ?_
      refine V_callV (F := fun _ => True) C (m_hasWord hM (w := 13) (by omega) hE hT ha) mi_X7_hasWord ml_X7_231 rfl (ob_K hM) (by decide) (rmL (by omega) (by decide)) ⟨Nat.le_refl 0, Nat.le_refl 0⟩ (Nat.le_of_ble_eq_true rfl) (fun _ _ => trivial) (fun v _ => clo_T v) rfl dX7_takePart_116 ?_
      rintro v S' I' J' ⟨hS, rfl, hI, hJ⟩
      obtain rfl := hS.symm
      obtain rfl := hI.symm
      obtain rfl := hJ.symm
      rw [if_pos ⟨rfl, hN⟩]
      refine V_if_eq C 138 dX7_takePart_119 (by decide) (fun h119 => absurd h119 (by rw [bI_0]; exact fun r => r ⟨rfl, hN⟩)) (fun h119 => ?_)
      refine V_aload_n C dX7_takePart_122 rfl ?_
      refine V_iload_n C dX7_takePart_123 rfl ?_
      refine V_iconst C (v := nI 1) dX7_takePart_124 (by decide +kernel) ?_
      refine V_iadd C dX7_takePart_125 ?_
      rw [ed]
      refine V_callV (F := fun _ => True) C (sub1 _ _ (a + 1) q hE2 hS2 hlt (by omega)) mi_X7_takePart ml_X7_288 rfl (ob_K hM) (by decide) (rmL (by omega) (by decide)) ⟨Nat.le_refl 0, Nat.le_refl 0⟩ (Nat.le_of_ble_eq_true rfl) (fun _ _ => trivial) (fun v _ => clo_T v) rfl dX7_takePart_126 ?_
      rintro v S' I2 J2 ⟨hS, rfl, hq, hJ⟩
      obtain rfl := hS.symm
      obtain rfl := hJ.symm
      exact after _ hq
    · rw [if_neg hN] at hp
      by_cases hO : isSP K a 40
      · rw [if_pos hO] at hp
        have hlt : a + 1 < K.length := e6 (by rw [hO.1]; decide)
        have after : ∀ I2, PPost nx K (a + 1) q (up2 I 1000 7 (nI (a + 1))) I2 (allP K (parP K g) (a + 1)) → V X P 0 0 154 [some (.ref 1000), some (.int (nI d)), some (.int (fwN K a 14 9)), some (.int num)] [] S I2 J := by
          intro I2 hq
          cases hr : allP K (parP K g) (a + 1) with
          | error e =>
            rw [hr] at hq hp
            obtain ⟨he, a2, q2, p1, p2, p3, p4, p5, p6⟩ := hq
            have f4 := f2.tr (Nat.le_refl _) p6
            refine V_aload_n C dX7_takePart_154 rfl ?_
            refine V_bipush C (v := nI 41) dX7_takePart_155 (by decide +kernel) ?_
            refine V_callV (F := fun _ => True) C (m_takeSignF hM (c := 41) (pos_ne he) (hE.fr f4) p5 p2) mi_X7_takeSign ml_X7_273 rfl (ob_K hM) (by decide) (rmL (by omega) (by decide)) ⟨Nat.le_refl 0, Nat.le_refl 0⟩ (Nat.le_of_ble_eq_true rfl) (fun _ _ => trivial) (fun v _ => clo_T v) rfl dX7_takePart_157 ?_
            rintro v S' I' J' ⟨hS, rfl, hI, hJ⟩
            obtain rfl := hS.symm
            obtain rfl := hI.symm
            obtain rfl := hJ.symm
            refine V_goto C 204 dX7_takePart_160 (by decide) ?_
            exact V_vret C (Nat.zero_le _) (Nat.zero_le _) dX7_takePart_204 (hP _ _ _ ⟨rfl, by rw [hp]; exact ⟨he, a2, q2, by omega, p2, by omega, by omega, p5, f4⟩, rfl⟩)
          | ok r =>
            obtain ⟨c, a2⟩ := r
            rw [hr] at hq hp
            obtain ⟨p1, p2, p3, p4, p5, p6⟩ := hq
            have f4 := f2.tr (Nat.le_refl _) p6
            have hEa := (hE.fr f4).at p2
            dsimp only at hp
            by_cases hc : isSP K a2 41
            · rw [if_pos hc] at hp
              have hlt2 : a2 + 1 < K.length := hEa.2.2.2.2.2.1 (by rw [hc.1]; decide)
              have f5 := f4.tr (q2 := q) (Nat.le_refl _) (PFr.o (I := I2) (v := nI (a2 + 1)) (Or.inl rfl))
              refine V_aload_n C dX7_takePart_154 rfl ?_
              refine V_bipush C (v := nI 41) dX7_takePart_155 (by decide +kernel) ?_
              refine V_callV (F := fun _ => True) C (m_takeSign hM (c := 41) (hE.fr f4) p4 p2) mi_X7_takeSign ml_X7_273 rfl (ob_K hM) (by decide) (rmL (by omega) (by decide)) ⟨Nat.le_refl 0, Nat.le_refl 0⟩ (Nat.le_of_ble_eq_true rfl) (fun _ _ => trivial) (fun v _ => clo_T v) rfl dX7_takePart_157 ?_
              rintro v S' I' J' ⟨hS, rfl, hI, hJ⟩
              obtain rfl := hS.symm
              obtain rfl := hI.symm
              obtain rfl := hJ.symm
              rw [if_pos hc]
              refine V_goto C 204 dX7_takePart_160 (by decide) ?_
              exact V_vret C (Nat.zero_le _) (Nat.zero_le _) dX7_takePart_204 (hP _ _ _ ⟨rfl, by rw [hp]; exact ⟨by omega, hlt2, by omega, st_at p4, mtP_cg (I := I2) _ _ (fun i _ _ => ⟨rfl, rfl⟩) p5, f5⟩, rfl⟩)
            · rw [if_neg hc] at hp
              have pe := errP_pos (K := K) (a := a2) (w := 1) hEa.2.2.2.1 (by decide) (by decide)
              have f5 := f4.tr (q2 := q) (Nat.le_refl _) (PFr.o (I := I2) (v := errP K a2 1) (Or.inr (Or.inl rfl)))
              refine V_aload_n C dX7_takePart_154 rfl ?_
              refine V_bipush C (v := nI 41) dX7_takePart_155 (by decide +kernel) ?_
              refine V_callV (F := fun _ => True) C (m_takeSign hM (c := 41) (hE.fr f4) p4 p2) mi_X7_takeSign ml_X7_273 rfl (ob_K hM) (by decide) (rmL (by omega) (by decide)) ⟨Nat.le_refl 0, Nat.le_refl 0⟩ (Nat.le_of_ble_eq_true rfl) (fun _ _ => trivial) (fun v _ => clo_T v) rfl dX7_takePart_157 ?_
              rintro v S' I' J' ⟨hS, rfl, hI, hJ⟩
              obtain rfl := hS.symm
              obtain rfl := hI.symm
              obtain rfl := hJ.symm
              rw [if_neg hc]
              refine V_goto C 204 dX7_takePart_160 (by decide) ?_
              exact V_vret C (Nat.zero_le _) (Nat.zero_le _) dX7_takePart_204 (hP _ _ _ ⟨rfl, by rw [hp]; exact ⟨pe.1, a2, q + c.length, by omega, p2, by omega, by omega, st_f p4, f5⟩, rfl⟩)
        refine V_aload_n C dX7_takePart_113 rfl ?_
        refine V_bipush C (v := nI 13) dX7_takePart_114 (by decide +kernel) ?_
        refine V_callV (F := fun _ => True) C (m_hasWord hM (w := 13) (by omega) hE hT ha) mi_X7_hasWord ml_X7_231 rfl (ob_K hM) (by decide) (rmL (by omega) (by decide)) ⟨Nat.le_refl 0, Nat.le_refl 0⟩ (Nat.le_of_ble_eq_true rfl) (fun _ _ => trivial) (fun v _ => clo_T v) rfl dX7_takePart_116 ?_
        rintro v S' I' J' ⟨hS, rfl, hI, hJ⟩
        obtain rfl := hS.symm
        obtain rfl := hI.symm
        obtain rfl := hJ.symm
        rw [if_neg (fun r => hN r.2)]
        refine V_if_eq C 138 dX7_takePart_119 (by decide) (fun h119 => ?_) (fun h119 => absurd (bI_f (fun r => hN r.2)) h119)
        refine V_aload_n C dX7_takePart_138 rfl ?_
        refine V_bipush C (v := nI 40) dX7_takePart_139 (by decide +kernel) ?_
        refine V_callV (F := fun _ => True) C (m_hasSign hM (c := 40) hE hT ha) mi_X7_hasSign ml_X7_282 rfl (ob_K hM) (by decide) (rmL (by omega) (by decide)) ⟨Nat.le_refl 0, Nat.le_refl 0⟩ (Nat.le_of_ble_eq_true rfl) (fun _ _ => trivial) (fun v _ => clo_T v) rfl dX7_takePart_141 ?_
        rintro v S' I' J' ⟨hS, rfl, hI, hJ⟩
        obtain rfl := hS.symm
        obtain rfl := hI.symm
        obtain rfl := hJ.symm
        rw [if_pos ⟨rfl, hO⟩]
        refine V_if_eq C 163 dX7_takePart_144 (by decide) (fun h144 => absurd h144 (by rw [bI_0]; exact fun r => r ⟨rfl, hO⟩)) (fun h144 => ?_)
        refine V_aload_n C dX7_takePart_147 rfl ?_
        refine V_iload_n C dX7_takePart_148 rfl ?_
        refine V_iconst C (v := nI 1) dX7_takePart_149 (by decide +kernel) ?_
        refine V_iadd C dX7_takePart_150 ?_
        rw [ed]
        refine V_callV (F := fun _ => True) C (sub2 _ _ (a + 1) q hE2 hS2 hlt (by omega)) mi_X7_all ml_X7_266 rfl (ob_K hM) (by decide) (rmL (by omega) (by decide)) ⟨Nat.le_refl 0, Nat.le_refl 0⟩ (Nat.le_of_ble_eq_true rfl) (fun _ _ => trivial) (fun v _ => clo_T v) rfl dX7_takePart_151 ?_
        rintro v S' I2 J2 ⟨hS, rfl, hq, hJ⟩
        obtain rfl := hS.symm
        obtain rfl := hJ.symm
        exact after _ hq
      · rw [if_neg hO] at hp
        have last : ∀ (c : Nat) (v : Int32), parP K (g + 1) a = .ok ([(c, v)], a + 1) → a + 1 < K.length → V X P 0 0 191 [some (.ref 1000), some (.int (nI d)), some (.int (fwN K a 14 9)), some (.int num)] [.int v, .int (nI c), .ref 1000] S I J := by
          intro c v hpc hlt
          have f4 : PFr nx q I (emI I nx q (nI c) v) := emI_fr q1100
          have f5 := f4.tr (q2 := q) (Nat.le_refl _) (PFr.o (I := emI I nx q (nI c) v) (v := nI (a + 1)) (Or.inl rfl))
          have e77 : (emI I nx q (nI c) v) 1000 7 + nI 1 = nI (a + 1) := by rw [(emI_st (c := nI c) (v := v) hT).1, nI_add]
          refine V_callV (F := fun _ => True) C (m_emit hM hT q1100 _ _) mi_X7_emit ml_X7_269 rfl (ob_K hM) (by decide) (rmL (by omega) (by decide)) ⟨Nat.le_refl 0, Nat.le_refl 0⟩ (Nat.le_of_ble_eq_true rfl) (fun _ _ => trivial) (fun v _ => clo_T v) rfl dX7_takePart_191 ?_
          rintro v S' I' J' ⟨hS, rfl, hI, hJ⟩
          obtain rfl := hS.symm
          obtain rfl := hI.symm
          obtain rfl := hJ.symm
          refine V_aload_n C dX7_takePart_194 rfl ?_
          refine V_dup C dX7_takePart_195 rfl ?_
          refine V_getI C fl_X7_216 (ob_K hM) rfl dX7_takePart_196 ?_
          refine V_iconst C (v := nI 1) dX7_takePart_199 (by decide +kernel) ?_
          refine V_iadd C dX7_takePart_200 ?_
          refine V_putI C fl_X7_216 (ob_K hM) rfl rfl dX7_takePart_201 ?_
          rw [e77]
          exact V_vret C (Nat.zero_le _) (Nat.zero_le _) dX7_takePart_204 (hP _ _ _ ⟨rfl, by rw [hpc]; exact ⟨by omega, hlt, by simp, st_at (emI_st hT), mtP_cg (I := emI I nx q (nI c) v) _ _ (fun i _ _ => ⟨rfl, rfl⟩) emI_mt, f5⟩, rfl⟩)
        by_cases h2 : (tk K a).1 = 2
        · rw [if_pos h2] at hp
          have l2 := last _ _ hp (e6 (by omega))
          rw [num1 h2] at l2 ⊢
          refine V_aload_n C dX7_takePart_113 rfl ?_
          refine V_bipush C (v := nI 13) dX7_takePart_114 (by decide +kernel) ?_
          refine V_callV (F := fun _ => True) C (m_hasWord hM (w := 13) (by omega) hE hT ha) mi_X7_hasWord ml_X7_231 rfl (ob_K hM) (by decide) (rmL (by omega) (by decide)) ⟨Nat.le_refl 0, Nat.le_refl 0⟩ (Nat.le_of_ble_eq_true rfl) (fun _ _ => trivial) (fun v _ => clo_T v) rfl dX7_takePart_116 ?_
          rintro v S' I' J' ⟨hS, rfl, hI, hJ⟩
          obtain rfl := hS.symm
          obtain rfl := hI.symm
          obtain rfl := hJ.symm
          rw [if_neg (fun r => hN r.2)]
          refine V_if_eq C 138 dX7_takePart_119 (by decide) (fun h119 => ?_) (fun h119 => absurd (bI_f (fun r => hN r.2)) h119)
          refine V_aload_n C dX7_takePart_138 rfl ?_
          refine V_bipush C (v := nI 40) dX7_takePart_139 (by decide +kernel) ?_
          refine V_callV (F := fun _ => True) C (m_hasSign hM (c := 40) hE hT ha) mi_X7_hasSign ml_X7_282 rfl (ob_K hM) (by decide) (rmL (by omega) (by decide)) ⟨Nat.le_refl 0, Nat.le_refl 0⟩ (Nat.le_of_ble_eq_true rfl) (fun _ _ => trivial) (fun v _ => clo_T v) rfl dX7_takePart_141 ?_
          rintro v S' I' J' ⟨hS, rfl, hI, hJ⟩
          obtain rfl := hS.symm
          obtain rfl := hI.symm
          obtain rfl := hJ.symm
          rw [if_neg (fun r => hO r.2)]
          refine V_if_eq C 163 dX7_takePart_144 (by decide) (fun h144 => ?_) (fun h144 => absurd (bI_f (fun r => hO r.2)) h144)
          refine V_aload_n C dX7_takePart_163 rfl ?_
          refine V_iload_n C dX7_takePart_164 rfl ?_
          refine V_if_eq C 172 dX7_takePart_165 (by decide) (fun h165 => absurd h165 (by decide)) (fun h165 => ?_)
          refine V_iconst C (v := nI 1) dX7_takePart_168 (by decide +kernel) ?_
          refine V_goto C 173 dX7_takePart_169 (by decide) ?_
          refine V_iload_n C dX7_takePart_173 rfl ?_
          refine V_if_eq C 190 dX7_takePart_174 (by decide) (fun h174 => absurd h174 (by decide)) (fun h174 => ?_)
          refine V_aload_n C dX7_takePart_177 rfl ?_
          refine V_getR C fl_X7_30 (ob_K hM) (ob_R hM 6 1007 rfl rfl) rfl dX7_takePart_178 ?_
          refine V_aload_n C dX7_takePart_181 rfl ?_
          refine V_getI C fl_X7_216 (ob_K hM) rfl dX7_takePart_182 ?_
          refine V_lald C (a) (ob_A hM 6 1007 rfl rfl) hT.1 (by rw [ob_N hM 6 1007 rfl rfl]; omega) (by rw [ob_N hM 6 1007 rfl rfl]; decide) dX7_takePart_185 ?_
          rw [e3' h2]
          refine V_l2i C dX7_takePart_186 ?_
          refine V_goto C 191 dX7_takePart_187 (by decide) ?_
          exact l2
        · rw [if_neg h2] at hp
          have hf : ¬ fwN K a 14 9 < 0 := fun q => hb ⟨q, h2, hO, hN⟩
          have l2 := last _ _ hp (e6 (by
            rcases fwN_or (K := K) (a := a) (w := 14) 9 with h | ⟨j, _, _, h⟩
            · exact absurd (by rw [h]; decide) hf
            · rw [h.1]; decide))
          rw [num0 h2] at l2 ⊢
          refine V_aload_n C dX7_takePart_113 rfl ?_
          refine V_bipush C (v := nI 13) dX7_takePart_114 (by decide +kernel) ?_
          refine V_callV (F := fun _ => True) C (m_hasWord hM (w := 13) (by omega) hE hT ha) mi_X7_hasWord ml_X7_231 rfl (ob_K hM) (by decide) (rmL (by omega) (by decide)) ⟨Nat.le_refl 0, Nat.le_refl 0⟩ (Nat.le_of_ble_eq_true rfl) (fun _ _ => trivial) (fun v _ => clo_T v) rfl dX7_takePart_116 ?_
          rintro v S' I' J' ⟨hS, rfl, hI, hJ⟩
          obtain rfl := hS.symm
          obtain rfl := hI.symm
          obtain rfl := hJ.symm
          rw [if_neg (fun r => hN r.2)]
          refine V_if_eq C 138 dX7_takePart_119 (by decide) (fun h119 => ?_) (fun h119 => absurd (bI_f (fun r => hN r.2)) h119)
          refine V_aload_n C dX7_takePart_138 rfl ?_
          refine V_bipush C (v := nI 40) dX7_takePart_139 (by decide +kernel) ?_
          refine V_callV (F := fun _ => True) C (m_hasSign hM (c := 40) hE hT ha) mi_X7_hasSign ml_X7_282 rfl (ob_K hM) (by decide) (rmL (by omega) (by decide)) ⟨Nat.le_refl 0, Nat.le_refl 0⟩ (Nat.le_of_ble_eq_true rfl) (fun _ _ => trivial) (fun v _ => clo_T v) rfl dX7_takePart_141 ?_
          rintro v S' I' J' ⟨hS, rfl, hI, hJ⟩
          obtain rfl := hS.symm
          obtain rfl := hI.symm
          obtain rfl := hJ.symm
          rw [if_neg (fun r => hO r.2)]
          refine V_if_eq C 163 dX7_takePart_144 (by decide) (fun h144 => ?_) (fun h144 => absurd (bI_f (fun r => hO r.2)) h144)
          refine V_aload_n C dX7_takePart_163 rfl ?_
          refine V_iload_n C dX7_takePart_164 rfl ?_
          refine V_if_eq C 172 dX7_takePart_165 (by decide) (fun h165 => ?_) (fun h165 => absurd (by decide) h165)
          refine V_iconst C (v := nI 2) dX7_takePart_172 (by decide +kernel) ?_
          refine V_iload_n C dX7_takePart_173 rfl ?_
          refine V_if_eq C 190 dX7_takePart_174 (by decide) (fun h174 => ?_) (fun h174 => absurd (by decide) h174)
          refine V_iload_n C dX7_takePart_190 rfl ?_
          exact l2
  have go95 : ¬ badP K a → V X P 0 0 95 [some (.ref 1000), some (.int (nI d)), some (.int (fwN K a 14 9)), some (.int num)] [] S I J := by
    intro hb
    cases hf : f with
    | zero =>
      subst hf
      have hd4 : d = 4 := by omega
      refine V_iload_n C dX7_takePart_95 rfl ?_
      refine V_iconst C (v := nI 4) dX7_takePart_96 (by decide +kernel) ?_
      refine V_icmp_ne C 105 dX7_takePart_97 (by decide) (fun h97 => absurd (by rw [hd4]) h97) (fun h97 => ?_)
      refine V_aload_n C dX7_takePart_100 rfl ?_
      refine V_iconst C (v := nI 5) dX7_takePart_101 (by decide +kernel) ?_
      refine V_callV (F := fun _ => True) C (m_wrong hM (w := 5) hE hT ha) mi_X7_wrong ml_X7_225 rfl (ob_K hM) (by decide) (rmL (by omega) (by decide)) ⟨Nat.le_refl 0, Nat.le_refl 0⟩ (Nat.le_of_ble_eq_true rfl) (fun _ _ => trivial) (fun v _ => clo_T v) rfl dX7_takePart_102 ?_
      rintro v S' I' J' ⟨hS, rfl, hI, hJ⟩
      obtain rfl := hS.symm
      obtain rfl := hI.symm
      obtain rfl := hJ.symm
      exact err 5 (by decide) (by decide) (by rw [parP, if_neg hb]) _ _
    | succ g =>
      have hd4 : ¬ nI d = nI 4 := fun q => by have := (nI_eq (by omega) (by omega)).mp q; omega
      refine V_iload_n C dX7_takePart_95 rfl ?_
      refine V_iconst C (v := nI 4) dX7_takePart_96 (by decide +kernel) ?_
      refine V_icmp_ne C 105 dX7_takePart_97 (by decide) (fun h97 => ?_) (fun h97 => absurd h97 (hd4))
      refine V_aload_n C dX7_takePart_105 rfl ?_
      refine V_getI C fl_X7_219 (ob_K hM) rfl dX7_takePart_106 ?_
      refine V_if_le C 113 dX7_takePart_109 (by decide) (fun h109 => ?_) (fun h109 => absurd (by rw [ef]; decide) h109)
      exact go113 hb g hf
  have go42 : V X P 0 0 42 [some (.ref 1000), some (.int (nI d)), some (.int (fwN K a 14 9)), some (.int (nI 23))] [] S I J := by
    have key : V X P 0 0 61 [some (.ref 1000), some (.int (nI d)), some (.int (fwN K a 14 9)), some (.int num)] [] S I J := by
      refine V_iload_n C dX7_takePart_61 rfl ?_
      refine V_if_ge C 95 dX7_takePart_62 (by decide) (fun h62 => ?_) (fun h62 => ?_)
      · first | exact go95 (fun q => absurd h62 (Int32.not_le.mpr q.1)) | exact go95 (fun q => h66 (num0 q.2.1)) | exact go95 (fun q => h75 (bI_f (fun r => q.2.2.1 r.2))) | exact go95 (fun q => h84 (bI_f (fun r => q.2.2.2 r.2)))
      · refine V_iload_n C dX7_takePart_65 rfl ?_
        refine V_if_ne C 95 dX7_takePart_66 (by decide) (fun h66 => ?_) (fun h66 => ?_)
        · first | exact go95 (fun q => absurd h62 (Int32.not_le.mpr q.1)) | exact go95 (fun q => h66 (num0 q.2.1)) | exact go95 (fun q => h75 (bI_f (fun r => q.2.2.1 r.2))) | exact go95 (fun q => h84 (bI_f (fun r => q.2.2.2 r.2)))
        · refine V_aload_n C dX7_takePart_69 rfl ?_
          refine V_bipush C (v := nI 40) dX7_takePart_70 (by decide +kernel) ?_
          refine V_callV (F := fun _ => True) C (m_isSign hM (c := 40) hE hT ha) mi_X7_isSign ml_X7_222 rfl (ob_K hM) (by decide) (rmL (by omega) (by decide)) ⟨Nat.le_refl 0, Nat.le_refl 0⟩ (Nat.le_of_ble_eq_true rfl) (fun _ _ => trivial) (fun v _ => clo_T v) rfl dX7_takePart_72 ?_
          rintro v S' I' J' ⟨hS, rfl, hI, hJ⟩
          obtain rfl := hS.symm
          obtain rfl := hI.symm
          obtain rfl := hJ.symm
          refine V_if_ne C 95 dX7_takePart_75 (by decide) (fun h75 => ?_) (fun h75 => ?_)
          · first | exact go95 (fun q => absurd h62 (Int32.not_le.mpr q.1)) | exact go95 (fun q => h66 (num0 q.2.1)) | exact go95 (fun q => h75 (bI_f (fun r => q.2.2.1 r.2))) | exact go95 (fun q => h84 (bI_f (fun r => q.2.2.2 r.2)))
          · refine V_aload_n C dX7_takePart_78 rfl ?_
            refine V_bipush C (v := nI 13) dX7_takePart_79 (by decide +kernel) ?_
            refine V_callV (F := fun _ => True) C (m_isWord hM (w := 13) (by omega) hE hT ha) mi_X7_isWord ml_X7_228 rfl (ob_K hM) (by decide) (rmL (by omega) (by decide)) ⟨Nat.le_refl 0, Nat.le_refl 0⟩ (Nat.le_of_ble_eq_true rfl) (fun _ _ => trivial) (fun v _ => clo_T v) rfl dX7_takePart_81 ?_
            rintro v S' I' J' ⟨hS, rfl, hI, hJ⟩
            obtain rfl := hS.symm
            obtain rfl := hI.symm
            obtain rfl := hJ.symm
            refine V_if_ne C 95 dX7_takePart_84 (by decide) (fun h84 => ?_) (fun h84 => ?_)
            · first | exact go95 (fun q => absurd h62 (Int32.not_le.mpr q.1)) | exact go95 (fun q => h66 (num0 q.2.1)) | exact go95 (fun q => h75 (bI_f (fun r => q.2.2.1 r.2))) | exact go95 (fun q => h84 (bI_f (fun r => q.2.2.2 r.2)))
            · refine V_aload_n C dX7_takePart_87 rfl ?_
              refine V_iconst C (v := nI 1) dX7_takePart_88 (by decide +kernel) ?_
              refine V_callV (F := fun _ => True) C (m_wrong hM (w := 1) hE hT ha) mi_X7_wrong ml_X7_225 rfl (ob_K hM) (by decide) (rmL (by omega) (by decide)) ⟨Nat.le_refl 0, Nat.le_refl 0⟩ (Nat.le_of_ble_eq_true rfl) (fun _ _ => trivial) (fun v _ => clo_T v) rfl dX7_takePart_89 ?_
              rintro v S' I' J' ⟨hS, rfl, hI, hJ⟩
              obtain rfl := hS.symm
              obtain rfl := hI.symm
              obtain rfl := hJ.symm
              refine V_goto C 105 dX7_takePart_92 (by decide) ?_
              exact err 1 (by decide) (by decide) (by have hb : badP K a := ⟨Int32.not_le.mp h62, fun q => absurd (num1 q) (by rw [h66]; decide), fun q => bI_0.mp h75 ⟨rfl, q⟩, fun q => bI_0.mp h84 ⟨rfl, q⟩⟩; cases f with | zero => rw [parP, if_pos hb] | succ g => rw [parP, if_pos hb]) _ _
    refine V_aload_n C dX7_takePart_42 rfl ?_
    refine V_getR C fl_X7_24 (ob_K hM) (ob_R hM 4 1005 rfl rfl) rfl dX7_takePart_43 ?_
    refine V_aload_n C dX7_takePart_46 rfl ?_
    refine V_getI C fl_X7_216 (ob_K hM) rfl dX7_takePart_47 ?_
    refine V_iald C (a) (ob_A hM 4 1005 rfl rfl) hT.1 (by rw [ob_N hM 4 1005 rfl rfl]; omega) (by rw [ob_N hM 4 1005 rfl rfl]; decide) dX7_takePart_50 ?_
    refine V_iconst C (v := nI 2) dX7_takePart_51 (by decide +kernel) ?_
    rw [e1]
    refine V_tern_icmp_ne (vt := nI 1) (vf := nI 0) (pm := 60) C 59 dX7_takePart_52 (by decide) (fun h52 k => ?_) (fun h52 k => ?_) ?_
    · refine V_iconst C (v := nI 1) dX7_takePart_55 (by decide +kernel) ?_
      refine V_goto C 60 dX7_takePart_56 (by decide) ?_
      exact k
    · refine V_iconst C (v := nI 0) dX7_takePart_59 (by decide +kernel) ?_
      exact k
    refine V_istore_n C dX7_takePart_60 (hn _ (by decide)) ?_
    rw [← hnum]
    exact key
  have loop : ∀ (c x : Nat), x + c = 9 → V X P 0 0 13 [some (.ref 1000), some (.int (nI d)), some (.int (fwN K a 14 x)), some (.int (nI (14 + x)))] [] S I J := by
    intro c
    induction c with
    | zero =>
      intro x hx
      have hx : x = 9 := hx
      subst hx
      refine V_iload_n C dX7_takePart_13 rfl ?_
      refine V_bipush C (v := nI 23) dX7_takePart_14 (by decide +kernel) ?_
      refine V_icmp_ge C 42 dX7_takePart_16 (by decide) (fun h16 => ?_) (fun h16 => absurd (by decide) h16)
      exact go42
    | succ c ih =>
      intro x hx
      have nx2 := ih (x + 1) (by omega)
      rw [fwN] at nx2
      have es : nI (14 + x) - nI 14 = nI x := by rw [pk_sub (by omega)]; congr 1; omega
      by_cases hw : isWP K a (14 + x)
      · rw [if_pos hw] at nx2
        refine V_iload_n C dX7_takePart_13 rfl ?_
        refine V_bipush C (v := nI 23) dX7_takePart_14 (by decide +kernel) ?_
        refine V_icmp_ge C 42 dX7_takePart_16 (by decide) (fun h16 => absurd h16 (nI_ge (by omega) (by omega))) (fun h16 => ?_)
        refine V_aload_n C dX7_takePart_19 rfl ?_
        refine V_iload_n C dX7_takePart_20 rfl ?_
        refine V_callV (F := fun _ => True) C (m_isWord hM (w := 14 + x) (by omega) hE hT ha) mi_X7_isWord ml_X7_228 rfl (ob_K hM) (by decide) (rmL (by omega) (by decide)) ⟨Nat.le_refl 0, Nat.le_refl 0⟩ (Nat.le_of_ble_eq_true rfl) (fun _ _ => trivial) (fun v _ => clo_T v) rfl dX7_takePart_21 ?_
        rintro v S' I' J' ⟨hS, rfl, hI, hJ⟩
        obtain rfl := hS.symm
        obtain rfl := hI.symm
        obtain rfl := hJ.symm
        refine V_if_eq C 34 dX7_takePart_24 (by decide) (fun h24 => absurd h24 (by rw [bI_0]; exact fun r => r ⟨rfl, hw⟩)) (fun h24 => ?_)
        refine V_iload_n C dX7_takePart_27 rfl ?_
        refine V_bipush C (v := nI 14) dX7_takePart_28 (by decide +kernel) ?_
        refine V_isub C dX7_takePart_30 ?_
        rw [es]
        refine V_goto C 35 dX7_takePart_31 (by decide) ?_
        refine V_istore_n C dX7_takePart_35 (hn _ (by decide)) ?_
        refine V_iincU C dX7_takePart_36 rfl (hn _ (by decide)) ?_
        refine V_goto C 13 dX7_takePart_39 (by decide) ?_
        exact nx2
      · rw [if_neg hw] at nx2
        refine V_iload_n C dX7_takePart_13 rfl ?_
        refine V_bipush C (v := nI 23) dX7_takePart_14 (by decide +kernel) ?_
        refine V_icmp_ge C 42 dX7_takePart_16 (by decide) (fun h16 => absurd h16 (nI_ge (by omega) (by omega))) (fun h16 => ?_)
        refine V_aload_n C dX7_takePart_19 rfl ?_
        refine V_iload_n C dX7_takePart_20 rfl ?_
        refine V_callV (F := fun _ => True) C (m_isWord hM (w := 14 + x) (by omega) hE hT ha) mi_X7_isWord ml_X7_228 rfl (ob_K hM) (by decide) (rmL (by omega) (by decide)) ⟨Nat.le_refl 0, Nat.le_refl 0⟩ (Nat.le_of_ble_eq_true rfl) (fun _ _ => trivial) (fun v _ => clo_T v) rfl dX7_takePart_21 ?_
        rintro v S' I' J' ⟨hS, rfl, hI, hJ⟩
        obtain rfl := hS.symm
        obtain rfl := hI.symm
        obtain rfl := hJ.symm
        refine V_if_eq C 34 dX7_takePart_24 (by decide) (fun h24 => ?_) (fun h24 => absurd (bI_f (fun r => hw r.2)) h24)
        refine V_iload_n C dX7_takePart_34 rfl ?_
        refine V_istore_n C dX7_takePart_35 (hn _ (by decide)) ?_
        refine V_iincU C dX7_takePart_36 rfl (hn _ (by decide)) ?_
        refine V_goto C 13 dX7_takePart_39 (by decide) ?_
        exact nx2
  refine V_aload_n C dX7_takePart_0 rfl ?_
  refine V_getI C fl_X7_219 (ob_K hM) rfl dX7_takePart_1 ?_
  refine V_if_le C 8 dX7_takePart_4 (by decide) (fun h4 => ?_) (fun h4 => absurd (by rw [ef]; decide) h4)
  refine V_iconst C (v := (-1)) dX7_takePart_8 (by decide +kernel) ?_
  refine V_istore_n C dX7_takePart_9 (hn _ (by decide)) ?_
  refine V_bipush C (v := nI 14) dX7_takePart_10 (by decide +kernel) ?_
  refine V_istore_n C dX7_takePart_12 (hn _ (by decide)) ?_
  exact loop 9 0 rfl
/-- all levels -/
theorem m_levels (hM : Ob S 7 1000) {K : List Tok} {nx : Nat} : ∀ (f d : Nat), d + f = 4 → MP yX7_takePart cX7_takePart 4 (5 * f + 2) d S J K nx (parP K f) ∧ MP yX7_all cX7_all 3 (5 * f + 6) d S J K nx (allP K (parP K f)) := by
  intro f
  induction f with
  | zero =>
    intro d hd
    have h1 : MP yX7_takePart cX7_takePart 4 (5 * 0 + 2) d S J K nx (parP K 0) := m_takePart hM hd (fun g hg => by cases hg)
    exact ⟨h1, m_all hM (m_test hM (by omega) (m_sums hM (m_products hM h1)))⟩
  | succ f ih =>
    intro d hd
    have h1 : MP yX7_takePart cX7_takePart 4 (5 * (f + 1) + 2) d S J K nx (parP K (f + 1)) := m_takePart hM hd (fun g hg => by cases hg; exact ih (d + 1) (by omega))
    exact ⟨h1, m_all hM (m_test hM (by omega) (m_sums hM (m_products hM h1)))⟩
end M26
