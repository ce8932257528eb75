/-! the class's reader: a test, a part; all of it by levels -/
section C36
variable {S : HS} {J : HJ} {la : Nat} {T : List Int32}
set_option maxRecDepth 100000 in
set_option maxHeartbeats 1000000 in
theorem c_readTest (hR : RdS S la) (hla : hLA la) {m d n : Nat} (hm : m ≤ 24) (hn5 : 5 ≤ n) {sub : Nat → PR} (hsub : CM yX4_readSum cX4_readSum 4 n d S J T la m sub) : CM yX4_readTest cX4_readTest 3 (n + 1) d S J T la m (tstP (selP (fun a => isSP (toks T) a 60) (fun a => isSP (toks T) a 61) 8 9) sub) := by
  intro l I a q hE hs hL ha hqa
  refine Mn.of (by decide) (fun ad => by simp [lg_sl, vv, Value.category]) (fun X P hP hn C => ?_)
  have hR0 := hR
  obtain ⟨hM, hT0, hT1, hTp, hLa⟩ := hR
  have hlen := tk_len (T := T)
  have h1000 := hE.2.1
  obtain ⟨sel, hsel⟩ : ∃ sel, sel = selP (fun a => isSP (toks T) a 60) (fun a => isSP (toks T) a 61) 8 9 := ⟨_, rfl⟩
  rw [← hsel] at hP
  have bad : ∀ (In : HI) (e : Int32), 0 < e → In 1130 2 = e → (∃ q', q ≤ q' ∧ q' ≤ 1000 ∧ In la 2 = nI q') → CFr la m q I In → tstP sel sub a = .error e → V X P 0 0 5 [some (.ref 1130), some (.int (nI d)), none] [] S In J := by
    intro In e he h1 h2 h3 h4
    have nf : ¬ In 1130 2 = 0 := by rw [h1]; exact pos_ne he
    refine V_aload_n C dX4_readTest_5 rfl ?_
    refine V_getI C fl_X4_24 (ob_K hM) rfl dX4_readTest_6 ?_
    refine V_if_ne C 21 dX4_readTest_9 (by decide) (fun h9 => ?_) (fun h9 => absurd h9 (nf))
    refine V_iconst C (v := (-1)) dX4_readTest_21 (by decide +kernel) ?_
    refine V_istore_n C dX4_readTest_22 (hn _ (by decide)) ?_
    refine V_iload_n C dX4_readTest_23 rfl ?_
    refine V_iconst C (v := (-1)) dX4_readTest_24 (by decide +kernel) ?_
    refine V_icmp_eq C 56 dX4_readTest_25 (by decide) (fun h25 => ?_) (fun h25 => absurd (rfl) h25)
    exact V_vret C (Nat.zero_le _) (Nat.zero_le _) dX4_readTest_56 (hP _ _ _ ⟨rfl, by rw [h4]; exact ⟨he, h1, h2, h3⟩, rfl⟩)
  have good : ∀ (In : HI) (cd : Cds) (a' : Nat), sub a = .ok (cd, a') → a < a' → a' < (toks T).length → a + cd.length ≤ a' → RSt In T a' 0 → LSt In la m (q + cd.length) → cxC In la cd q → CFr la m q I In → V X P 0 0 5 [some (.ref 1130), some (.int (nI d)), none] [] S In J := by
    intro In cd a' hsa h3 h4 h5 h6 h7 h8 hF9
    have hEn := hE.fr hla hF9
    have h10 : tstP sel sub a = tstP sel sub a := rfl
    conv at h10 => rhs; rw [tstP, hsa]
    dsimp only at h10
    have wv : (sel a' = none ∧ sgA T 10 a' = -1) ∨ (∃ op k, 4 ≤ op ∧ sel a' = some op ∧ (tk (toks T) a').1 ≠ 0 ∧ ((op = 8 ∧ sgA T 10 a' = nI 0 ∧ k = 13) ∨ (op = 9 ∧ sgA T 10 a' = nI 1 ∧ k = 14)) ∧ cOp op = k) := by
      rw [hsel]
      unfold selP
      dsimp only
      rw [sgA_2 (c1 := 60) (c2 := 61) h4 rfl]
      by_cases g1 : isSP (toks T) a' 60
      · rw [if_pos g1, if_pos g1]
        exact Or.inr ⟨8, 13, by decide, rfl, by rw [g1.1]; decide, Or.inl ⟨rfl, rfl, rfl⟩, rfl⟩
      · rw [if_neg g1, if_neg g1]
        by_cases g2 : isSP (toks T) a' 61
        · rw [if_pos g2, if_pos g2]
          exact Or.inr ⟨9, 14, by decide, rfl, by rw [g2.1]; decide, Or.inr ⟨rfl, rfl, rfl⟩, rfl⟩
        · rw [if_neg g2, if_neg g2]
          exact Or.inl ⟨rfl, rfl⟩
    rcases wv with ⟨es, ew⟩ | ⟨op, k, hop4, es, h0, hopk, hck⟩
    · rw [es] at h10
      refine V_aload_n C dX4_readTest_5 rfl ?_
      refine V_getI C fl_X4_24 (ob_K hM) rfl dX4_readTest_6 ?_
      refine V_if_ne C 21 dX4_readTest_9 (by decide) (fun h9 => absurd (h6.1) h9) (fun h9 => ?_)
      refine V_aload_n C dX4_readTest_12 rfl ?_
      refine V_ldcS C rfl 10 (by decide) rfl dX4_readTest_13 ?_
      refine V_callV (F := fun _ => True) C (c_signAmong hR0 hEn (i := 10) (by decide) h6 h4) mi_X4_signAmong ml_X4_114 rfl (ob_K hM) (by decide) (rmL (by omega) (by decide)) ⟨Nat.le_refl 0, Nat.le_refl 0⟩ (Nat.le_of_ble_eq_true rfl) (fun _ _ => trivial) (fun v _ => clo_T v) rfl dX4_readTest_15 ?_
      rintro v S' I' J' ⟨hS9, rfl, hI9, hJ9⟩
      obtain rfl := hS9.symm
      obtain rfl := hI9.symm
      obtain rfl := hJ9.symm
      refine V_goto C 22 dX4_readTest_18 (by decide) ?_
      refine V_istore_n C dX4_readTest_22 (hn _ (by decide)) ?_
      refine V_iload_n C dX4_readTest_23 rfl ?_
      refine V_iconst C (v := (-1)) dX4_readTest_24 (by decide +kernel) ?_
      refine V_icmp_eq C 56 dX4_readTest_25 (by decide) (fun h25 => ?_) (fun h25 => absurd (ew) h25)
      exact V_vret C (Nat.zero_le _) (Nat.zero_le _) dX4_readTest_56 (hP _ _ _ ⟨rfl, by rw [h10]; exact ⟨h3, h4, h5, h6, h7, h8, hF9⟩, rfl⟩)
    · have hlt : a' + 1 < (toks T).length := (tk_wf h4).2.2 h0
      rw [es] at h10
      dsimp only at h10
      have ev : ∀ (In2 : HI) (w : Int32), (w = nI 0 ∧ k = 13) ∨ (w = nI 1 ∧ k = 14) → TG In2 T → RSt In2 T (a' + 1) 0 → LSt In2 la m (q + cd.length) → cxC In2 la cd q → CFr la m q I In2 → V X P 0 0 32 [some (.ref 1130), some (.int (nI d)), some (.int w)] [] S In2 J := by
        intro In2 w hw g1 g2 g3 g4 g5
        have kk : ∀ In3, CPost T la m (a' + 1) (q + cd.length) In2 In3 (sub (a' + 1)) → V X P 0 0 37 [some (.ref 1130), some (.int (nI d)), some (.int w)] [] S In3 J := by
          intro In3 hp
          cases hsa : sub (a' + 1) with
          | error e =>
            rw [hsa] at hp h10
            obtain ⟨p1, p2, ⟨q', p3, p4, p5⟩, p6⟩ := hp
            have e0 : In3 la 0 = nI m := (p6.2.1 0 (by decide)).trans g3.1
            have f3 := g5.tr (by omega) p6
            rcases hw with ⟨rfl, hk⟩ | ⟨rfl, hk⟩
            · refine V_aload_n C dX4_readTest_37 rfl ?_
              refine V_getR C fl_X4_15 (ob_K hM) hT1 rfl dX4_readTest_38 ?_
              refine V_iload_n C dX4_readTest_41 rfl ?_
              refine V_if_ne C 50 dX4_readTest_42 (by decide) (fun h42 => absurd (rfl) h42) (fun h42 => ?_)
              refine V_bipush C (v := nI 13) dX4_readTest_45 (by decide +kernel) ?_
              refine V_goto C 52 dX4_readTest_47 (by decide) ?_
              refine V_iconst C (v := nI 0) dX4_readTest_52 (by decide +kernel) ?_
              refine V_callV (F := fun _ => True) C (c_addCodeF hLa e0 hm p5 p4 (q0 := q) (by omega) hla _ _) mi_X2_addCode ml_X4_146 rfl (ob_K hLa) (by decide) (rmL (by omega) (by decide)) ⟨Nat.le_refl 0, Nat.le_refl 0⟩ (Nat.le_of_ble_eq_true rfl) (fun _ _ => trivial) (fun v _ => clo_T v) rfl dX4_readTest_53 ?_
              rintro v S' I4 J4 ⟨hS9, rfl, ⟨k1, k2, q9, k3, k4, k5⟩, hJ9⟩
              obtain rfl := hS9.symm
              obtain rfl := hJ9.symm
              exact V_vret C (Nat.zero_le _) (Nat.zero_le _) dX4_readTest_56 (hP _ _ _ ⟨rfl, by rw [h10]; exact ⟨p1, by rw [k2]; exact p2, ⟨q9, k3, k4, k5⟩, f3.tr (Nat.le_refl _) k1⟩, rfl⟩)
            · refine V_aload_n C dX4_readTest_37 rfl ?_
              refine V_getR C fl_X4_15 (ob_K hM) hT1 rfl dX4_readTest_38 ?_
              refine V_iload_n C dX4_readTest_41 rfl ?_
              refine V_if_ne C 50 dX4_readTest_42 (by decide) (fun h42 => ?_) (fun h42 => absurd h42 ((by decide)))
              refine V_bipush C (v := nI 14) dX4_readTest_50 (by decide +kernel) ?_
              refine V_iconst C (v := nI 0) dX4_readTest_52 (by decide +kernel) ?_
              refine V_callV (F := fun _ => True) C (c_addCodeF hLa e0 hm p5 p4 (q0 := q) (by omega) hla _ _) mi_X2_addCode ml_X4_146 rfl (ob_K hLa) (by decide) (rmL (by omega) (by decide)) ⟨Nat.le_refl 0, Nat.le_refl 0⟩ (Nat.le_of_ble_eq_true rfl) (fun _ _ => trivial) (fun v _ => clo_T v) rfl dX4_readTest_53 ?_
              rintro v S' I4 J4 ⟨hS9, rfl, ⟨k1, k2, q9, k3, k4, k5⟩, hJ9⟩
              obtain rfl := hS9.symm
              obtain rfl := hJ9.symm
              exact V_vret C (Nat.zero_le _) (Nat.zero_le _) dX4_readTest_56 (hP _ _ _ ⟨rfl, by rw [h10]; exact ⟨p1, by rw [k2]; exact p2, ⟨q9, k3, k4, k5⟩, f3.tr (Nat.le_refl _) k1⟩, rfl⟩)
          | ok r =>
            obtain ⟨c2, a2⟩ := r
            rw [hsa] at hp h10
            obtain ⟨p1, p2, p3, p4, p5, p6, p7⟩ := hp
            obtain ⟨Q, hQ⟩ : ∃ Q, Q = q + cd.length + c2.length := ⟨_, rfl⟩
            rw [← hQ] at p5
            have f3 := g5.tr (by omega) p7
            have hl3 : (cd ++ c2 ++ [(op, (0 : Int32))]).length = cd.length + c2.length + 1 := by rw [List.length_append, List.length_append]; rfl
            have nx : CPost T la m a q I (adC In3 la m Q (nI k)) (tstP sel sub a) := by
              rw [h10]
              refine ⟨by omega, p2, by rw [hl3]; omega, adC_rd hla p4, by rw [hl3, show q + (cd.length + c2.length + 1) = Q + 1 by omega]; exact adC_ls p5.1, ?_, f3.tr (q2 := Q) (by omega) adC_fr⟩
              refine cxC_app _ _ _ (cxC_kp _ _ (fun j j1 j2 => ?_) (cxC_app _ _ _ (cxC_kp _ _ (fun j j1 j2 => p7.2.2.2 j (by omega)) g4) p6)) ⟨⟨fun q => ?_, fun q => ?_, fun _ => ?_⟩, trivial⟩
              · rw [List.length_append] at j2
                exact adC_fr.2.2.2 j (by omega)
              · dsimp only at q; omega
              · dsimp only at q; omega
              · rw [List.length_append, show q + (cd.length + c2.length) = Q by omega, adC_at, hck]
            rcases hw with ⟨rfl, hk⟩ | ⟨rfl, hk⟩
            · rw [hk] at nx
              refine V_aload_n C dX4_readTest_37 rfl ?_
              refine V_getR C fl_X4_15 (ob_K hM) hT1 rfl dX4_readTest_38 ?_
              refine V_iload_n C dX4_readTest_41 rfl ?_
              refine V_if_ne C 50 dX4_readTest_42 (by decide) (fun h42 => absurd (rfl) h42) (fun h42 => ?_)
              refine V_bipush C (v := nI 13) dX4_readTest_45 (by decide +kernel) ?_
              refine V_goto C 52 dX4_readTest_47 (by decide) ?_
              refine V_iconst C (v := nI 0) dX4_readTest_52 (by decide +kernel) ?_
              refine V_callV (F := fun _ => True) C (c_addCode hLa p5.1 hm p5.2.1 (by omega) _ _) mi_X2_addCode ml_X4_146 rfl (ob_K hLa) (by decide) (rmL (by omega) (by decide)) ⟨Nat.le_refl 0, Nat.le_refl 0⟩ (Nat.le_of_ble_eq_true rfl) (fun _ _ => trivial) (fun v _ => clo_T v) rfl dX4_readTest_53 ?_
              rintro v S' I' J' ⟨hS9, rfl, hI9, hJ9⟩
              obtain rfl := hS9.symm
              obtain rfl := hI9.symm
              obtain rfl := hJ9.symm
              rw [sl_0]
              exact V_vret C (Nat.zero_le _) (Nat.zero_le _) dX4_readTest_56 (hP _ _ _ ⟨rfl, nx, rfl⟩)
            · rw [hk] at nx
              refine V_aload_n C dX4_readTest_37 rfl ?_
              refine V_getR C fl_X4_15 (ob_K hM) hT1 rfl dX4_readTest_38 ?_
              refine V_iload_n C dX4_readTest_41 rfl ?_
              refine V_if_ne C 50 dX4_readTest_42 (by decide) (fun h42 => ?_) (fun h42 => absurd h42 ((by decide)))
              refine V_bipush C (v := nI 14) dX4_readTest_50 (by decide +kernel) ?_
              refine V_iconst C (v := nI 0) dX4_readTest_52 (by decide +kernel) ?_
              refine V_callV (F := fun _ => True) C (c_addCode hLa p5.1 hm p5.2.1 (by omega) _ _) mi_X2_addCode ml_X4_146 rfl (ob_K hLa) (by decide) (rmL (by omega) (by decide)) ⟨Nat.le_refl 0, Nat.le_refl 0⟩ (Nat.le_of_ble_eq_true rfl) (fun _ _ => trivial) (fun v _ => clo_T v) rfl dX4_readTest_53 ?_
              rintro v S' I' J' ⟨hS9, rfl, hI9, hJ9⟩
              obtain rfl := hS9.symm
              obtain rfl := hI9.symm
              obtain rfl := hJ9.symm
              rw [sl_0]
              exact V_vret C (Nat.zero_le _) (Nat.zero_le _) dX4_readTest_56 (hP _ _ _ ⟨rfl, nx, rfl⟩)
        refine V_aload_n C dX4_readTest_32 rfl ?_
        refine V_iload_n C dX4_readTest_33 rfl ?_
        refine V_callV (F := fun _ => True) C (hsub _ In2 (a' + 1) (q + cd.length) g1 g2 g3 hlt (by omega)) mi_X4_readSum ml_X4_150 rfl (ob_K hM) (by decide) (rmL (by omega) (by decide)) ⟨Nat.le_refl 0, Nat.le_refl 0⟩ (Nat.le_of_ble_eq_true rfl) (fun _ _ => trivial) (fun v _ => clo_T v) rfl dX4_readTest_34 ?_
        rintro v S' I4 J4 ⟨hS9, rfl, hp, hJ9⟩
        obtain rfl := hS9.symm
        obtain rfl := hJ9.symm
        exact kk _ hp
      have hne : ¬ sgA T 10 a' = -1 := by
        rcases hopk with ⟨-, h, -⟩ | ⟨-, h, -⟩ <;> rw [h] <;> decide
      have hw2 : (sgA T 10 a' = nI 0 ∧ k = 13) ∨ (sgA T 10 a' = nI 1 ∧ k = 14) := by
        rcases hopk with ⟨-, h, h'⟩ | ⟨-, h, h'⟩
        · exact Or.inl ⟨h, h'⟩
        · exact Or.inr ⟨h, h'⟩
      refine V_aload_n C dX4_readTest_5 rfl ?_
      refine V_getI C fl_X4_24 (ob_K hM) rfl dX4_readTest_6 ?_
      refine V_if_ne C 21 dX4_readTest_9 (by decide) (fun h9 => absurd (h6.1) h9) (fun h9 => ?_)
      refine V_aload_n C dX4_readTest_12 rfl ?_
      refine V_ldcS C rfl 10 (by decide) rfl dX4_readTest_13 ?_
      refine V_callV (F := fun _ => True) C (c_signAmong hR0 hEn (i := 10) (by decide) h6 h4) mi_X4_signAmong ml_X4_114 rfl (ob_K hM) (by decide) (rmL (by omega) (by decide)) ⟨Nat.le_refl 0, Nat.le_refl 0⟩ (Nat.le_of_ble_eq_true rfl) (fun _ _ => trivial) (fun v _ => clo_T v) rfl dX4_readTest_15 ?_
      rintro v S' I' J' ⟨hS9, rfl, hI9, hJ9⟩
      obtain rfl := hS9.symm
      obtain rfl := hI9.symm
      obtain rfl := hJ9.symm
      refine V_goto C 22 dX4_readTest_18 (by decide) ?_
      refine V_istore_n C dX4_readTest_22 (hn _ (by decide)) ?_
      refine V_iload_n C dX4_readTest_23 rfl ?_
      refine V_iconst C (v := (-1)) dX4_readTest_24 (by decide +kernel) ?_
      refine V_icmp_eq C 56 dX4_readTest_25 (by decide) (fun h25 => absurd h25 (hne)) (fun h25 => ?_)
      refine V_aload_n C dX4_readTest_28 rfl ?_
      refine V_callV (F := fun _ => True) C (c_adv hR0 hEn h6 h4 h0) mi_X4_advance ml_X4_31 rfl (ob_K hM) (by decide) (rmL (by omega) (by decide)) ⟨Nat.le_refl 0, Nat.le_refl 0⟩ (Nat.le_of_ble_eq_true rfl) (fun _ _ => trivial) (fun v _ => clo_T v) rfl dX4_readTest_29 ?_
      rintro v S' I2 J2 ⟨hS9, rfl, k1, k2, hJ9⟩
      obtain rfl := hS9.symm
      obtain rfl := hJ9.symm
      exact ev I2 _ hw2 (hEn.cg k1) k2 (h7.rd hla k1) (cxC_kp _ _ (fun j _ _ => by rw [k1 (la + 11) (by omega)]) h8) (hF9.tr (Nat.le_refl _) (CFr.rd hla k1))
  have kk : ∀ In, CPost T la m a q I In (sub a) → V X P 0 0 5 [some (.ref 1130), some (.int (nI d)), none] [] S In J := by
    intro In hp
    cases hsa : sub a with
    | error e =>
      rw [hsa] at hp
      obtain ⟨p1, p2, p3, p4⟩ := hp
      exact bad In e p1 p2 p3 p4 (by rw [tstP, hsa])
    | ok r =>
      obtain ⟨c, a'⟩ := r
      rw [hsa] at hp
      obtain ⟨p1, p2, p3, p4, p5, p6, p7⟩ := hp
      exact good In c a' hsa p1 p2 p3 p4 p5 p6 p7
  refine V_aload_n C dX4_readTest_0 rfl ?_
  refine V_iload_n C dX4_readTest_1 rfl ?_
  refine V_callV (F := fun _ => True) C (hsub _ I a q hE hs hL ha hqa) mi_X4_readSum ml_X4_150 rfl (ob_K hM) (by decide) (rmL (by omega) (by decide)) ⟨Nat.le_refl 0, Nat.le_refl 0⟩ (Nat.le_of_ble_eq_true rfl) (fun _ _ => trivial) (fun v _ => clo_T v) rfl dX4_readTest_2 ?_
  rintro v S' I4 J4 ⟨hS9, rfl, hp, hJ9⟩
  obtain rfl := hS9.symm
  obtain rfl := hJ9.symm
  exact kk _ hp
theorem sl_5 {w : Nat} (h : w ≤ 99999) : nI 9 + (nI w <<< (nI 5 &&& 31)) = nI (9 + 32 * w) := by
  rw [show (nI w <<< (nI 5 &&& 31)) = nI (w * 2 ^ 5) from pk_shlN (nI 5 &&& 31) 5 (by decide) (by omega), nI_add]
  congr 1
  omega
set_option maxRecDepth 100000 in
set_option maxHeartbeats 2000000 in
theorem c_readPart (hR : RdS S la) (hla : hLA la) {m f d : Nat} (hm : m ≤ 24) (hd : d + f = 4) (hsub : ∀ g, f = g + 1 → CM yX4_readPart cX4_readPart 5 (5 * g + 6) (d + 1) S J T la m (parP (toks T) g) ∧ CM yX4_readAny cX4_readAny 4 (5 * g + 10) (d + 1) S J T la m (allP (toks T) (parP (toks T) g))) : CM yX4_readPart cX4_readPart 5 (5 * f + 6) d S J T la m (parP (toks T) f) := by
  intro l I a q hE hs hL ha hqa
  refine Mn.of (by decide) (fun ad => by simp [lg_sl, vv, Value.category]) (fun X P hP hn C => ?_)
  have hR0 := hR
  obtain ⟨hM, hT0, hT1, hTp, hLa⟩ := hR
  have hlen := tk_len (T := T)
  have h1000 := hE.2.1
  have hwf := tk_wf ha
  have er : ∀ w, 0 < w → w < 16 → parP (toks T) f a = .error (errP (toks T) a w) → CPost T la m a q I (up2 I 1130 2 (errP (toks T) a w)) (parP (toks T) f a) := by
    intro w hw1 hw2 e
    rw [e]
    have ep := (errP_pos (K := toks T) (a := a) (w := w) (by omega) hw1 hw2).1
    exact ⟨ep, r_at, ⟨q, Nat.le_refl _, by omega, by rw [up2_ne _ _ _ (by omega)]; exact hL.2.1⟩, CFr.rd hla (fun b hb => up2_ne _ _ _ hb)⟩
  have hfo := fwN_or (K := toks T) (a := a) (w := 14) 9
  obtain ⟨fv, hfv⟩ : ∃ fv, fv = fwN (toks T) a 14 9 := ⟨_, rfl⟩
  have st38 : ∀ b3 b4, b3 = (if isWP (toks T) a 13 then nI 1 else nI 0) → b4 = (if isSP (toks T) a 40 then nI 1 else nI 0) → V X P 0 0 38 [some (.ref 1130), some (.int (nI d)), some (.int fv), some (.int b3), some (.int b4)] [] S I J := by
    intro b3 b4 e3 e4
    by_cases hbad : badP (toks T) a
    · have ep : parP (toks T) f a = .error (errP (toks T) a 1) := by
        cases f with
        | zero => rw [parP, if_pos hbad]
        | succ g => rw [parP, if_pos hbad]
      have fin := er 1 (by decide) (by decide) ep
      have f1 : fv = -1 := by
        rcases hfo with h | ⟨j, hj, h, -⟩
        · rw [hfv]; exact h
        · exact absurd hbad.1 (by rw [h]; exact nI_pos (by omega))
      rw [if_neg hbad.2.2.2] at e3
      rw [if_neg hbad.2.2.1] at e4
      refine V_aload_n C dX4_readPart_38 rfl ?_
      refine V_getI C fl_X4_34 (ob_K hM) rfl dX4_readPart_39 ?_
      rw [hs.2.1]
      refine V_iconst C (v := nI 2) dX4_readPart_42 (by decide +kernel) ?_
      refine V_icmp_eq C 68 dX4_readPart_43 (by decide) (fun h43 => absurd h43 (fun h => hbad.2.1 ((nI_eq (by omega) (by omega)).mp h))) (fun h43 => ?_)
      refine V_iload_n C dX4_readPart_46 rfl ?_
      refine V_iconst C (v := (-1)) dX4_readPart_47 (by decide +kernel) ?_
      refine V_icmp_ne C 68 dX4_readPart_48 (by decide) (fun h48 => absurd (f1) h48) (fun h48 => ?_)
      refine V_iload_n C dX4_readPart_51 rfl ?_
      refine V_if_ne C 68 dX4_readPart_52 (by decide) (fun h52 => absurd (e3) h52) (fun h52 => ?_)
      refine V_iload C dX4_readPart_55 rfl ?_
      refine V_if_ne C 68 dX4_readPart_57 (by decide) (fun h57 => absurd (e4) h57) (fun h57 => ?_)
      refine V_aload_n C dX4_readPart_60 rfl ?_
      refine V_iconst C (v := nI 1) dX4_readPart_61 (by decide +kernel) ?_
      refine V_callV (F := fun _ => True) C (c_refuse hR0 hs) mi_X4_refuse ml_X4_86 rfl (ob_K hM) (by decide) (rmL (by omega) (by decide)) ⟨Nat.le_refl 0, Nat.le_refl 0⟩ (Nat.le_of_ble_eq_true rfl) (fun _ _ => trivial) (fun v _ => clo_T v) rfl dX4_readPart_62 ?_
      rintro v S' I' J' ⟨hS9, rfl, hI9, hJ9⟩
      obtain rfl := hS9.symm
      obtain rfl := hI9.symm
      obtain rfl := hJ9.symm
      refine V_goto C 191 dX4_readPart_65 (by decide) ?_
      exact V_vret C (Nat.zero_le _) (Nat.zero_le _) dX4_readPart_191 (hP _ _ _ ⟨rfl, fin, rfl⟩)
    · have at68 : V X P 0 0 68 [some (.ref 1130), some (.int (nI d)), some (.int fv), some (.int b3), some (.int b4)] [] S I J := by
        cases f with
        | zero =>
          have ep : parP (toks T) 0 a = .error (errP (toks T) a 5) := by rw [parP, if_neg hbad]
          have fin := er 5 (by decide) (by decide) ep
          have hd4 : d = 4 := by omega
          refine V_iload_n C dX4_readPart_68 rfl ?_
          refine V_iconst C (v := nI 4) dX4_readPart_69 (by decide +kernel) ?_
          refine V_icmp_lt C 81 dX4_readPart_70 (by decide) (fun h70 => absurd h70 (nI_nlt (by omega) (by omega))) (fun h70 => ?_)
          refine V_aload_n C dX4_readPart_73 rfl ?_
          refine V_iconst C (v := nI 5) dX4_readPart_74 (by decide +kernel) ?_
          refine V_callV (F := fun _ => True) C (c_refuse hR0 hs) mi_X4_refuse ml_X4_86 rfl (ob_K hM) (by decide) (rmL (by omega) (by decide)) ⟨Nat.le_refl 0, Nat.le_refl 0⟩ (Nat.le_of_ble_eq_true rfl) (fun _ _ => trivial) (fun v _ => clo_T v) rfl dX4_readPart_75 ?_
          rintro v S' I' J' ⟨hS9, rfl, hI9, hJ9⟩
          obtain rfl := hS9.symm
          obtain rfl := hI9.symm
          obtain rfl := hJ9.symm
          refine V_goto C 191 dX4_readPart_78 (by decide) ?_
          exact V_vret C (Nat.zero_le _) (Nat.zero_le _) dX4_readPart_191 (hP _ _ _ ⟨rfl, fin, rfl⟩)
        | succ g =>
          obtain ⟨hs1, hs2⟩ := hsub g rfl
          have e92 : nI d + nI 1 = nI (d + 1) := nI_add _ _
          have ep : parP (toks T) (g + 1) a = parP (toks T) (g + 1) a := rfl
          conv at ep => rhs; rw [parP, if_neg hbad]
          have h0 : (tk (toks T) a).1 ≠ 0 := by
            intro h0
            refine hbad ⟨?_, by rw [h0]; decide, fun q => absurd (h0.symm.trans q.1) (by decide), fun q => absurd (h0.symm.trans q.1) (by decide)⟩
            rw [fwN_0 (by rw [h0]; decide)]
            decide
          have hlt := hwf.2.2 h0
          by_cases g13 : isWP (toks T) a 13
          · rw [if_pos g13] at ep e3
            have kk : ∀ In2, TG In2 T → RSt In2 T (a + 1) 0 → LSt In2 la m q → CFr la m q I In2 → V X P 0 0 89 [some (.ref 1130), some (.int (nI d)), some (.int fv), some (.int b3), some (.int b4)] [] S In2 J := by
              intro In2 k1 k2 k3 k4
              have k9 : ∀ In3, CPost T la m (a + 1) q In2 In3 (parP (toks T) g (a + 1)) → V X P 0 0 96 [some (.ref 1130), some (.int (nI d)), some (.int fv), some (.int b3), some (.int b4)] [] S In3 J := by
                intro In3 hp
                cases hsa : parP (toks T) g (a + 1) with
                | error e =>
                  rw [hsa] at hp ep
                  obtain ⟨p1, p2, ⟨q', p3, p4, p5⟩, p6⟩ := hp
                  have e0 : In3 la 0 = nI m := (p6.2.1 0 (by decide)).trans k3.1
                  refine V_aload_n C dX4_readPart_96 rfl ?_
                  refine V_getR C fl_X4_15 (ob_K hM) hT1 rfl dX4_readPart_97 ?_
                  refine V_bipush C (v := nI 10) dX4_readPart_100 (by decide +kernel) ?_
                  refine V_iconst C (v := nI 0) dX4_readPart_102 (by decide +kernel) ?_
                  refine V_callV (F := fun _ => True) C (c_addCodeF hLa e0 hm p5 p4 (q0 := q) (by omega) hla _ _) mi_X2_addCode ml_X4_146 rfl (ob_K hLa) (by decide) (rmL (by omega) (by decide)) ⟨Nat.le_refl 0, Nat.le_refl 0⟩ (Nat.le_of_ble_eq_true rfl) (fun _ _ => trivial) (fun v _ => clo_T v) rfl dX4_readPart_103 ?_
                  rintro v S' I4 J4 ⟨hS9, rfl, ⟨z1, z2, q9, z3, z4, z5⟩, hJ9⟩
                  obtain rfl := hS9.symm
                  obtain rfl := hJ9.symm
                  refine V_goto C 191 dX4_readPart_106 (by decide) ?_
                  exact V_vret C (Nat.zero_le _) (Nat.zero_le _) dX4_readPart_191 (hP _ _ _ ⟨rfl, by rw [ep]; exact ⟨p1, by rw [z2]; exact p2, ⟨q9, z3, z4, z5⟩, (k4.tr (Nat.le_refl _) p6).tr (Nat.le_refl _) z1⟩, rfl⟩)
                | ok r =>
                  obtain ⟨c2, a2⟩ := r
                  rw [hsa] at hp ep
                  obtain ⟨p1, p2, p3, p4, p5, p6, p7⟩ := hp
                  have nx : CPost T la m a q I (adC In3 la m (q + c2.length) (nI 10)) (parP (toks T) (g + 1) a) := by
                    rw [ep]
                    refine ⟨by omega, p2, by rw [List.length_append]; show a + (c2.length + 1) ≤ a2; omega, adC_rd hla p4, by rw [List.length_append]; exact adC_ls p5.1, ?_, (k4.tr (Nat.le_refl _) p7).tr (q2 := q + c2.length) (by omega) adC_fr⟩
                    refine cxC_app _ _ _ (cxC_kp _ _ (fun j j1 j2 => adC_fr.2.2.2 j (by omega)) p6) ⟨⟨fun q => ?_, fun q => ?_, fun _ => ?_⟩, trivial⟩
                    · cases q
                    · cases q
                    · rw [adC_at]; rfl
                  refine V_aload_n C dX4_readPart_96 rfl ?_
                  refine V_getR C fl_X4_15 (ob_K hM) hT1 rfl dX4_readPart_97 ?_
                  refine V_bipush C (v := nI 10) dX4_readPart_100 (by decide +kernel) ?_
                  refine V_iconst C (v := nI 0) dX4_readPart_102 (by decide +kernel) ?_
                  refine V_callV (F := fun _ => True) C (c_addCode hLa p5.1 hm p5.2.1 (by omega) _ _) mi_X2_addCode ml_X4_146 rfl (ob_K hLa) (by decide) (rmL (by omega) (by decide)) ⟨Nat.le_refl 0, Nat.le_refl 0⟩ (Nat.le_of_ble_eq_true rfl) (fun _ _ => trivial) (fun v _ => clo_T v) rfl dX4_readPart_103 ?_
                  rintro v S' I' J' ⟨hS9, rfl, hI9, hJ9⟩
                  obtain rfl := hS9.symm
                  obtain rfl := hI9.symm
                  obtain rfl := hJ9.symm
                  rw [sl_0]
                  refine V_goto C 191 dX4_readPart_106 (by decide) ?_
                  exact V_vret C (Nat.zero_le _) (Nat.zero_le _) dX4_readPart_191 (hP _ _ _ ⟨rfl, nx, rfl⟩)
              refine V_aload_n C dX4_readPart_89 rfl ?_
              refine V_iload_n C dX4_readPart_90 rfl ?_
              refine V_iconst C (v := nI 1) dX4_readPart_91 (by decide +kernel) ?_
              refine V_iadd C dX4_readPart_92 ?_
              rw [e92]
              refine V_callV (F := fun _ => True) C (hs1 _ In2 (a + 1) q k1 k2 k3 hlt (by omega)) mi_X4_readPart ml_X4_160 rfl (ob_K hM) (by decide) (rmL (by omega) (by decide)) ⟨Nat.le_refl 0, Nat.le_refl 0⟩ (Nat.le_of_ble_eq_true rfl) (fun _ _ => trivial) (fun v _ => clo_T v) rfl dX4_readPart_93 ?_
              rintro v S' I4 J4 ⟨hS9, rfl, hp, hJ9⟩
              obtain rfl := hS9.symm
              obtain rfl := hJ9.symm
              exact k9 _ hp
            refine V_iload_n C dX4_readPart_68 rfl ?_
            refine V_iconst C (v := nI 4) dX4_readPart_69 (by decide +kernel) ?_
            refine V_icmp_lt C 81 dX4_readPart_70 (by decide) (fun h70 => ?_) (fun h70 => absurd (nI_lt (by omega) (by omega)) h70)
            refine V_iload_n C dX4_readPart_81 rfl ?_
            refine V_if_eq C 109 dX4_readPart_82 (by decide) (fun h82 => absurd h82 (by rw [e3]; decide)) (fun h82 => ?_)
            refine V_aload_n C dX4_readPart_85 rfl ?_
            refine V_callV (F := fun _ => True) C (c_adv hR0 hE hs ha h0) mi_X4_advance ml_X4_31 rfl (ob_K hM) (by decide) (rmL (by omega) (by decide)) ⟨Nat.le_refl 0, Nat.le_refl 0⟩ (Nat.le_of_ble_eq_true rfl) (fun _ _ => trivial) (fun v _ => clo_T v) rfl dX4_readPart_86 ?_
            rintro v S' I2 J2 ⟨hS9, rfl, k1, k2, hJ9⟩
            obtain rfl := hS9.symm
            obtain rfl := hJ9.symm
            exact kk I2 (hE.cg k1) k2 (hL.rd hla k1) (CFr.rd hla k1)
          · rw [if_neg g13] at ep e3
            by_cases g40 : isSP (toks T) a 40
            · rw [if_pos g40] at ep e4
              have kk : ∀ In2, TG In2 T → RSt In2 T (a + 1) 0 → LSt In2 la m q → CFr la m q I In2 → V X P 0 0 118 [some (.ref 1130), some (.int (nI d)), some (.int fv), some (.int b3), some (.int b4)] [] S In2 J := by
                intro In2 k1 k2 k3 k4
                have k9 : ∀ In3, CPost T la m (a + 1) q In2 In3 (allP (toks T) (parP (toks T) g) (a + 1)) → V X P 0 0 125 [some (.ref 1130), some (.int (nI d)), some (.int fv), some (.int b3), some (.int b4)] [] S In3 J := by
                  intro In3 hp
                  cases hsa : allP (toks T) (parP (toks T) g) (a + 1) with
                  | error e =>
                    rw [hsa] at hp ep
                    obtain ⟨p1, p2, p3, p6⟩ := hp
                    have nf : ¬ In3 1130 2 = 0 := by rw [p2]; exact pos_ne p1
                    refine V_aload_n C dX4_readPart_125 rfl ?_
                    refine V_getI C fl_X4_24 (ob_K hM) rfl dX4_readPart_126 ?_
                    refine V_if_ne C 191 dX4_readPart_129 (by decide) (fun h129 => ?_) (fun h129 => absurd h129 (nf))
                    exact V_vret C (Nat.zero_le _) (Nat.zero_le _) dX4_readPart_191 (hP _ _ _ ⟨rfl, by rw [ep]; exact ⟨p1, p2, p3, k4.tr (Nat.le_refl _) p6⟩, rfl⟩)
                  | ok r =>
                    obtain ⟨c2, a2⟩ := r
                    rw [hsa] at hp ep
                    dsimp only at ep
                    obtain ⟨p1, p2, p3, p4, p5, p6, p7⟩ := hp
                    have hE3 := k1.fr hla p7
                    have es := sgA_1 (T := T) (i := 7) (c1 := 41) p2 rfl
                    by_cases g41 : isSP (toks T) a2 41
                    · rw [if_pos g41] at ep es
                      have hlt2 : a2 + 1 < (toks T).length := (tk_wf p2).2.2 (by rw [g41.1]; decide)
                      refine V_aload_n C dX4_readPart_125 rfl ?_
                      refine V_getI C fl_X4_24 (ob_K hM) rfl dX4_readPart_126 ?_
                      refine V_if_ne C 191 dX4_readPart_129 (by decide) (fun h129 => absurd (p4.1) h129) (fun h129 => ?_)
                      refine V_aload_n C dX4_readPart_132 rfl ?_
                      refine V_aload_n C dX4_readPart_133 rfl ?_
                      refine V_ldcS C rfl 7 (by decide) rfl dX4_readPart_134 ?_
                      refine V_callV (F := fun _ => True) C (c_signAmong hR0 hE3 (i := 7) (by decide) p4 p2) mi_X4_signAmong ml_X4_114 rfl (ob_K hM) (by decide) (rmL (by omega) (by decide)) ⟨Nat.le_refl 0, Nat.le_refl 0⟩ (Nat.le_of_ble_eq_true rfl) (fun _ _ => trivial) (fun v _ => clo_T v) rfl dX4_readPart_136 ?_
                      rintro v S' I' J' ⟨hS9, rfl, hI9, hJ9⟩
                      obtain rfl := hS9.symm
                      obtain rfl := hI9.symm
                      obtain rfl := hJ9.symm
                      refine V_if_ne C 146 dX4_readPart_139 (by decide) (fun h139 => absurd (es) h139) (fun h139 => ?_)
                      refine V_iconst C (v := nI 1) dX4_readPart_142 (by decide +kernel) ?_
                      refine V_goto C 147 dX4_readPart_143 (by decide) ?_
                      refine V_callV (F := fun _ => True) C (c_expectT hR0 hE3 p4 p2 (by rw [g41.1]; decide)) mi_X4_expect ml_X4_105 rfl (ob_K hM) (by decide) (rmL (by omega) (by decide)) ⟨Nat.le_refl 0, Nat.le_refl 0⟩ (Nat.le_of_ble_eq_true rfl) (fun _ _ => trivial) (fun v _ => clo_T v) rfl dX4_readPart_147 ?_
                      rintro v S' I4 J4 ⟨hS9, rfl, z1, z2, hJ9⟩
                      obtain rfl := hS9.symm
                      obtain rfl := hJ9.symm
                      refine V_goto C 191 dX4_readPart_150 (by decide) ?_
                      exact V_vret C (Nat.zero_le _) (Nat.zero_le _) dX4_readPart_191 (hP _ _ _ ⟨rfl, by rw [ep]; exact ⟨by omega, hlt2, by omega, z2, p5.rd hla z1, cxC_kp _ _ (fun j _ _ => by rw [z1 (la + 11) (by omega)]) p6, (k4.tr (Nat.le_refl _) p7).tr (Nat.le_refl _) (CFr.rd hla z1)⟩, rfl⟩)
                    · rw [if_neg g41] at ep es
                      have hpos := (errP_pos (K := toks T) (a := a2) (w := 1) (by have := (tk_wf p2).1; omega) (by decide) (by decide)).1
                      refine V_aload_n C dX4_readPart_125 rfl ?_
                      refine V_getI C fl_X4_24 (ob_K hM) rfl dX4_readPart_126 ?_
                      refine V_if_ne C 191 dX4_readPart_129 (by decide) (fun h129 => absurd (p4.1) h129) (fun h129 => ?_)
                      refine V_aload_n C dX4_readPart_132 rfl ?_
                      refine V_aload_n C dX4_readPart_133 rfl ?_
                      refine V_ldcS C rfl 7 (by decide) rfl dX4_readPart_134 ?_
                      refine V_callV (F := fun _ => True) C (c_signAmong hR0 hE3 (i := 7) (by decide) p4 p2) mi_X4_signAmong ml_X4_114 rfl (ob_K hM) (by decide) (rmL (by omega) (by decide)) ⟨Nat.le_refl 0, Nat.le_refl 0⟩ (Nat.le_of_ble_eq_true rfl) (fun _ _ => trivial) (fun v _ => clo_T v) rfl dX4_readPart_136 ?_
                      rintro v S' I' J' ⟨hS9, rfl, hI9, hJ9⟩
                      obtain rfl := hS9.symm
                      obtain rfl := hI9.symm
                      obtain rfl := hJ9.symm
                      refine V_if_ne C 146 dX4_readPart_139 (by decide) (fun h139 => ?_) (fun h139 => absurd h139 (by rw [es]; decide))
                      refine V_iconst C (v := nI 0) dX4_readPart_146 (by decide +kernel) ?_
                      refine V_callV (F := fun _ => True) C (c_expectF hR0 p4) mi_X4_expect ml_X4_105 rfl (ob_K hM) (by decide) (rmL (by omega) (by decide)) ⟨Nat.le_refl 0, Nat.le_refl 0⟩ (Nat.le_of_ble_eq_true rfl) (fun _ _ => trivial) (fun v _ => clo_T v) rfl dX4_readPart_147 ?_
                      rintro v S' I' J' ⟨hS9, rfl, hI9, hJ9⟩
                      obtain rfl := hS9.symm
                      obtain rfl := hI9.symm
                      obtain rfl := hJ9.symm
                      refine V_goto C 191 dX4_readPart_150 (by decide) ?_
                      exact V_vret C (Nat.zero_le _) (Nat.zero_le _) dX4_readPart_191 (hP _ _ _ ⟨rfl, by rw [ep]; exact ⟨hpos, r_at, ⟨q + c2.length, by omega, by omega, by rw [up2_ne _ _ _ (by omega)]; exact p5.2.1⟩, (k4.tr (Nat.le_refl _) p7).tr (Nat.le_refl _) (CFr.rd hla (fun b hb => up2_ne _ _ _ hb))⟩, rfl⟩)
                refine V_aload_n C dX4_readPart_118 rfl ?_
                refine V_iload_n C dX4_readPart_119 rfl ?_
                refine V_iconst C (v := nI 1) dX4_readPart_120 (by decide +kernel) ?_
                refine V_iadd C dX4_readPart_121 ?_
                rw [e92]
                refine V_callV (F := fun _ => True) C (hs2 _ In2 (a + 1) q k1 k2 k3 hlt (by omega)) mi_X4_readAny ml_X4_109 rfl (ob_K hM) (by decide) (rmL (by omega) (by decide)) ⟨Nat.le_refl 0, Nat.le_refl 0⟩ (Nat.le_of_ble_eq_true rfl) (fun _ _ => trivial) (fun v _ => clo_T v) rfl dX4_readPart_122 ?_
                rintro v S' I4 J4 ⟨hS9, rfl, hp, hJ9⟩
                obtain rfl := hS9.symm
                obtain rfl := hJ9.symm
                exact k9 _ hp
              refine V_iload_n C dX4_readPart_68 rfl ?_
              refine V_iconst C (v := nI 4) dX4_readPart_69 (by decide +kernel) ?_
              refine V_icmp_lt C 81 dX4_readPart_70 (by decide) (fun h70 => ?_) (fun h70 => absurd (nI_lt (by omega) (by omega)) h70)
              refine V_iload_n C dX4_readPart_81 rfl ?_
              refine V_if_eq C 109 dX4_readPart_82 (by decide) (fun h82 => ?_) (fun h82 => absurd (e3) h82)
              refine V_iload C dX4_readPart_109 rfl ?_
              refine V_if_eq C 153 dX4_readPart_111 (by decide) (fun h111 => absurd h111 (by rw [e4]; decide)) (fun h111 => ?_)
              refine V_aload_n C dX4_readPart_114 rfl ?_
              refine V_callV (F := fun _ => True) C (c_adv hR0 hE hs ha h0) mi_X4_advance ml_X4_31 rfl (ob_K hM) (by decide) (rmL (by omega) (by decide)) ⟨Nat.le_refl 0, Nat.le_refl 0⟩ (Nat.le_of_ble_eq_true rfl) (fun _ _ => trivial) (fun v _ => clo_T v) rfl dX4_readPart_115 ?_
              rintro v S' I2 J2 ⟨hS9, rfl, k1, k2, hJ9⟩
              obtain rfl := hS9.symm
              obtain rfl := hJ9.symm
              exact kk I2 (hE.cg k1) k2 (hL.rd hla k1) (CFr.rd hla k1)
            · rw [if_neg g40] at ep e4
              by_cases g2 : (tk (toks T) a).1 = 2
              · rw [if_pos g2] at ep
                obtain ⟨w, w1, w2, w3⟩ := nu_tok ha g2
                rw [w3] at ep
                have e6 : I 1130 6 = nI w := (hs.2.2.2.2 g2).trans w3
                have f1 : fv = -1 := by rw [hfv]; exact fwN_0 (by rw [g2]; decide) 9
                have hE2 := hE.fr hla (adC_fr (I := I) (la := la) (m := m) (q := q) (x := nI (9 + 32 * w)))
                have hs2 := adC_rd (I := I) (T := T) (m := m) (q := q) (x := nI (9 + 32 * w)) hla hs
                have hl2 := adC_ls (I := I) (la := la) (m := m) (q := q) (x := nI (9 + 32 * w)) hL.1
                refine V_iload_n C dX4_readPart_68 rfl ?_
                refine V_iconst C (v := nI 4) dX4_readPart_69 (by decide +kernel) ?_
                refine V_icmp_lt C 81 dX4_readPart_70 (by decide) (fun h70 => ?_) (fun h70 => absurd (nI_lt (by omega) (by omega)) h70)
                refine V_iload_n C dX4_readPart_81 rfl ?_
                refine V_if_eq C 109 dX4_readPart_82 (by decide) (fun h82 => ?_) (fun h82 => absurd (e3) h82)
                refine V_iload C dX4_readPart_109 rfl ?_
                refine V_if_eq C 153 dX4_readPart_111 (by decide) (fun h111 => ?_) (fun h111 => absurd (e4) h111)
                refine V_iload_n C dX4_readPart_153 rfl ?_
                refine V_iconst C (v := (-1)) dX4_readPart_154 (by decide +kernel) ?_
                refine V_icmp_eq C 174 dX4_readPart_155 (by decide) (fun h155 => ?_) (fun h155 => absurd (f1) h155)
                refine V_aload_n C dX4_readPart_174 rfl ?_
                refine V_getR C fl_X4_15 (ob_K hM) hT1 rfl dX4_readPart_175 ?_
                refine V_bipush C (v := nI 9) dX4_readPart_178 (by decide +kernel) ?_
                refine V_aload_n C dX4_readPart_180 rfl ?_
                refine V_getI C fl_X4_72 (ob_K hM) rfl dX4_readPart_181 ?_
                rw [e6]
                refine V_callV (F := fun _ => True) C (c_addCode hLa hL.1 hm hL.2.1 (by omega) _ _) mi_X2_addCode ml_X4_146 rfl (ob_K hLa) (by decide) (rmL (by omega) (by decide)) ⟨Nat.le_refl 0, Nat.le_refl 0⟩ (Nat.le_of_ble_eq_true rfl) (fun _ _ => trivial) (fun v _ => clo_T v) rfl dX4_readPart_184 ?_
                rintro v S' I' J' ⟨hS9, rfl, hI9, hJ9⟩
                obtain rfl := hS9.symm
                obtain rfl := hI9.symm
                obtain rfl := hJ9.symm
                rw [sl_5 w1]
                refine V_aload_n C dX4_readPart_187 rfl ?_
                refine V_callV (F := fun _ => True) C (c_adv hR0 hE2 hs2 ha h0) mi_X4_advance ml_X4_31 rfl (ob_K hM) (by decide) (rmL (by omega) (by decide)) ⟨Nat.le_refl 0, Nat.le_refl 0⟩ (Nat.le_of_ble_eq_true rfl) (fun _ _ => trivial) (fun v _ => clo_T v) rfl dX4_readPart_188 ?_
                rintro v S' I2 J2 ⟨hS9, rfl, k1, k2, hJ9⟩
                obtain rfl := hS9.symm
                obtain rfl := hJ9.symm
                exact V_vret C (Nat.zero_le _) (Nat.zero_le _) dX4_readPart_191 (hP _ _ _ ⟨rfl, by rw [ep]; exact ⟨by omega, hlt, Nat.le_refl _, k2, hl2.rd hla k1, ⟨⟨fun _ => ⟨w, w1, rfl, by rw [k1 (la + 11) (by omega), adC_at]⟩, fun q => (by cases q), fun q => absurd q (show ¬ 3 ≤ 1 by decide)⟩, trivial⟩, adC_fr.tr (Nat.le_refl _) (CFr.rd hla k1)⟩, rfl⟩)
              · rw [if_neg g2] at ep
                have hex : ∃ j, j < 9 ∧ fwN (toks T) a 14 9 = nI j := by
                  rcases hfo with h | ⟨j, hj, h, -⟩
                  · exact absurd ⟨by rw [h]; decide, g2, g40, g13⟩ hbad
                  · exact ⟨j, hj, h⟩
                obtain ⟨j, hj, ej⟩ := hex
                rw [ej] at ep hfv
                have fn : ¬ fv = -1 := by rw [hfv]; exact fun h => absurd (show nI j < 0 by rw [h]; decide) (nI_pos (by omega))
                have hE2 := hE.fr hla (adC_fr (I := I) (la := la) (m := m) (q := q) (x := nI j))
                have hs2 := adC_rd (I := I) (T := T) (m := m) (q := q) (x := nI j) hla hs
                have hl2 := adC_ls (I := I) (la := la) (m := m) (q := q) (x := nI j) hL.1
                refine V_iload_n C dX4_readPart_68 rfl ?_
                refine V_iconst C (v := nI 4) dX4_readPart_69 (by decide +kernel) ?_
                refine V_icmp_lt C 81 dX4_readPart_70 (by decide) (fun h70 => ?_) (fun h70 => absurd (nI_lt (by omega) (by omega)) h70)
                refine V_iload_n C dX4_readPart_81 rfl ?_
                refine V_if_eq C 109 dX4_readPart_82 (by decide) (fun h82 => ?_) (fun h82 => absurd (e3) h82)
                refine V_iload C dX4_readPart_109 rfl ?_
                refine V_if_eq C 153 dX4_readPart_111 (by decide) (fun h111 => ?_) (fun h111 => absurd (e4) h111)
                refine V_iload_n C dX4_readPart_153 rfl ?_
                refine V_iconst C (v := (-1)) dX4_readPart_154 (by decide +kernel) ?_
                refine V_icmp_eq C 174 dX4_readPart_155 (by decide) (fun h155 => absurd h155 (fn)) (fun h155 => ?_)
                refine V_aload_n C dX4_readPart_158 rfl ?_
                refine V_getR C fl_X4_15 (ob_K hM) hT1 rfl dX4_readPart_159 ?_
                refine V_iload_n C dX4_readPart_162 rfl ?_
                refine V_iconst C (v := nI 0) dX4_readPart_163 (by decide +kernel) ?_
                refine V_callV (F := fun _ => True) C (c_addCode hLa hL.1 hm hL.2.1 (by omega) _ _) mi_X2_addCode ml_X4_146 rfl (ob_K hLa) (by decide) (rmL (by omega) (by decide)) ⟨Nat.le_refl 0, Nat.le_refl 0⟩ (Nat.le_of_ble_eq_true rfl) (fun _ _ => trivial) (fun v _ => clo_T v) rfl dX4_readPart_164 ?_
                rintro v S' I' J' ⟨hS9, rfl, hI9, hJ9⟩
                obtain rfl := hS9.symm
                obtain rfl := hI9.symm
                obtain rfl := hJ9.symm
                rw [sl_0, hfv]
                refine V_aload_n C dX4_readPart_167 rfl ?_
                refine V_callV (F := fun _ => True) C (c_adv hR0 hE2 hs2 ha h0) mi_X4_advance ml_X4_31 rfl (ob_K hM) (by decide) (rmL (by omega) (by decide)) ⟨Nat.le_refl 0, Nat.le_refl 0⟩ (Nat.le_of_ble_eq_true rfl) (fun _ _ => trivial) (fun v _ => clo_T v) rfl dX4_readPart_168 ?_
                rintro v S' I2 J2 ⟨hS9, rfl, k1, k2, hJ9⟩
                obtain rfl := hS9.symm
                obtain rfl := hJ9.symm
                refine V_goto C 191 dX4_readPart_171 (by decide) ?_
                exact V_vret C (Nat.zero_le _) (Nat.zero_le _) dX4_readPart_191 (hP _ _ _ ⟨rfl, by rw [ep]; exact ⟨by omega, hlt, Nat.le_refl _, k2, hl2.rd hla k1, ⟨⟨fun q => (by cases q), fun _ => ⟨j, hj, rfl, by rw [k1 (la + 11) (by omega), adC_at]⟩, fun q => absurd q (show ¬ 3 ≤ 2 by decide)⟩, trivial⟩, adC_fr.tr (Nat.le_refl _) (CFr.rd hla k1)⟩, rfl⟩)
      by_cases g2 : (tk (toks T) a).1 = 2
      · refine V_aload_n C dX4_readPart_38 rfl ?_
        refine V_getI C fl_X4_34 (ob_K hM) rfl dX4_readPart_39 ?_
        rw [hs.2.1]
        refine V_iconst C (v := nI 2) dX4_readPart_42 (by decide +kernel) ?_
        refine V_icmp_eq C 68 dX4_readPart_43 (by decide) (fun h43 => ?_) (fun h43 => absurd (by rw [g2]) h43)
        exact at68
      · have n43 : ¬ nI (tk (toks T) a).1 = nI 2 := fun h => g2 ((nI_eq (by omega) (by omega)).mp h)
        by_cases gf : fv = -1
        · by_cases g13 : isWP (toks T) a 13
          · rw [if_pos g13] at e3
            refine V_aload_n C dX4_readPart_38 rfl ?_
            refine V_getI C fl_X4_34 (ob_K hM) rfl dX4_readPart_39 ?_
            rw [hs.2.1]
            refine V_iconst C (v := nI 2) dX4_readPart_42 (by decide +kernel) ?_
            refine V_icmp_eq C 68 dX4_readPart_43 (by decide) (fun h43 => absurd h43 (n43)) (fun h43 => ?_)
            refine V_iload_n C dX4_readPart_46 rfl ?_
            refine V_iconst C (v := (-1)) dX4_readPart_47 (by decide +kernel) ?_
            refine V_icmp_ne C 68 dX4_readPart_48 (by decide) (fun h48 => absurd (gf) h48) (fun h48 => ?_)
            refine V_iload_n C dX4_readPart_51 rfl ?_
            refine V_if_ne C 68 dX4_readPart_52 (by decide) (fun h52 => ?_) (fun h52 => absurd h52 (by rw [e3]; decide))
            exact at68
          · rw [if_neg g13] at e3
            have g40 : isSP (toks T) a 40 := Decidable.not_not.mp (fun h => hbad ⟨by rw [← hfv, gf]; decide, g2, h, g13⟩)
            rw [if_pos g40] at e4
            refine V_aload_n C dX4_readPart_38 rfl ?_
            refine V_getI C fl_X4_34 (ob_K hM) rfl dX4_readPart_39 ?_
            rw [hs.2.1]
            refine V_iconst C (v := nI 2) dX4_readPart_42 (by decide +kernel) ?_
            refine V_icmp_eq C 68 dX4_readPart_43 (by decide) (fun h43 => absurd h43 (n43)) (fun h43 => ?_)
            refine V_iload_n C dX4_readPart_46 rfl ?_
            refine V_iconst C (v := (-1)) dX4_readPart_47 (by decide +kernel) ?_
            refine V_icmp_ne C 68 dX4_readPart_48 (by decide) (fun h48 => absurd (gf) h48) (fun h48 => ?_)
            refine V_iload_n C dX4_readPart_51 rfl ?_
            refine V_if_ne C 68 dX4_readPart_52 (by decide) (fun h52 => absurd (e3) h52) (fun h52 => ?_)
            refine V_iload C dX4_readPart_55 rfl ?_
            refine V_if_ne C 68 dX4_readPart_57 (by decide) (fun h57 => ?_) (fun h57 => absurd h57 (by rw [e4]; decide))
            exact at68
        · refine V_aload_n C dX4_readPart_38 rfl ?_
          refine V_getI C fl_X4_34 (ob_K hM) rfl dX4_readPart_39 ?_
          rw [hs.2.1]
          refine V_iconst C (v := nI 2) dX4_readPart_42 (by decide +kernel) ?_
          refine V_icmp_eq C 68 dX4_readPart_43 (by decide) (fun h43 => absurd h43 (n43)) (fun h43 => ?_)
          refine V_iload_n C dX4_readPart_46 rfl ?_
          refine V_iconst C (v := (-1)) dX4_readPart_47 (by decide +kernel) ?_
          refine V_icmp_ne C 68 dX4_readPart_48 (by decide) (fun h48 => ?_) (fun h48 => absurd h48 (gf))
          exact at68
  have w13 : (if fwN (toks T) a 13 1 = 0 then nI 1 else nI 0) = (if isWP (toks T) a 13 then nI 1 else nI 0) := by
    by_cases g : isWP (toks T) a 13
    · rw [fwN_at (j := 0) g 1 (by decide) (by decide), if_pos g]; rfl
    · rw [fwN_no 1 (fun j hj => by rw [show j = 0 by omega]; exact g), if_neg g]; rfl
  have w40 : (if sgA T 6 a = 0 then nI 1 else nI 0) = (if isSP (toks T) a 40 then nI 1 else nI 0) := by
    rw [sgA_1 (i := 6) (c1 := 40) ha rfl]
    by_cases g : isSP (toks T) a 40
    · rw [if_pos g, if_pos g]; rfl
    · rw [if_neg g, if_neg g]; rfl
  refine V_aload_n C dX4_readPart_0 rfl ?_
  refine V_ldcS C rfl 4 (by decide) rfl dX4_readPart_1 ?_
  refine V_callV (F := fun _ => True) C (c_wordAmong hR0 hE (i := 4) (w0 := 14) (c := 9) (by decide) hs ha) mi_X4_wordAmong ml_X4_92 rfl (ob_K hM) (by decide) (rmL (by omega) (by decide)) ⟨Nat.le_refl 0, Nat.le_refl 0⟩ (Nat.le_of_ble_eq_true rfl) (fun _ _ => trivial) (fun v _ => clo_T v) rfl dX4_readPart_3 ?_
  rintro v S' I' J' ⟨hS9, rfl, hI9, hJ9⟩
  obtain rfl := hS9.symm
  obtain rfl := hI9.symm
  obtain rfl := hJ9.symm
  rw [← hfv]
  refine V_istore_n C dX4_readPart_6 (hn _ (by decide)) ?_
  refine V_aload_n C dX4_readPart_7 rfl ?_
  refine V_ldcS C rfl 5 (by decide) rfl dX4_readPart_8 ?_
  refine V_callV (F := fun _ => True) C (c_wordAmong hR0 hE (i := 5) (w0 := 13) (c := 1) (by decide) hs ha) mi_X4_wordAmong ml_X4_92 rfl (ob_K hM) (by decide) (rmL (by omega) (by decide)) ⟨Nat.le_refl 0, Nat.le_refl 0⟩ (Nat.le_of_ble_eq_true rfl) (fun _ _ => trivial) (fun v _ => clo_T v) rfl dX4_readPart_10 ?_
  rintro v S' I' J' ⟨hS9, rfl, hI9, hJ9⟩
  obtain rfl := hS9.symm
  obtain rfl := hI9.symm
  obtain rfl := hJ9.symm
  refine V_tern_if_ne (vt := nI 1) (vf := nI 0) (pm := 21) C 20 dX4_readPart_13 (by decide) (fun h13 k => ?_) (fun h13 k => ?_) ?_
  · refine V_iconst C (v := nI 1) dX4_readPart_16 (by decide +kernel) ?_
    refine V_goto C 21 dX4_readPart_17 (by decide) ?_
    exact k
  · refine V_iconst C (v := nI 0) dX4_readPart_20 (by decide +kernel) ?_
    exact k
  refine V_istore_n C dX4_readPart_21 (hn _ (by decide)) ?_
  refine V_aload_n C dX4_readPart_22 rfl ?_
  refine V_ldcS C rfl 6 (by decide) rfl dX4_readPart_23 ?_
  refine V_callV (F := fun _ => True) C (c_signAmong hR0 hE (i := 6) (by decide) hs ha) mi_X4_signAmong ml_X4_114 rfl (ob_K hM) (by decide) (rmL (by omega) (by decide)) ⟨Nat.le_refl 0, Nat.le_refl 0⟩ (Nat.le_of_ble_eq_true rfl) (fun _ _ => trivial) (fun v _ => clo_T v) rfl dX4_readPart_25 ?_
  rintro v S' I' J' ⟨hS9, rfl, hI9, hJ9⟩
  obtain rfl := hS9.symm
  obtain rfl := hI9.symm
  obtain rfl := hJ9.symm
  refine V_tern_if_ne (vt := nI 1) (vf := nI 0) (pm := 36) C 35 dX4_readPart_28 (by decide) (fun h28 k => ?_) (fun h28 k => ?_) ?_
  · refine V_iconst C (v := nI 1) dX4_readPart_31 (by decide +kernel) ?_
    refine V_goto C 36 dX4_readPart_32 (by decide) ?_
    exact k
  · refine V_iconst C (v := nI 0) dX4_readPart_35 (by decide +kernel) ?_
    exact k
  refine V_istore C dX4_readPart_36 (hn _ (by decide)) ?_
  exact st38 _ _ w13 w40
theorem c_levels (hR : RdS S la) (hla : hLA la) {m : Nat} (hm : m ≤ 24) : ∀ (f d : Nat), d + f = 4 → CM yX4_readPart cX4_readPart 5 (5 * f + 6) d S J T la m (parP (toks T) f) ∧ CM yX4_readAny cX4_readAny 4 (5 * f + 10) d S J T la m (allP (toks T) (parP (toks T) f)) := by
  intro f
  induction f with
  | zero =>
    intro d hd
    have h1 := c_readPart (S := S) (J := J) (T := T) hR hla hm hd (fun g h => absurd h (by omega))
    exact ⟨h1, c_readAny hR hla hm (by decide) (c_readTest hR hla hm (by decide) (c_readSum hR hla hm (by decide) (c_readTerm hR hla hm (by decide) h1)))⟩
  | succ f ih =>
    intro d hd
    have h1 := c_readPart (S := S) (J := J) (T := T) hR hla hm hd (fun g h => by
      have : g = f := by omega
      subst this
      exact ih (d + 1) (by omega))
    exact ⟨h1, c_readAny hR hla hm (by omega) (c_readTest hR hla hm (by omega) (c_readSum hR hla hm (by omega) (c_readTerm hR hla hm (by omega) h1)))⟩
end C36
