/-! the class's reader: products, sums, joins -/
section C35
variable {S : HS} {J : HJ} {la : Nat} {T : List Int32}
set_option maxRecDepth 100000 in
set_option maxHeartbeats 1000000 in
theorem c_readTerm (hR : RdS S la) (hla : hLA la) {m d n : Nat} (hm : m ≤ 24) (hn5 : 5 ≤ n) {sub : Nat → PR} (hsub : CM yX4_readPart cX4_readPart 5 n d S J T la m sub) : CM yX4_readTerm cX4_readTerm 4 (n + 1) d S J T la m (binP (toks T).length (selP (fun a => isSP (toks T) a 42) (fun a => isSP (toks T) a 47) 6 7) sub) := by
  intro l I a q hE hs hL ha hqa
  refine Mn.of (by decide) (fun ad => by simp [lg_sl, vv, Value.category]) (fun X P hP hn C => ?_)
  have hR0 := hR
  obtain ⟨hM, hT0, hT1, hTp, hLa⟩ := hR
  have hlen := tk_len (T := T)
  have h1000 := hE.2.1
  obtain ⟨sel, hsel⟩ : ∃ sel, sel = selP (fun a => isSP (toks T) a 42) (fun a => isSP (toks T) a 47) 6 7 := ⟨_, rfl⟩
  rw [← hsel] at hP
  have bad : ∀ (In : HI) (e : Int32) (i : Nat) (x3 : Option Value), 0 < e → In 1130 2 = e → (∃ q', q ≤ q' ∧ q' ≤ 1000 ∧ In la 2 = nI q') → CFr la m q I In → binP (toks T).length sel sub a = .error e → V X P 0 0 7 [some (.ref 1130), some (.int (nI d)), some (.int (nI i)), x3] [] S In J := by
    intro In e i x3 he h1 h2 h3 h4
    have nf : ¬ In 1130 2 = 0 := by rw [h1]; exact pos_ne he
    refine V_iload_n C dX4_readTerm_7 rfl ?_
    refine V_sipush C (v := nI 1000) dX4_readTerm_8 (by decide +kernel) ?_
    refine V_icmp_ge C 68 dX4_readTerm_11 (by decide) (fun h11 => ?_) (fun h11 => ?_)
    · exact V_vret C (Nat.zero_le _) (Nat.zero_le _) dX4_readTerm_68 (hP _ _ _ ⟨rfl, by rw [h4]; exact ⟨he, h1, h2, h3⟩, rfl⟩)
    · refine V_aload_n C dX4_readTerm_14 rfl ?_
      refine V_getI C fl_X4_24 (ob_K hM) rfl dX4_readTerm_15 ?_
      refine V_if_ne C 68 dX4_readTerm_18 (by decide) (fun h18 => ?_) (fun h18 => absurd h18 (nf))
      exact V_vret C (Nat.zero_le _) (Nat.zero_le _) dX4_readTerm_68 (hP _ _ _ ⟨rfl, by rw [h4]; exact ⟨he, h1, h2, h3⟩, rfl⟩)
  have loop : ∀ (c : Nat) (In : HI) (cd : Cds) (a' i : Nat) (x3 : Option Value), (toks T).length ≤ a' + c → i < a' → a < a' → a' < (toks T).length → a + cd.length ≤ a' → RSt In T a' 0 → LSt In la m (q + cd.length) → cxC In la cd q → CFr la m q I In → binP (toks T).length sel sub a = binL sel sub c cd a' → V X P 0 0 7 [some (.ref 1130), some (.int (nI d)), some (.int (nI i)), x3] [] S In J := by
    intro c
    induction c with
    | zero => intro In cd a' i x3 h1 _ _ h2; omega
    | succ c ih =>
      intro In cd a' i x3 h1 h2 h3 h4 h5 h6 h7 h8 h9 h10
      have hEn := hE.fr hla h9
      rw [binL] at h10
      have wv : (sel a' = none ∧ sgA T 8 a' = -1) ∨ (∃ op k, 4 ≤ op ∧ sel a' = some op ∧ (tk (toks T) a').1 ≠ 0 ∧ ((op = 6 ∧ sgA T 8 a' = nI 0 ∧ k = 17) ∨ (op = 7 ∧ sgA T 8 a' = nI 1 ∧ k = 18)) ∧ cOp op = k) := by
        rw [hsel]
        unfold selP
        dsimp only
        rw [sgA_2 (c1 := 42) (c2 := 47) h4 rfl]
        by_cases g1 : isSP (toks T) a' 42
        · rw [if_pos g1, if_pos g1]
          exact Or.inr ⟨6, 17, by decide, rfl, by rw [g1.1]; decide, Or.inl ⟨rfl, rfl, rfl⟩, rfl⟩
        · rw [if_neg g1, if_neg g1]
          by_cases g2 : isSP (toks T) a' 47
          · rw [if_pos g2, if_pos g2]
            exact Or.inr ⟨7, 18, by decide, rfl, by rw [g2.1]; decide, Or.inr ⟨rfl, rfl, rfl⟩, rfl⟩
          · rw [if_neg g2, if_neg g2]
            exact Or.inl ⟨rfl, rfl⟩
      rcases wv with ⟨es, ew⟩ | ⟨op, k, hop4, es, h0, hopk, hck⟩
      · rw [es] at h10
        refine V_iload_n C dX4_readTerm_7 rfl ?_
        refine V_sipush C (v := nI 1000) dX4_readTerm_8 (by decide +kernel) ?_
        refine V_icmp_ge C 68 dX4_readTerm_11 (by decide) (fun h11 => absurd h11 (nI_ge (by omega) (by omega))) (fun h11 => ?_)
        refine V_aload_n C dX4_readTerm_14 rfl ?_
        refine V_getI C fl_X4_24 (ob_K hM) rfl dX4_readTerm_15 ?_
        refine V_if_ne C 68 dX4_readTerm_18 (by decide) (fun h18 => absurd (h6.1) h18) (fun h18 => ?_)
        refine V_aload_n C dX4_readTerm_21 rfl ?_
        refine V_ldcS C rfl 8 (by decide) rfl dX4_readTerm_22 ?_
        refine V_callV (F := fun _ => True) C (c_signAmong hR0 hEn (i := 8) (by decide) h6 h4) mi_X4_signAmong ml_X4_114 rfl (ob_K hM) (by decide) (rmL (by omega) (by decide)) ⟨Nat.le_refl 0, Nat.le_refl 0⟩ (Nat.le_of_ble_eq_true rfl) (fun _ _ => trivial) (fun v _ => clo_T v) rfl dX4_readTerm_24 ?_
        rintro v S' I' J' ⟨hS9, rfl, hI9, hJ9⟩
        obtain rfl := hS9.symm
        obtain rfl := hI9.symm
        obtain rfl := hJ9.symm
        rw [ew]
        refine V_istore_n C dX4_readTerm_27 (hn _ (by decide)) ?_
        refine V_iload_n C dX4_readTerm_28 rfl ?_
        refine V_iconst C (v := (-1)) dX4_readTerm_29 (by decide +kernel) ?_
        refine V_icmp_ne C 34 dX4_readTerm_30 (by decide) (fun h30 => absurd (rfl) h30) (fun h30 => ?_)
        exact V_vret C (Nat.zero_le _) (Nat.zero_le _) dX4_readTerm_33 (hP _ _ _ ⟨rfl, by rw [h10]; exact ⟨h3, h4, h5, h6, h7, h8, h9⟩, rfl⟩)
      · have hlt : a' + 1 < (toks T).length := (tk_wf h4).2.2 h0
        rw [es] at h10
        dsimp only at h10
        have ev : ∀ (In2 : HI) (w : Int32), (w = nI 0 ∧ k = 17) ∨ (w = nI 1 ∧ k = 18) → TG In2 T → RSt In2 T (a' + 1) 0 → LSt In2 la m (q + cd.length) → cxC In2 la cd q → CFr la m q I In2 → V X P 0 0 38 [some (.ref 1130), some (.int (nI d)), some (.int (nI i)), some (.int w)] [] S In2 J := by
          intro In2 w hw g1 g2 g3 g4 g5
          have kk : ∀ In3, CPost T la m (a' + 1) (q + cd.length) In2 In3 (sub (a' + 1)) → V X P 0 0 43 [some (.ref 1130), some (.int (nI d)), some (.int (nI i)), some (.int w)] [] S In3 J := by
            intro In3 hp
            cases hsa : sub (a' + 1) with
            | error e =>
              rw [hsa] at hp h10
              obtain ⟨p1, p2, ⟨q', p3, p4, p5⟩, p6⟩ := hp
              have e0 : In3 la 0 = nI m := (p6.2.1 0 (by decide)).trans g3.1
              have f3 := g5.tr (by omega) p6
              have nx := fun I4 h1 h2 h3 => bad I4 e (i + 1) (some (.int w)) p1 h1 h2 h3 h10
              rcases hw with ⟨rfl, hk⟩ | ⟨rfl, hk⟩
              · refine V_aload_n C dX4_readTerm_43 rfl ?_
                refine V_getR C fl_X4_15 (ob_K hM) hT1 rfl dX4_readTerm_44 ?_
                refine V_iload_n C dX4_readTerm_47 rfl ?_
                refine V_if_ne C 56 dX4_readTerm_48 (by decide) (fun h48 => absurd (rfl) h48) (fun h48 => ?_)
                refine V_bipush C (v := nI 17) dX4_readTerm_51 (by decide +kernel) ?_
                refine V_goto C 58 dX4_readTerm_53 (by decide) ?_
                refine V_iconst C (v := nI 0) dX4_readTerm_58 (by decide +kernel) ?_
                refine V_callV (F := fun _ => True) C (c_addCodeF hLa e0 hm p5 p4 (q0 := q) (by omega) hla _ _) mi_X2_addCode ml_X4_146 rfl (ob_K hLa) (by decide) (rmL (by omega) (by decide)) ⟨Nat.le_refl 0, Nat.le_refl 0⟩ (Nat.le_of_ble_eq_true rfl) (fun _ _ => trivial) (fun v _ => clo_T v) rfl dX4_readTerm_59 ?_
                rintro v S' I4 J4 ⟨hS9, rfl, ⟨k1, k2, q9, k3, k4, k5⟩, hJ9⟩
                obtain rfl := hS9.symm
                obtain rfl := hJ9.symm
                refine V_iincU C dX4_readTerm_62 rfl (hn _ (by decide)) ?_
                refine V_goto C 7 dX4_readTerm_65 (by decide) ?_
                exact nx I4 (by rw [k2]; exact p2) ⟨q9, k3, k4, k5⟩ (f3.tr (Nat.le_refl _) k1)
              · refine V_aload_n C dX4_readTerm_43 rfl ?_
                refine V_getR C fl_X4_15 (ob_K hM) hT1 rfl dX4_readTerm_44 ?_
                refine V_iload_n C dX4_readTerm_47 rfl ?_
                refine V_if_ne C 56 dX4_readTerm_48 (by decide) (fun h48 => ?_) (fun h48 => absurd h48 ((by decide)))
                refine V_bipush C (v := nI 18) dX4_readTerm_56 (by decide +kernel) ?_
                refine V_iconst C (v := nI 0) dX4_readTerm_58 (by decide +kernel) ?_
                refine V_callV (F := fun _ => True) C (c_addCodeF hLa e0 hm p5 p4 (q0 := q) (by omega) hla _ _) mi_X2_addCode ml_X4_146 rfl (ob_K hLa) (by decide) (rmL (by omega) (by decide)) ⟨Nat.le_refl 0, Nat.le_refl 0⟩ (Nat.le_of_ble_eq_true rfl) (fun _ _ => trivial) (fun v _ => clo_T v) rfl dX4_readTerm_59 ?_
                rintro v S' I4 J4 ⟨hS9, rfl, ⟨k1, k2, q9, k3, k4, k5⟩, hJ9⟩
                obtain rfl := hS9.symm
                obtain rfl := hJ9.symm
                refine V_iincU C dX4_readTerm_62 rfl (hn _ (by decide)) ?_
                refine V_goto C 7 dX4_readTerm_65 (by decide) ?_
                exact nx I4 (by rw [k2]; exact p2) ⟨q9, k3, k4, k5⟩ (f3.tr (Nat.le_refl _) k1)
            | ok r =>
              obtain ⟨c2, a2⟩ := r
              rw [hsa] at hp h10
              obtain ⟨p1, p2, p3, p4, p5, p6, p7⟩ := hp
              obtain ⟨Q, hQ⟩ : ∃ Q, Q = q + cd.length + c2.length := ⟨_, rfl⟩
              rw [← hQ] at p5
              have f3 := g5.tr (by omega) p7
              have hl3 : (cd ++ c2 ++ [(op, (0 : Int32))]).length = cd.length + c2.length + 1 := by rw [List.length_append, List.length_append]; rfl
              have nx := ih (adC In3 la m Q (nI k)) (cd ++ c2 ++ [(op, 0)]) a2 (i + 1) (some (.int w)) (by omega) (by omega) (by omega) p2 (by rw [hl3]; omega) (adC_rd hla p4) (by rw [hl3, show q + (cd.length + c2.length + 1) = Q + 1 by omega]; exact adC_ls p5.1) (by
                refine cxC_app _ _ _ (cxC_kp _ _ (fun j j1 j2 => ?_) (cxC_app _ _ _ (cxC_kp _ _ (fun j j1 j2 => p7.2.2.2 j (by omega)) g4) p6)) ⟨⟨fun q => ?_, fun q => ?_, fun _ => ?_⟩, trivial⟩
                · rw [List.length_append] at j2
                  exact adC_fr.2.2.2 j (by omega)
                · dsimp only at q; omega
                · dsimp only at q; omega
                · rw [List.length_append, show q + (cd.length + c2.length) = Q by omega, adC_at, hck]) (f3.tr (q2 := Q) (by omega) adC_fr) h10
              rcases hw with ⟨rfl, hk⟩ | ⟨rfl, hk⟩
              · rw [hk] at nx
                refine V_aload_n C dX4_readTerm_43 rfl ?_
                refine V_getR C fl_X4_15 (ob_K hM) hT1 rfl dX4_readTerm_44 ?_
                refine V_iload_n C dX4_readTerm_47 rfl ?_
                refine V_if_ne C 56 dX4_readTerm_48 (by decide) (fun h48 => absurd (rfl) h48) (fun h48 => ?_)
                refine V_bipush C (v := nI 17) dX4_readTerm_51 (by decide +kernel) ?_
                refine V_goto C 58 dX4_readTerm_53 (by decide) ?_
                refine V_iconst C (v := nI 0) dX4_readTerm_58 (by decide +kernel) ?_
                refine V_callV (F := fun _ => True) C (c_addCode hLa p5.1 hm p5.2.1 (by omega) _ _) mi_X2_addCode ml_X4_146 rfl (ob_K hLa) (by decide) (rmL (by omega) (by decide)) ⟨Nat.le_refl 0, Nat.le_refl 0⟩ (Nat.le_of_ble_eq_true rfl) (fun _ _ => trivial) (fun v _ => clo_T v) rfl dX4_readTerm_59 ?_
                rintro v S' I' J' ⟨hS9, rfl, hI9, hJ9⟩
                obtain rfl := hS9.symm
                obtain rfl := hI9.symm
                obtain rfl := hJ9.symm
                rw [sl_0]
                refine V_iincU C dX4_readTerm_62 rfl (hn _ (by decide)) ?_
                refine V_goto C 7 dX4_readTerm_65 (by decide) ?_
                exact nx
              · rw [hk] at nx
                refine V_aload_n C dX4_readTerm_43 rfl ?_
                refine V_getR C fl_X4_15 (ob_K hM) hT1 rfl dX4_readTerm_44 ?_
                refine V_iload_n C dX4_readTerm_47 rfl ?_
                refine V_if_ne C 56 dX4_readTerm_48 (by decide) (fun h48 => ?_) (fun h48 => absurd h48 ((by decide)))
                refine V_bipush C (v := nI 18) dX4_readTerm_56 (by decide +kernel) ?_
                refine V_iconst C (v := nI 0) dX4_readTerm_58 (by decide +kernel) ?_
                refine V_callV (F := fun _ => True) C (c_addCode hLa p5.1 hm p5.2.1 (by omega) _ _) mi_X2_addCode ml_X4_146 rfl (ob_K hLa) (by decide) (rmL (by omega) (by decide)) ⟨Nat.le_refl 0, Nat.le_refl 0⟩ (Nat.le_of_ble_eq_true rfl) (fun _ _ => trivial) (fun v _ => clo_T v) rfl dX4_readTerm_59 ?_
                rintro v S' I' J' ⟨hS9, rfl, hI9, hJ9⟩
                obtain rfl := hS9.symm
                obtain rfl := hI9.symm
                obtain rfl := hJ9.symm
                rw [sl_0]
                refine V_iincU C dX4_readTerm_62 rfl (hn _ (by decide)) ?_
                refine V_goto C 7 dX4_readTerm_65 (by decide) ?_
                exact nx
          refine V_aload_n C dX4_readTerm_38 rfl ?_
          refine V_iload_n C dX4_readTerm_39 rfl ?_
          refine V_callV (F := fun _ => True) C (hsub _ In2 (a' + 1) (q + cd.length) g1 g2 g3 hlt (by omega)) mi_X4_readPart ml_X4_160 rfl (ob_K hM) (by decide) (rmL (by omega) (by decide)) ⟨Nat.le_refl 0, Nat.le_refl 0⟩ (Nat.le_of_ble_eq_true rfl) (fun _ _ => trivial) (fun v _ => clo_T v) rfl dX4_readTerm_40 ?_
          rintro v S' I4 J4 ⟨hS9, rfl, hp, hJ9⟩
          obtain rfl := hS9.symm
          obtain rfl := hJ9.symm
          exact kk _ hp
        have hne : ¬ sgA T 8 a' = -1 := by
          rcases hopk with ⟨-, h, -⟩ | ⟨-, h, -⟩ <;> rw [h] <;> decide
        have hw2 : (sgA T 8 a' = nI 0 ∧ k = 17) ∨ (sgA T 8 a' = nI 1 ∧ k = 18) := by
          rcases hopk with ⟨-, h, h'⟩ | ⟨-, h, h'⟩
          · exact Or.inl ⟨h, h'⟩
          · exact Or.inr ⟨h, h'⟩
        refine V_iload_n C dX4_readTerm_7 rfl ?_
        refine V_sipush C (v := nI 1000) dX4_readTerm_8 (by decide +kernel) ?_
        refine V_icmp_ge C 68 dX4_readTerm_11 (by decide) (fun h11 => absurd h11 (nI_ge (by omega) (by omega))) (fun h11 => ?_)
        refine V_aload_n C dX4_readTerm_14 rfl ?_
        refine V_getI C fl_X4_24 (ob_K hM) rfl dX4_readTerm_15 ?_
        refine V_if_ne C 68 dX4_readTerm_18 (by decide) (fun h18 => absurd (h6.1) h18) (fun h18 => ?_)
        refine V_aload_n C dX4_readTerm_21 rfl ?_
        refine V_ldcS C rfl 8 (by decide) rfl dX4_readTerm_22 ?_
        refine V_callV (F := fun _ => True) C (c_signAmong hR0 hEn (i := 8) (by decide) h6 h4) mi_X4_signAmong ml_X4_114 rfl (ob_K hM) (by decide) (rmL (by omega) (by decide)) ⟨Nat.le_refl 0, Nat.le_refl 0⟩ (Nat.le_of_ble_eq_true rfl) (fun _ _ => trivial) (fun v _ => clo_T v) rfl dX4_readTerm_24 ?_
        rintro v S' I' J' ⟨hS9, rfl, hI9, hJ9⟩
        obtain rfl := hS9.symm
        obtain rfl := hI9.symm
        obtain rfl := hJ9.symm
        refine V_istore_n C dX4_readTerm_27 (hn _ (by decide)) ?_
        refine V_iload_n C dX4_readTerm_28 rfl ?_
        refine V_iconst C (v := (-1)) dX4_readTerm_29 (by decide +kernel) ?_
        refine V_icmp_ne C 34 dX4_readTerm_30 (by decide) (fun h30 => ?_) (fun h30 => absurd h30 (hne))
        refine V_aload_n C dX4_readTerm_34 rfl ?_
        refine V_callV (F := fun _ => True) C (c_adv hR0 hEn h6 h4 h0) mi_X4_advance ml_X4_31 rfl (ob_K hM) (by decide) (rmL (by omega) (by decide)) ⟨Nat.le_refl 0, Nat.le_refl 0⟩ (Nat.le_of_ble_eq_true rfl) (fun _ _ => trivial) (fun v _ => clo_T v) rfl dX4_readTerm_35 ?_
        rintro v S' I2 J2 ⟨hS9, rfl, k1, k2, hJ9⟩
        obtain rfl := hS9.symm
        obtain rfl := hJ9.symm
        exact ev I2 _ hw2 (hEn.cg k1) k2 (h7.rd hla k1) (cxC_kp _ _ (fun j _ _ => by rw [k1 (la + 11) (by omega)]) h8) (h9.tr (Nat.le_refl _) (CFr.rd hla k1))
  have kk : ∀ In, CPost T la m a q I In (sub a) → V X P 0 0 5 [some (.ref 1130), some (.int (nI d)), none, none] [] S In J := by
    intro In hp
    have h10 : binP (toks T).length sel sub a = binP (toks T).length sel sub a := rfl
    conv at h10 => rhs; rw [binP]
    cases hsa : sub a with
    | error e =>
      rw [hsa] at hp h10
      obtain ⟨p1, p2, p3, p4⟩ := hp
      have fin := bad In e 0 none p1 p2 p3 p4 h10
      refine V_iconst C (v := nI 0) dX4_readTerm_5 (by decide +kernel) ?_
      refine V_istore_n C dX4_readTerm_6 (hn _ (by decide)) ?_
      exact fin
    | ok r =>
      obtain ⟨c, a'⟩ := r
      rw [hsa] at hp h10
      obtain ⟨p1, p2, p3, p4, p5, p6, p7⟩ := hp
      have fin := loop ((toks T).length - a') In c a' 0 none (by omega) (by omega) p1 p2 p3 p4 p5 p6 p7 h10
      refine V_iconst C (v := nI 0) dX4_readTerm_5 (by decide +kernel) ?_
      refine V_istore_n C dX4_readTerm_6 (hn _ (by decide)) ?_
      exact fin
  refine V_aload_n C dX4_readTerm_0 rfl ?_
  refine V_iload_n C dX4_readTerm_1 rfl ?_
  refine V_callV (F := fun _ => True) C (hsub _ I a q hE hs hL ha hqa) mi_X4_readPart ml_X4_160 rfl (ob_K hM) (by decide) (rmL (by omega) (by decide)) ⟨Nat.le_refl 0, Nat.le_refl 0⟩ (Nat.le_of_ble_eq_true rfl) (fun _ _ => trivial) (fun v _ => clo_T v) rfl dX4_readTerm_2 ?_
  rintro v S' I4 J4 ⟨hS9, rfl, hp, hJ9⟩
  obtain rfl := hS9.symm
  obtain rfl := hJ9.symm
  exact kk _ hp
set_option maxRecDepth 100000 in
set_option maxHeartbeats 1000000 in
theorem c_readSum (hR : RdS S la) (hla : hLA la) {m d n : Nat} (hm : m ≤ 24) (hn5 : 5 ≤ n) {sub : Nat → PR} (hsub : CM yX4_readTerm cX4_readTerm 4 n d S J T la m sub) : CM yX4_readSum cX4_readSum 4 (n + 1) d S J T la m (binP (toks T).length (selP (fun a => isSP (toks T) a 43) (fun a => isSP (toks T) a 45) 4 5) sub) := by
  intro l I a q hE hs hL ha hqa
  refine Mn.of (by decide) (fun ad => by simp [lg_sl, vv, Value.category]) (fun X P hP hn C => ?_)
  have hR0 := hR
  obtain ⟨hM, hT0, hT1, hTp, hLa⟩ := hR
  have hlen := tk_len (T := T)
  have h1000 := hE.2.1
  obtain ⟨sel, hsel⟩ : ∃ sel, sel = selP (fun a => isSP (toks T) a 43) (fun a => isSP (toks T) a 45) 4 5 := ⟨_, rfl⟩
  rw [← hsel] at hP
  have bad : ∀ (In : HI) (e : Int32) (i : Nat) (x3 : Option Value), 0 < e → In 1130 2 = e → (∃ q', q ≤ q' ∧ q' ≤ 1000 ∧ In la 2 = nI q') → CFr la m q I In → binP (toks T).length sel sub a = .error e → V X P 0 0 7 [some (.ref 1130), some (.int (nI d)), some (.int (nI i)), x3] [] S In J := by
    intro In e i x3 he h1 h2 h3 h4
    have nf : ¬ In 1130 2 = 0 := by rw [h1]; exact pos_ne he
    refine V_iload_n C dX4_readSum_7 rfl ?_
    refine V_sipush C (v := nI 1000) dX4_readSum_8 (by decide +kernel) ?_
    refine V_icmp_ge C 68 dX4_readSum_11 (by decide) (fun h11 => ?_) (fun h11 => ?_)
    · exact V_vret C (Nat.zero_le _) (Nat.zero_le _) dX4_readSum_68 (hP _ _ _ ⟨rfl, by rw [h4]; exact ⟨he, h1, h2, h3⟩, rfl⟩)
    · refine V_aload_n C dX4_readSum_14 rfl ?_
      refine V_getI C fl_X4_24 (ob_K hM) rfl dX4_readSum_15 ?_
      refine V_if_ne C 68 dX4_readSum_18 (by decide) (fun h18 => ?_) (fun h18 => absurd h18 (nf))
      exact V_vret C (Nat.zero_le _) (Nat.zero_le _) dX4_readSum_68 (hP _ _ _ ⟨rfl, by rw [h4]; exact ⟨he, h1, h2, h3⟩, rfl⟩)
  have loop : ∀ (c : Nat) (In : HI) (cd : Cds) (a' i : Nat) (x3 : Option Value), (toks T).length ≤ a' + c → i < a' → a < a' → a' < (toks T).length → a + cd.length ≤ a' → RSt In T a' 0 → LSt In la m (q + cd.length) → cxC In la cd q → CFr la m q I In → binP (toks T).length sel sub a = binL sel sub c cd a' → V X P 0 0 7 [some (.ref 1130), some (.int (nI d)), some (.int (nI i)), x3] [] S In J := by
    intro c
    induction c with
    | zero => intro In cd a' i x3 h1 _ _ h2; omega
    | succ c ih =>
      intro In cd a' i x3 h1 h2 h3 h4 h5 h6 h7 h8 h9 h10
      have hEn := hE.fr hla h9
      rw [binL] at h10
      have wv : (sel a' = none ∧ sgA T 9 a' = -1) ∨ (∃ op k, 4 ≤ op ∧ sel a' = some op ∧ (tk (toks T) a').1 ≠ 0 ∧ ((op = 4 ∧ sgA T 9 a' = nI 0 ∧ k = 15) ∨ (op = 5 ∧ sgA T 9 a' = nI 1 ∧ k = 16)) ∧ cOp op = k) := by
        rw [hsel]
        unfold selP
        dsimp only
        rw [sgA_2 (c1 := 43) (c2 := 45) h4 rfl]
        by_cases g1 : isSP (toks T) a' 43
        · rw [if_pos g1, if_pos g1]
          exact Or.inr ⟨4, 15, by decide, rfl, by rw [g1.1]; decide, Or.inl ⟨rfl, rfl, rfl⟩, rfl⟩
        · rw [if_neg g1, if_neg g1]
          by_cases g2 : isSP (toks T) a' 45
          · rw [if_pos g2, if_pos g2]
            exact Or.inr ⟨5, 16, by decide, rfl, by rw [g2.1]; decide, Or.inr ⟨rfl, rfl, rfl⟩, rfl⟩
          · rw [if_neg g2, if_neg g2]
            exact Or.inl ⟨rfl, rfl⟩
      rcases wv with ⟨es, ew⟩ | ⟨op, k, hop4, es, h0, hopk, hck⟩
      · rw [es] at h10
        refine V_iload_n C dX4_readSum_7 rfl ?_
        refine V_sipush C (v := nI 1000) dX4_readSum_8 (by decide +kernel) ?_
        refine V_icmp_ge C 68 dX4_readSum_11 (by decide) (fun h11 => absurd h11 (nI_ge (by omega) (by omega))) (fun h11 => ?_)
        refine V_aload_n C dX4_readSum_14 rfl ?_
        refine V_getI C fl_X4_24 (ob_K hM) rfl dX4_readSum_15 ?_
        refine V_if_ne C 68 dX4_readSum_18 (by decide) (fun h18 => absurd (h6.1) h18) (fun h18 => ?_)
        refine V_aload_n C dX4_readSum_21 rfl ?_
        refine V_ldcS C rfl 9 (by decide) rfl dX4_readSum_22 ?_
        refine V_callV (F := fun _ => True) C (c_signAmong hR0 hEn (i := 9) (by decide) h6 h4) mi_X4_signAmong ml_X4_114 rfl (ob_K hM) (by decide) (rmL (by omega) (by decide)) ⟨Nat.le_refl 0, Nat.le_refl 0⟩ (Nat.le_of_ble_eq_true rfl) (fun _ _ => trivial) (fun v _ => clo_T v) rfl dX4_readSum_24 ?_
        rintro v S' I' J' ⟨hS9, rfl, hI9, hJ9⟩
        obtain rfl := hS9.symm
        obtain rfl := hI9.symm
        obtain rfl := hJ9.symm
        rw [ew]
        refine V_istore_n C dX4_readSum_27 (hn _ (by decide)) ?_
        refine V_iload_n C dX4_readSum_28 rfl ?_
        refine V_iconst C (v := (-1)) dX4_readSum_29 (by decide +kernel) ?_
        refine V_icmp_ne C 34 dX4_readSum_30 (by decide) (fun h30 => absurd (rfl) h30) (fun h30 => ?_)
        exact V_vret C (Nat.zero_le _) (Nat.zero_le _) dX4_readSum_33 (hP _ _ _ ⟨rfl, by rw [h10]; exact ⟨h3, h4, h5, h6, h7, h8, h9⟩, rfl⟩)
      · have hlt : a' + 1 < (toks T).length := (tk_wf h4).2.2 h0
        rw [es] at h10
        dsimp only at h10
        have ev : ∀ (In2 : HI) (w : Int32), (w = nI 0 ∧ k = 15) ∨ (w = nI 1 ∧ k = 16) → TG In2 T → RSt In2 T (a' + 1) 0 → LSt In2 la m (q + cd.length) → cxC In2 la cd q → CFr la m q I In2 → V X P 0 0 38 [some (.ref 1130), some (.int (nI d)), some (.int (nI i)), some (.int w)] [] S In2 J := by
          intro In2 w hw g1 g2 g3 g4 g5
          have kk : ∀ In3, CPost T la m (a' + 1) (q + cd.length) In2 In3 (sub (a' + 1)) → V X P 0 0 43 [some (.ref 1130), some (.int (nI d)), some (.int (nI i)), some (.int w)] [] S In3 J := by
            intro In3 hp
            cases hsa : sub (a' + 1) with
            | error e =>
              rw [hsa] at hp h10
              obtain ⟨p1, p2, ⟨q', p3, p4, p5⟩, p6⟩ := hp
              have e0 : In3 la 0 = nI m := (p6.2.1 0 (by decide)).trans g3.1
              have f3 := g5.tr (by omega) p6
              have nx := fun I4 h1 h2 h3 => bad I4 e (i + 1) (some (.int w)) p1 h1 h2 h3 h10
              rcases hw with ⟨rfl, hk⟩ | ⟨rfl, hk⟩
              · refine V_aload_n C dX4_readSum_43 rfl ?_
                refine V_getR C fl_X4_15 (ob_K hM) hT1 rfl dX4_readSum_44 ?_
                refine V_iload_n C dX4_readSum_47 rfl ?_
                refine V_if_ne C 56 dX4_readSum_48 (by decide) (fun h48 => absurd (rfl) h48) (fun h48 => ?_)
                refine V_bipush C (v := nI 15) dX4_readSum_51 (by decide +kernel) ?_
                refine V_goto C 58 dX4_readSum_53 (by decide) ?_
                refine V_iconst C (v := nI 0) dX4_readSum_58 (by decide +kernel) ?_
                refine V_callV (F := fun _ => True) C (c_addCodeF hLa e0 hm p5 p4 (q0 := q) (by omega) hla _ _) mi_X2_addCode ml_X4_146 rfl (ob_K hLa) (by decide) (rmL (by omega) (by decide)) ⟨Nat.le_refl 0, Nat.le_refl 0⟩ (Nat.le_of_ble_eq_true rfl) (fun _ _ => trivial) (fun v _ => clo_T v) rfl dX4_readSum_59 ?_
                rintro v S' I4 J4 ⟨hS9, rfl, ⟨k1, k2, q9, k3, k4, k5⟩, hJ9⟩
                obtain rfl := hS9.symm
                obtain rfl := hJ9.symm
                refine V_iincU C dX4_readSum_62 rfl (hn _ (by decide)) ?_
                refine V_goto C 7 dX4_readSum_65 (by decide) ?_
                exact nx I4 (by rw [k2]; exact p2) ⟨q9, k3, k4, k5⟩ (f3.tr (Nat.le_refl _) k1)
              · refine V_aload_n C dX4_readSum_43 rfl ?_
                refine V_getR C fl_X4_15 (ob_K hM) hT1 rfl dX4_readSum_44 ?_
                refine V_iload_n C dX4_readSum_47 rfl ?_
                refine V_if_ne C 56 dX4_readSum_48 (by decide) (fun h48 => ?_) (fun h48 => absurd h48 ((by decide)))
                refine V_bipush C (v := nI 16) dX4_readSum_56 (by decide +kernel) ?_
                refine V_iconst C (v := nI 0) dX4_readSum_58 (by decide +kernel) ?_
                refine V_callV (F := fun _ => True) C (c_addCodeF hLa e0 hm p5 p4 (q0 := q) (by omega) hla _ _) mi_X2_addCode ml_X4_146 rfl (ob_K hLa) (by decide) (rmL (by omega) (by decide)) ⟨Nat.le_refl 0, Nat.le_refl 0⟩ (Nat.le_of_ble_eq_true rfl) (fun _ _ => trivial) (fun v _ => clo_T v) rfl dX4_readSum_59 ?_
                rintro v S' I4 J4 ⟨hS9, rfl, ⟨k1, k2, q9, k3, k4, k5⟩, hJ9⟩
                obtain rfl := hS9.symm
                obtain rfl := hJ9.symm
                refine V_iincU C dX4_readSum_62 rfl (hn _ (by decide)) ?_
                refine V_goto C 7 dX4_readSum_65 (by decide) ?_
                exact nx I4 (by rw [k2]; exact p2) ⟨q9, k3, k4, k5⟩ (f3.tr (Nat.le_refl _) k1)
            | ok r =>
              obtain ⟨c2, a2⟩ := r
              rw [hsa] at hp h10
              obtain ⟨p1, p2, p3, p4, p5, p6, p7⟩ := hp
              obtain ⟨Q, hQ⟩ : ∃ Q, Q = q + cd.length + c2.length := ⟨_, rfl⟩
              rw [← hQ] at p5
              have f3 := g5.tr (by omega) p7
              have hl3 : (cd ++ c2 ++ [(op, (0 : Int32))]).length = cd.length + c2.length + 1 := by rw [List.length_append, List.length_append]; rfl
              have nx := ih (adC In3 la m Q (nI k)) (cd ++ c2 ++ [(op, 0)]) a2 (i + 1) (some (.int w)) (by omega) (by omega) (by omega) p2 (by rw [hl3]; omega) (adC_rd hla p4) (by rw [hl3, show q + (cd.length + c2.length + 1) = Q + 1 by omega]; exact adC_ls p5.1) (by
                refine cxC_app _ _ _ (cxC_kp _ _ (fun j j1 j2 => ?_) (cxC_app _ _ _ (cxC_kp _ _ (fun j j1 j2 => p7.2.2.2 j (by omega)) g4) p6)) ⟨⟨fun q => ?_, fun q => ?_, fun _ => ?_⟩, trivial⟩
                · rw [List.length_append] at j2
                  exact adC_fr.2.2.2 j (by omega)
                · dsimp only at q; omega
                · dsimp only at q; omega
                · rw [List.length_append, show q + (cd.length + c2.length) = Q by omega, adC_at, hck]) (f3.tr (q2 := Q) (by omega) adC_fr) h10
              rcases hw with ⟨rfl, hk⟩ | ⟨rfl, hk⟩
              · rw [hk] at nx
                refine V_aload_n C dX4_readSum_43 rfl ?_
                refine V_getR C fl_X4_15 (ob_K hM) hT1 rfl dX4_readSum_44 ?_
                refine V_iload_n C dX4_readSum_47 rfl ?_
                refine V_if_ne C 56 dX4_readSum_48 (by decide) (fun h48 => absurd (rfl) h48) (fun h48 => ?_)
                refine V_bipush C (v := nI 15) dX4_readSum_51 (by decide +kernel) ?_
                refine V_goto C 58 dX4_readSum_53 (by decide) ?_
                refine V_iconst C (v := nI 0) dX4_readSum_58 (by decide +kernel) ?_
                refine V_callV (F := fun _ => True) C (c_addCode hLa p5.1 hm p5.2.1 (by omega) _ _) mi_X2_addCode ml_X4_146 rfl (ob_K hLa) (by decide) (rmL (by omega) (by decide)) ⟨Nat.le_refl 0, Nat.le_refl 0⟩ (Nat.le_of_ble_eq_true rfl) (fun _ _ => trivial) (fun v _ => clo_T v) rfl dX4_readSum_59 ?_
                rintro v S' I' J' ⟨hS9, rfl, hI9, hJ9⟩
                obtain rfl := hS9.symm
                obtain rfl := hI9.symm
                obtain rfl := hJ9.symm
                rw [sl_0]
                refine V_iincU C dX4_readSum_62 rfl (hn _ (by decide)) ?_
                refine V_goto C 7 dX4_readSum_65 (by decide) ?_
                exact nx
              · rw [hk] at nx
                refine V_aload_n C dX4_readSum_43 rfl ?_
                refine V_getR C fl_X4_15 (ob_K hM) hT1 rfl dX4_readSum_44 ?_
                refine V_iload_n C dX4_readSum_47 rfl ?_
                refine V_if_ne C 56 dX4_readSum_48 (by decide) (fun h48 => ?_) (fun h48 => absurd h48 ((by decide)))
                refine V_bipush C (v := nI 16) dX4_readSum_56 (by decide +kernel) ?_
                refine V_iconst C (v := nI 0) dX4_readSum_58 (by decide +kernel) ?_
                refine V_callV (F := fun _ => True) C (c_addCode hLa p5.1 hm p5.2.1 (by omega) _ _) mi_X2_addCode ml_X4_146 rfl (ob_K hLa) (by decide) (rmL (by omega) (by decide)) ⟨Nat.le_refl 0, Nat.le_refl 0⟩ (Nat.le_of_ble_eq_true rfl) (fun _ _ => trivial) (fun v _ => clo_T v) rfl dX4_readSum_59 ?_
                rintro v S' I' J' ⟨hS9, rfl, hI9, hJ9⟩
                obtain rfl := hS9.symm
                obtain rfl := hI9.symm
                obtain rfl := hJ9.symm
                rw [sl_0]
                refine V_iincU C dX4_readSum_62 rfl (hn _ (by decide)) ?_
                refine V_goto C 7 dX4_readSum_65 (by decide) ?_
                exact nx
          refine V_aload_n C dX4_readSum_38 rfl ?_
          refine V_iload_n C dX4_readSum_39 rfl ?_
          refine V_callV (F := fun _ => True) C (hsub _ In2 (a' + 1) (q + cd.length) g1 g2 g3 hlt (by omega)) mi_X4_readTerm ml_X4_155 rfl (ob_K hM) (by decide) (rmL (by omega) (by decide)) ⟨Nat.le_refl 0, Nat.le_refl 0⟩ (Nat.le_of_ble_eq_true rfl) (fun _ _ => trivial) (fun v _ => clo_T v) rfl dX4_readSum_40 ?_
          rintro v S' I4 J4 ⟨hS9, rfl, hp, hJ9⟩
          obtain rfl := hS9.symm
          obtain rfl := hJ9.symm
          exact kk _ hp
        have hne : ¬ sgA T 9 a' = -1 := by
          rcases hopk with ⟨-, h, -⟩ | ⟨-, h, -⟩ <;> rw [h] <;> decide
        have hw2 : (sgA T 9 a' = nI 0 ∧ k = 15) ∨ (sgA T 9 a' = nI 1 ∧ k = 16) := by
          rcases hopk with ⟨-, h, h'⟩ | ⟨-, h, h'⟩
          · exact Or.inl ⟨h, h'⟩
          · exact Or.inr ⟨h, h'⟩
        refine V_iload_n C dX4_readSum_7 rfl ?_
        refine V_sipush C (v := nI 1000) dX4_readSum_8 (by decide +kernel) ?_
        refine V_icmp_ge C 68 dX4_readSum_11 (by decide) (fun h11 => absurd h11 (nI_ge (by omega) (by omega))) (fun h11 => ?_)
        refine V_aload_n C dX4_readSum_14 rfl ?_
        refine V_getI C fl_X4_24 (ob_K hM) rfl dX4_readSum_15 ?_
        refine V_if_ne C 68 dX4_readSum_18 (by decide) (fun h18 => absurd (h6.1) h18) (fun h18 => ?_)
        refine V_aload_n C dX4_readSum_21 rfl ?_
        refine V_ldcS C rfl 9 (by decide) rfl dX4_readSum_22 ?_
        refine V_callV (F := fun _ => True) C (c_signAmong hR0 hEn (i := 9) (by decide) h6 h4) mi_X4_signAmong ml_X4_114 rfl (ob_K hM) (by decide) (rmL (by omega) (by decide)) ⟨Nat.le_refl 0, Nat.le_refl 0⟩ (Nat.le_of_ble_eq_true rfl) (fun _ _ => trivial) (fun v _ => clo_T v) rfl dX4_readSum_24 ?_
        rintro v S' I' J' ⟨hS9, rfl, hI9, hJ9⟩
        obtain rfl := hS9.symm
        obtain rfl := hI9.symm
        obtain rfl := hJ9.symm
        refine V_istore_n C dX4_readSum_27 (hn _ (by decide)) ?_
        refine V_iload_n C dX4_readSum_28 rfl ?_
        refine V_iconst C (v := (-1)) dX4_readSum_29 (by decide +kernel) ?_
        refine V_icmp_ne C 34 dX4_readSum_30 (by decide) (fun h30 => ?_) (fun h30 => absurd h30 (hne))
        refine V_aload_n C dX4_readSum_34 rfl ?_
        refine V_callV (F := fun _ => True) C (c_adv hR0 hEn h6 h4 h0) mi_X4_advance ml_X4_31 rfl (ob_K hM) (by decide) (rmL (by omega) (by decide)) ⟨Nat.le_refl 0, Nat.le_refl 0⟩ (Nat.le_of_ble_eq_true rfl) (fun _ _ => trivial) (fun v _ => clo_T v) rfl dX4_readSum_35 ?_
        rintro v S' I2 J2 ⟨hS9, rfl, k1, k2, hJ9⟩
        obtain rfl := hS9.symm
        obtain rfl := hJ9.symm
        exact ev I2 _ hw2 (hEn.cg k1) k2 (h7.rd hla k1) (cxC_kp _ _ (fun j _ _ => by rw [k1 (la + 11) (by omega)]) h8) (h9.tr (Nat.le_refl _) (CFr.rd hla k1))
  have kk : ∀ In, CPost T la m a q I In (sub a) → V X P 0 0 5 [some (.ref 1130), some (.int (nI d)), none, none] [] S In J := by
    intro In hp
    have h10 : binP (toks T).length sel sub a = binP (toks T).length sel sub a := rfl
    conv at h10 => rhs; rw [binP]
    cases hsa : sub a with
    | error e =>
      rw [hsa] at hp h10
      obtain ⟨p1, p2, p3, p4⟩ := hp
      have fin := bad In e 0 none p1 p2 p3 p4 h10
      refine V_iconst C (v := nI 0) dX4_readSum_5 (by decide +kernel) ?_
      refine V_istore_n C dX4_readSum_6 (hn _ (by decide)) ?_
      exact fin
    | ok r =>
      obtain ⟨c, a'⟩ := r
      rw [hsa] at hp h10
      obtain ⟨p1, p2, p3, p4, p5, p6, p7⟩ := hp
      have fin := loop ((toks T).length - a') In c a' 0 none (by omega) (by omega) p1 p2 p3 p4 p5 p6 p7 h10
      refine V_iconst C (v := nI 0) dX4_readSum_5 (by decide +kernel) ?_
      refine V_istore_n C dX4_readSum_6 (hn _ (by decide)) ?_
      exact fin
  refine V_aload_n C dX4_readSum_0 rfl ?_
  refine V_iload_n C dX4_readSum_1 rfl ?_
  refine V_callV (F := fun _ => True) C (hsub _ I a q hE hs hL ha hqa) mi_X4_readTerm ml_X4_155 rfl (ob_K hM) (by decide) (rmL (by omega) (by decide)) ⟨Nat.le_refl 0, Nat.le_refl 0⟩ (Nat.le_of_ble_eq_true rfl) (fun _ _ => trivial) (fun v _ => clo_T v) rfl dX4_readSum_2 ?_
  rintro v S' I4 J4 ⟨hS9, rfl, hp, hJ9⟩
  obtain rfl := hS9.symm
  obtain rfl := hJ9.symm
  exact kk _ hp
set_option maxRecDepth 100000 in
set_option maxHeartbeats 1000000 in
theorem c_readAny (hR : RdS S la) (hla : hLA la) {m d n : Nat} (hm : m ≤ 24) (hn5 : 5 ≤ n) {sub : Nat → PR} (hsub : CM yX4_readTest cX4_readTest 3 n d S J T la m sub) : CM yX4_readAny cX4_readAny 4 (n + 1) d S J T la m (binP (toks T).length (selP (fun a => isWP (toks T) a 11) (fun a => isWP (toks T) a 12) 10 11) sub) := by
  intro l I a q hE hs hL ha hqa
  refine Mn.of (by decide) (fun ad => by simp [lg_sl, vv, Value.category]) (fun X P hP hn C => ?_)
  have hR0 := hR
  obtain ⟨hM, hT0, hT1, hTp, hLa⟩ := hR
  have hlen := tk_len (T := T)
  have h1000 := hE.2.1
  obtain ⟨sel, hsel⟩ : ∃ sel, sel = selP (fun a => isWP (toks T) a 11) (fun a => isWP (toks T) a 12) 10 11 := ⟨_, rfl⟩
  rw [← hsel] at hP
  have bad : ∀ (In : HI) (e : Int32) (i : Nat) (x3 : Option Value), 0 < e → In 1130 2 = e → (∃ q', q ≤ q' ∧ q' ≤ 1000 ∧ In la 2 = nI q') → CFr la m q I In → binP (toks T).length sel sub a = .error e → V X P 0 0 7 [some (.ref 1130), some (.int (nI d)), some (.int (nI i)), x3] [] S In J := by
    intro In e i x3 he h1 h2 h3 h4
    have nf : ¬ In 1130 2 = 0 := by rw [h1]; exact pos_ne he
    refine V_iload_n C dX4_readAny_7 rfl ?_
    refine V_sipush C (v := nI 1000) dX4_readAny_8 (by decide +kernel) ?_
    refine V_icmp_ge C 68 dX4_readAny_11 (by decide) (fun h11 => ?_) (fun h11 => ?_)
    · exact V_vret C (Nat.zero_le _) (Nat.zero_le _) dX4_readAny_68 (hP _ _ _ ⟨rfl, by rw [h4]; exact ⟨he, h1, h2, h3⟩, rfl⟩)
    · refine V_aload_n C dX4_readAny_14 rfl ?_
      refine V_getI C fl_X4_24 (ob_K hM) rfl dX4_readAny_15 ?_
      refine V_if_ne C 68 dX4_readAny_18 (by decide) (fun h18 => ?_) (fun h18 => absurd h18 (nf))
      exact V_vret C (Nat.zero_le _) (Nat.zero_le _) dX4_readAny_68 (hP _ _ _ ⟨rfl, by rw [h4]; exact ⟨he, h1, h2, h3⟩, rfl⟩)
  have loop : ∀ (c : Nat) (In : HI) (cd : Cds) (a' i : Nat) (x3 : Option Value), (toks T).length ≤ a' + c → i < a' → a < a' → a' < (toks T).length → a + cd.length ≤ a' → RSt In T a' 0 → LSt In la m (q + cd.length) → cxC In la cd q → CFr la m q I In → binP (toks T).length sel sub a = binL sel sub c cd a' → V X P 0 0 7 [some (.ref 1130), some (.int (nI d)), some (.int (nI i)), x3] [] S In J := by
    intro c
    induction c with
    | zero => intro In cd a' i x3 h1 _ _ h2; omega
    | succ c ih =>
      intro In cd a' i x3 h1 h2 h3 h4 h5 h6 h7 h8 h9 h10
      have hEn := hE.fr hla h9
      rw [binL] at h10
      have wv : (sel a' = none ∧ fwN (toks T) a' 11 2 = -1) ∨ (∃ op k, 4 ≤ op ∧ sel a' = some op ∧ (tk (toks T) a').1 ≠ 0 ∧ ((op = 10 ∧ fwN (toks T) a' 11 2 = nI 0 ∧ k = 11) ∨ (op = 11 ∧ fwN (toks T) a' 11 2 = nI 1 ∧ k = 12)) ∧ cOp op = k) := by
        rw [hsel]
        unfold selP
        dsimp only
        by_cases g1 : isWP (toks T) a' 11
        · rw [if_pos g1, fwN_at (j := 0) g1 2 (by decide) (by decide)]
          exact Or.inr ⟨10, 11, by decide, rfl, by rw [g1.1]; decide, Or.inl ⟨rfl, rfl, rfl⟩, rfl⟩
        · rw [if_neg g1]
          by_cases g2 : isWP (toks T) a' 12
          · rw [if_pos g2, fwN_at (j := 1) g2 2 (by decide) (by decide)]
            exact Or.inr ⟨11, 12, by decide, rfl, by rw [g2.1]; decide, Or.inr ⟨rfl, rfl, rfl⟩, rfl⟩
          · rw [if_neg g2]
            exact Or.inl ⟨rfl, fwN_no 2 (fun j hj => by
              rcases Nat.lt_or_ge j 1 with h | h
              · rw [show j = 0 by omega]; exact g1
              · rw [show j = 1 by omega]; exact g2)⟩
      rcases wv with ⟨es, ew⟩ | ⟨op, k, hop4, es, h0, hopk, hck⟩
      · rw [es] at h10
        refine V_iload_n C dX4_readAny_7 rfl ?_
        refine V_sipush C (v := nI 1000) dX4_readAny_8 (by decide +kernel) ?_
        refine V_icmp_ge C 68 dX4_readAny_11 (by decide) (fun h11 => absurd h11 (nI_ge (by omega) (by omega))) (fun h11 => ?_)
        refine V_aload_n C dX4_readAny_14 rfl ?_
        refine V_getI C fl_X4_24 (ob_K hM) rfl dX4_readAny_15 ?_
        refine V_if_ne C 68 dX4_readAny_18 (by decide) (fun h18 => absurd (h6.1) h18) (fun h18 => ?_)
        refine V_aload_n C dX4_readAny_21 rfl ?_
        refine V_ldcS C rfl 11 (by decide) rfl dX4_readAny_22 ?_
        refine V_callV (F := fun _ => True) C (c_wordAmong hR0 hEn (i := 11) (w0 := 11) (c := 2) (by decide) h6 h4) mi_X4_wordAmong ml_X4_92 rfl (ob_K hM) (by decide) (rmL (by omega) (by decide)) ⟨Nat.le_refl 0, Nat.le_refl 0⟩ (Nat.le_of_ble_eq_true rfl) (fun _ _ => trivial) (fun v _ => clo_T v) rfl dX4_readAny_24 ?_
        rintro v S' I' J' ⟨hS9, rfl, hI9, hJ9⟩
        obtain rfl := hS9.symm
        obtain rfl := hI9.symm
        obtain rfl := hJ9.symm
        rw [ew]
        refine V_istore_n C dX4_readAny_27 (hn _ (by decide)) ?_
        refine V_iload_n C dX4_readAny_28 rfl ?_
        refine V_iconst C (v := (-1)) dX4_readAny_29 (by decide +kernel) ?_
        refine V_icmp_ne C 34 dX4_readAny_30 (by decide) (fun h30 => absurd (rfl) h30) (fun h30 => ?_)
        exact V_vret C (Nat.zero_le _) (Nat.zero_le _) dX4_readAny_33 (hP _ _ _ ⟨rfl, by rw [h10]; exact ⟨h3, h4, h5, h6, h7, h8, h9⟩, rfl⟩)
      · have hlt : a' + 1 < (toks T).length := (tk_wf h4).2.2 h0
        rw [es] at h10
        dsimp only at h10
        have ev : ∀ (In2 : HI) (w : Int32), (w = nI 0 ∧ k = 11) ∨ (w = nI 1 ∧ k = 12) → TG In2 T → RSt In2 T (a' + 1) 0 → LSt In2 la m (q + cd.length) → cxC In2 la cd q → CFr la m q I In2 → V X P 0 0 38 [some (.ref 1130), some (.int (nI d)), some (.int (nI i)), some (.int w)] [] S In2 J := by
          intro In2 w hw g1 g2 g3 g4 g5
          have kk : ∀ In3, CPost T la m (a' + 1) (q + cd.length) In2 In3 (sub (a' + 1)) → V X P 0 0 43 [some (.ref 1130), some (.int (nI d)), some (.int (nI i)), some (.int w)] [] S In3 J := by
            intro In3 hp
            cases hsa : sub (a' + 1) with
            | error e =>
              rw [hsa] at hp h10
              obtain ⟨p1, p2, ⟨q', p3, p4, p5⟩, p6⟩ := hp
              have e0 : In3 la 0 = nI m := (p6.2.1 0 (by decide)).trans g3.1
              have f3 := g5.tr (by omega) p6
              have nx := fun I4 h1 h2 h3 => bad I4 e (i + 1) (some (.int w)) p1 h1 h2 h3 h10
              rcases hw with ⟨rfl, hk⟩ | ⟨rfl, hk⟩
              · refine V_aload_n C dX4_readAny_43 rfl ?_
                refine V_getR C fl_X4_15 (ob_K hM) hT1 rfl dX4_readAny_44 ?_
                refine V_iload_n C dX4_readAny_47 rfl ?_
                refine V_if_ne C 56 dX4_readAny_48 (by decide) (fun h48 => absurd (rfl) h48) (fun h48 => ?_)
                refine V_bipush C (v := nI 11) dX4_readAny_51 (by decide +kernel) ?_
                refine V_goto C 58 dX4_readAny_53 (by decide) ?_
                refine V_iconst C (v := nI 0) dX4_readAny_58 (by decide +kernel) ?_
                refine V_callV (F := fun _ => True) C (c_addCodeF hLa e0 hm p5 p4 (q0 := q) (by omega) hla _ _) mi_X2_addCode ml_X4_146 rfl (ob_K hLa) (by decide) (rmL (by omega) (by decide)) ⟨Nat.le_refl 0, Nat.le_refl 0⟩ (Nat.le_of_ble_eq_true rfl) (fun _ _ => trivial) (fun v _ => clo_T v) rfl dX4_readAny_59 ?_
                rintro v S' I4 J4 ⟨hS9, rfl, ⟨k1, k2, q9, k3, k4, k5⟩, hJ9⟩
                obtain rfl := hS9.symm
                obtain rfl := hJ9.symm
                refine V_iincU C dX4_readAny_62 rfl (hn _ (by decide)) ?_
                refine V_goto C 7 dX4_readAny_65 (by decide) ?_
                exact nx I4 (by rw [k2]; exact p2) ⟨q9, k3, k4, k5⟩ (f3.tr (Nat.le_refl _) k1)
              · refine V_aload_n C dX4_readAny_43 rfl ?_
                refine V_getR C fl_X4_15 (ob_K hM) hT1 rfl dX4_readAny_44 ?_
                refine V_iload_n C dX4_readAny_47 rfl ?_
                refine V_if_ne C 56 dX4_readAny_48 (by decide) (fun h48 => ?_) (fun h48 => absurd h48 ((by decide)))
                refine V_bipush C (v := nI 12) dX4_readAny_56 (by decide +kernel) ?_
                refine V_iconst C (v := nI 0) dX4_readAny_58 (by decide +kernel) ?_
                refine V_callV (F := fun _ => True) C (c_addCodeF hLa e0 hm p5 p4 (q0 := q) (by omega) hla _ _) mi_X2_addCode ml_X4_146 rfl (ob_K hLa) (by decide) (rmL (by omega) (by decide)) ⟨Nat.le_refl 0, Nat.le_refl 0⟩ (Nat.le_of_ble_eq_true rfl) (fun _ _ => trivial) (fun v _ => clo_T v) rfl dX4_readAny_59 ?_
                rintro v S' I4 J4 ⟨hS9, rfl, ⟨k1, k2, q9, k3, k4, k5⟩, hJ9⟩
                obtain rfl := hS9.symm
                obtain rfl := hJ9.symm
                refine V_iincU C dX4_readAny_62 rfl (hn _ (by decide)) ?_
                refine V_goto C 7 dX4_readAny_65 (by decide) ?_
                exact nx I4 (by rw [k2]; exact p2) ⟨q9, k3, k4, k5⟩ (f3.tr (Nat.le_refl _) k1)
            | ok r =>
              obtain ⟨c2, a2⟩ := r
              rw [hsa] at hp h10
              obtain ⟨p1, p2, p3, p4, p5, p6, p7⟩ := hp
              obtain ⟨Q, hQ⟩ : ∃ Q, Q = q + cd.length + c2.length := ⟨_, rfl⟩
              rw [← hQ] at p5
              have f3 := g5.tr (by omega) p7
              have hl3 : (cd ++ c2 ++ [(op, (0 : Int32))]).length = cd.length + c2.length + 1 := by rw [List.length_append, List.length_append]; rfl
              have nx := ih (adC In3 la m Q (nI k)) (cd ++ c2 ++ [(op, 0)]) a2 (i + 1) (some (.int w)) (by omega) (by omega) (by omega) p2 (by rw [hl3]; omega) (adC_rd hla p4) (by rw [hl3, show q + (cd.length + c2.length + 1) = Q + 1 by omega]; exact adC_ls p5.1) (by
                refine cxC_app _ _ _ (cxC_kp _ _ (fun j j1 j2 => ?_) (cxC_app _ _ _ (cxC_kp _ _ (fun j j1 j2 => p7.2.2.2 j (by omega)) g4) p6)) ⟨⟨fun q => ?_, fun q => ?_, fun _ => ?_⟩, trivial⟩
                · rw [List.length_append] at j2
                  exact adC_fr.2.2.2 j (by omega)
                · dsimp only at q; omega
                · dsimp only at q; omega
                · rw [List.length_append, show q + (cd.length + c2.length) = Q by omega, adC_at, hck]) (f3.tr (q2 := Q) (by omega) adC_fr) h10
              rcases hw with ⟨rfl, hk⟩ | ⟨rfl, hk⟩
              · rw [hk] at nx
                refine V_aload_n C dX4_readAny_43 rfl ?_
                refine V_getR C fl_X4_15 (ob_K hM) hT1 rfl dX4_readAny_44 ?_
                refine V_iload_n C dX4_readAny_47 rfl ?_
                refine V_if_ne C 56 dX4_readAny_48 (by decide) (fun h48 => absurd (rfl) h48) (fun h48 => ?_)
                refine V_bipush C (v := nI 11) dX4_readAny_51 (by decide +kernel) ?_
                refine V_goto C 58 dX4_readAny_53 (by decide) ?_
                refine V_iconst C (v := nI 0) dX4_readAny_58 (by decide +kernel) ?_
                refine V_callV (F := fun _ => True) C (c_addCode hLa p5.1 hm p5.2.1 (by omega) _ _) mi_X2_addCode ml_X4_146 rfl (ob_K hLa) (by decide) (rmL (by omega) (by decide)) ⟨Nat.le_refl 0, Nat.le_refl 0⟩ (Nat.le_of_ble_eq_true rfl) (fun _ _ => trivial) (fun v _ => clo_T v) rfl dX4_readAny_59 ?_
                rintro v S' I' J' ⟨hS9, rfl, hI9, hJ9⟩
                obtain rfl := hS9.symm
                obtain rfl := hI9.symm
                obtain rfl := hJ9.symm
                rw [sl_0]
                refine V_iincU C dX4_readAny_62 rfl (hn _ (by decide)) ?_
                refine V_goto C 7 dX4_readAny_65 (by decide) ?_
                exact nx
              · rw [hk] at nx
                refine V_aload_n C dX4_readAny_43 rfl ?_
                refine V_getR C fl_X4_15 (ob_K hM) hT1 rfl dX4_readAny_44 ?_
                refine V_iload_n C dX4_readAny_47 rfl ?_
                refine V_if_ne C 56 dX4_readAny_48 (by decide) (fun h48 => ?_) (fun h48 => absurd h48 ((by decide)))
                refine V_bipush C (v := nI 12) dX4_readAny_56 (by decide +kernel) ?_
                refine V_iconst C (v := nI 0) dX4_readAny_58 (by decide +kernel) ?_
                refine V_callV (F := fun _ => True) C (c_addCode hLa p5.1 hm p5.2.1 (by omega) _ _) mi_X2_addCode ml_X4_146 rfl (ob_K hLa) (by decide) (rmL (by omega) (by decide)) ⟨Nat.le_refl 0, Nat.le_refl 0⟩ (Nat.le_of_ble_eq_true rfl) (fun _ _ => trivial) (fun v _ => clo_T v) rfl dX4_readAny_59 ?_
                rintro v S' I' J' ⟨hS9, rfl, hI9, hJ9⟩
                obtain rfl := hS9.symm
                obtain rfl := hI9.symm
                obtain rfl := hJ9.symm
                rw [sl_0]
                refine V_iincU C dX4_readAny_62 rfl (hn _ (by decide)) ?_
                refine V_goto C 7 dX4_readAny_65 (by decide) ?_
                exact nx
          refine V_aload_n C dX4_readAny_38 rfl ?_
          refine V_iload_n C dX4_readAny_39 rfl ?_
          refine V_callV (F := fun _ => True) C (hsub _ In2 (a' + 1) (q + cd.length) g1 g2 g3 hlt (by omega)) mi_X4_readTest ml_X4_141 rfl (ob_K hM) (by decide) (rmL (by omega) (by decide)) ⟨Nat.le_refl 0, Nat.le_refl 0⟩ (Nat.le_of_ble_eq_true rfl) (fun _ _ => trivial) (fun v _ => clo_T v) rfl dX4_readAny_40 ?_
          rintro v S' I4 J4 ⟨hS9, rfl, hp, hJ9⟩
          obtain rfl := hS9.symm
          obtain rfl := hJ9.symm
          exact kk _ hp
        have hne : ¬ fwN (toks T) a' 11 2 = -1 := by
          rcases hopk with ⟨-, h, -⟩ | ⟨-, h, -⟩ <;> rw [h] <;> decide
        have hw2 : (fwN (toks T) a' 11 2 = nI 0 ∧ k = 11) ∨ (fwN (toks T) a' 11 2 = nI 1 ∧ k = 12) := by
          rcases hopk with ⟨-, h, h'⟩ | ⟨-, h, h'⟩
          · exact Or.inl ⟨h, h'⟩
          · exact Or.inr ⟨h, h'⟩
        refine V_iload_n C dX4_readAny_7 rfl ?_
        refine V_sipush C (v := nI 1000) dX4_readAny_8 (by decide +kernel) ?_
        refine V_icmp_ge C 68 dX4_readAny_11 (by decide) (fun h11 => absurd h11 (nI_ge (by omega) (by omega))) (fun h11 => ?_)
        refine V_aload_n C dX4_readAny_14 rfl ?_
        refine V_getI C fl_X4_24 (ob_K hM) rfl dX4_readAny_15 ?_
        refine V_if_ne C 68 dX4_readAny_18 (by decide) (fun h18 => absurd (h6.1) h18) (fun h18 => ?_)
        refine V_aload_n C dX4_readAny_21 rfl ?_
        refine V_ldcS C rfl 11 (by decide) rfl dX4_readAny_22 ?_
        refine V_callV (F := fun _ => True) C (c_wordAmong hR0 hEn (i := 11) (w0 := 11) (c := 2) (by decide) h6 h4) mi_X4_wordAmong ml_X4_92 rfl (ob_K hM) (by decide) (rmL (by omega) (by decide)) ⟨Nat.le_refl 0, Nat.le_refl 0⟩ (Nat.le_of_ble_eq_true rfl) (fun _ _ => trivial) (fun v _ => clo_T v) rfl dX4_readAny_24 ?_
        rintro v S' I' J' ⟨hS9, rfl, hI9, hJ9⟩
        obtain rfl := hS9.symm
        obtain rfl := hI9.symm
        obtain rfl := hJ9.symm
        refine V_istore_n C dX4_readAny_27 (hn _ (by decide)) ?_
        refine V_iload_n C dX4_readAny_28 rfl ?_
        refine V_iconst C (v := (-1)) dX4_readAny_29 (by decide +kernel) ?_
        refine V_icmp_ne C 34 dX4_readAny_30 (by decide) (fun h30 => ?_) (fun h30 => absurd h30 (hne))
        refine V_aload_n C dX4_readAny_34 rfl ?_
        refine V_callV (F := fun _ => True) C (c_adv hR0 hEn h6 h4 h0) mi_X4_advance ml_X4_31 rfl (ob_K hM) (by decide) (rmL (by omega) (by decide)) ⟨Nat.le_refl 0, Nat.le_refl 0⟩ (Nat.le_of_ble_eq_true rfl) (fun _ _ => trivial) (fun v _ => clo_T v) rfl dX4_readAny_35 ?_
        rintro v S' I2 J2 ⟨hS9, rfl, k1, k2, hJ9⟩
        obtain rfl := hS9.symm
        obtain rfl := hJ9.symm
        exact ev I2 _ hw2 (hEn.cg k1) k2 (h7.rd hla k1) (cxC_kp _ _ (fun j _ _ => by rw [k1 (la + 11) (by omega)]) h8) (h9.tr (Nat.le_refl _) (CFr.rd hla k1))
  have kk : ∀ In, CPost T la m a q I In (sub a) → V X P 0 0 5 [some (.ref 1130), some (.int (nI d)), none, none] [] S In J := by
    intro In hp
    have h10 : binP (toks T).length sel sub a = binP (toks T).length sel sub a := rfl
    conv at h10 => rhs; rw [binP]
    cases hsa : sub a with
    | error e =>
      rw [hsa] at hp h10
      obtain ⟨p1, p2, p3, p4⟩ := hp
      have fin := bad In e 0 none p1 p2 p3 p4 h10
      refine V_iconst C (v := nI 0) dX4_readAny_5 (by decide +kernel) ?_
      refine V_istore_n C dX4_readAny_6 (hn _ (by decide)) ?_
      exact fin
    | ok r =>
      obtain ⟨c, a'⟩ := r
      rw [hsa] at hp h10
      obtain ⟨p1, p2, p3, p4, p5, p6, p7⟩ := hp
      have fin := loop ((toks T).length - a') In c a' 0 none (by omega) (by omega) p1 p2 p3 p4 p5 p6 p7 h10
      refine V_iconst C (v := nI 0) dX4_readAny_5 (by decide +kernel) ?_
      refine V_istore_n C dX4_readAny_6 (hn _ (by decide)) ?_
      exact fin
  refine V_aload_n C dX4_readAny_0 rfl ?_
  refine V_iload_n C dX4_readAny_1 rfl ?_
  refine V_callV (F := fun _ => True) C (hsub _ I a q hE hs hL ha hqa) mi_X4_readTest ml_X4_141 rfl (ob_K hM) (by decide) (rmL (by omega) (by decide)) ⟨Nat.le_refl 0, Nat.le_refl 0⟩ (Nat.le_of_ble_eq_true rfl) (fun _ _ => trivial) (fun v _ => clo_T v) rfl dX4_readAny_2 ?_
  rintro v S' I4 J4 ⟨hS9, rfl, hp, hJ9⟩
  obtain rfl := hS9.symm
  obtain rfl := hJ9.symm
  exact kk _ hp
end C35
