/-! the class's reader: the token against lists of words and signs; refuse, expect, a number -/
section C33
variable {l : Launch} {S : HS} {I : HI} {J : HJ} {la : Nat} {T : List Int32}
/-- the tape holds T -/
def TG (I : HI) (T : List Int32) : Prop := tpK I T ∧ T.length ≤ 1000 ∧ ∀ c ∈ T, okB c
theorem TG.cg {I I' : HI} (h : TG I T) (f : ∀ a, a ≠ 1130 → I' a = I a) : TG I' T := ⟨tpK_cg h.1 f, h.2⟩
/-- the reader stands at the token a with the fault f -/
def RSt (I : HI) (T : List Int32) (a : Nat) (f : Int32) : Prop := I 1130 2 = f ∧ rdT I (tk (toks T) a)
theorem RSt.f {a : Nat} {f g : Int32} (h : RSt I T a f) : RSt (up2 I 1130 2 g) T a g := ⟨r_at, by obtain ⟨-, h1, h2, h3, h4⟩ := h; exact ⟨(r_ne (by decide)).trans h1, (r_ne (by decide)).trans h2, (r_ne (by decide)).trans h3, fun q => (r_ne (by decide)).trans (h4 q)⟩⟩
theorem tk_wf {a : Nat} (ha : a < (toks T).length) : (tk (toks T) a).2.1 ≤ T.length ∧ (tk (toks T) a).1 ≤ 4 ∧ ((tk (toks T) a).1 ≠ 0 → a + 1 < (toks T).length) := wfK_at _ a (tks_wf _ _ (Nat.zero_le _)) ha
theorem tk_len : (toks T).length ≤ T.length + 1 := tks_len _ _ (Nat.zero_le _)
theorem tk_bh {a : Nat} (ha : a < (toks T).length) : (tk (toks T) a).2.1 ≤ (tk (toks T) a).2.2.2 ∧ (tk (toks T) a).2.2.2 ≤ T.length := by
  rcases toks_c ha with e | ⟨k, hk, -, e⟩
  · rw [e]; exact ⟨Nat.le_refl _, Nat.le_refl _⟩
  · have := tok1_nx (t := fun i => T.getD i 0) (n := T.length) hk
    rw [e]; exact ⟨by omega, this.2.1⟩
set_option maxRecDepth 100000 in
theorem c_adv (hR : RdS S la) (hE : TG I T) {a : Nat} {f : Int32} (hs : RSt I T a f) (ha : a < (toks T).length) (h0 : (tk (toks T) a).1 ≠ 0) : Mn l yX4_advance cX4_advance 2 none 4 [.ref 1130] S I J (fun v I' J' => v = none ∧ (∀ b, b ≠ 1130 → I' b = I b) ∧ RSt I' T (a + 1) f ∧ J' = J) := by
  have e := tks_at (t := tpT T) (n := T.length) T.length 0 a (Nat.zero_le _) (by omega) ((tk_wf ha).2.2 h0)
  exact c_advance hR hE.1 hE.2.1 hE.2.2 hs.2.2.2.1 (tk_bh ha).2 (fun I' q2 q3 q4 => ⟨rfl, q2, ⟨q3.trans hs.1, by rw [show tk (toks T) (a + 1) = nxT (tpT T) T.length (tk (toks T) a).2.2.2 from e.1]; exact q4⟩, rfl⟩)
set_option maxRecDepth 100000 in
theorem c_refuse (hR : RdS S la) {a w : Nat} (hs : RSt I T a 0) : Mn l yX4_refuse cX4_refuse 2 none 0 [.ref 1130, .int (nI w)] S I J (fun v I' J' => v = none ∧ I' = up2 I 1130 2 (errP (toks T) a w) ∧ J' = J) := by
  refine Mn.of (by decide) (fun ad => by simp [lg_sl, vv, Value.category]) (fun X P hP hn C => ?_)
  obtain ⟨hM, hT0, hT1, hTp, hLa⟩ := hR
  have e4 := hs.2.2.1
  refine V_aload_n C dX4_refuse_0 rfl ?_
  refine V_getI C fl_X4_24 (ob_K hM) rfl dX4_refuse_1 ?_
  refine V_if_ne C 20 dX4_refuse_4 (by decide) (fun h4 => absurd (hs.1) h4) (fun h4 => ?_)
  refine V_aload_n C dX4_refuse_7 rfl ?_
  refine V_iload_n C dX4_refuse_8 rfl ?_
  refine V_bipush C (v := nI 16) dX4_refuse_9 (by decide +kernel) ?_
  refine V_aload_n C dX4_refuse_11 rfl ?_
  refine V_getI C fl_X4_40 (ob_K hM) rfl dX4_refuse_12 ?_
  refine V_imul C dX4_refuse_15 ?_
  refine V_iadd C dX4_refuse_16 ?_
  refine V_putI C fl_X4_24 (ob_K hM) rfl rfl dX4_refuse_17 ?_
  exact V_vret C (Nat.zero_le _) (Nat.zero_le _) dX4_refuse_20 (hP _ _ _ ⟨rfl, by rw [e4, pk_mul, nI_add]; rfl, rfl⟩)
set_option maxRecDepth 100000 in
theorem c_refuseF (hR : RdS S la) (w : Int32) (hf : ¬ I 1130 2 = 0) : Mn l yX4_refuse cX4_refuse 2 none 0 [.ref 1130, .int w] S I J (fun v I' J' => v = none ∧ I' = I ∧ J' = J) := by
  refine Mn.of (by decide) (fun ad => by simp [lg_sl, vv, Value.category]) (fun X P hP hn C => ?_)
  obtain ⟨hM, hT0, hT1, hTp, hLa⟩ := hR
  refine V_aload_n C dX4_refuse_0 rfl ?_
  refine V_getI C fl_X4_24 (ob_K hM) rfl dX4_refuse_1 ?_
  refine V_if_ne C 20 dX4_refuse_4 (by decide) (fun h4 => ?_) (fun h4 => absurd h4 (hf))
  exact V_vret C (Nat.zero_le _) (Nat.zero_le _) dX4_refuse_20 (hP _ _ _ ⟨rfl, rfl, rfl⟩)
set_option maxRecDepth 100000 in
set_option maxHeartbeats 1000000 in
theorem c_isPiece (hR : RdS S la) (hE : TG I T) {i p b f u : Nat} (hp : I 1130 4 = nI p) (hb : I 1130 5 = nI b) (hpb : p ≤ b) (hb2 : b ≤ 1000) (hi : i < 13) (hfu : f ≤ u) (hu : u ≤ sLe.getD i 0) : Mn l yX4_isPieceOf cX4_isPieceOf 5 (some .boolean) 4 [.ref 1130, .ref (5000 + i), .int (nI f), .int (nI u)] S I J (fun v I' J' => v = some (.int (bI (pcM T i p (b - p) f u))) ∧ I' = I ∧ J' = J) := by
  refine Mn.of (by decide) (fun ad => by simp [lg_sl, vv, Value.category]) (fun X P hP hn C => ?_)
  obtain ⟨hM, hT0, hT1, hTp, hLa⟩ := hR
  have h50 := (sL_lt i hi).2.1
  have e1 : nI u - nI f = nI (u - f) := pk_sub hfu
  have e2 : I 1130 5 - I 1130 4 = nI (b - p) := by rw [hb, hp, pk_sub hpb]
  have loop : ∀ (c j : Nat), j + c = u - f → u - f = b - p → (∀ x, x < j → (sBy.getD i []).getD (f + x) 0 = T.getD (p + x) 0) → V X P 0 0 20 [some (.ref 1130), some (.ref (5000 + i)), some (.int (nI f)), some (.int (nI u)), some (.int (nI (f + j)))] [] S I J := by
    intro c
    induction c with
    | zero =>
      intro j hj hub h
      refine V_iload C dX4_isPieceOf_20 rfl ?_
      refine V_iload_n C dX4_isPieceOf_22 rfl ?_
      refine V_icmp_ge C 59 dX4_isPieceOf_23 (by decide) (fun h23 => ?_) (fun h23 => absurd (nI_le (by omega) (by omega)) h23)
      refine V_iconst C (v := nI 1) dX4_isPieceOf_59 (by decide +kernel) ?_
      exact V_zret C (by first | exact Or.inl rfl | exact Or.inr rfl | (simp only [bI]; split <;> first | exact Or.inl rfl | exact Or.inr rfl) | assumption) (Nat.zero_le _) (Nat.zero_le _) dX4_isPieceOf_60 (hP _ _ _ ⟨by rw [bI_t ⟨hub, fun x hx => h x (by omega)⟩]; rfl, rfl, rfl⟩)
    | succ c ih =>
      intro j hj hub h
      have e3 : I 1130 4 + nI (f + j) - nI f = nI (p + j) := by rw [hp, nI_add, pk_sub (by omega)]; congr 1; omega
      refine V_iload C dX4_isPieceOf_20 rfl ?_
      refine V_iload_n C dX4_isPieceOf_22 rfl ?_
      refine V_icmp_ge C 59 dX4_isPieceOf_23 (by decide) (fun h23 => absurd h23 (nI_ge (by omega) (by omega))) (fun h23 => ?_)
      refine V_aload_n C dX4_isPieceOf_26 rfl ?_
      refine V_iload C dX4_isPieceOf_27 rfl ?_
      refine V_callT (F := fun _ => True) C hi (c_charAt hi (k := f + j) (by omega)) mi_J0_charAt_5068e ml_X4_78 rfl rfl (by decide) (by decide) (Nat.le_of_ble_eq_true rfl) (fun _ _ => trivial) (fun v _ => clo_T v) rfl dX4_isPieceOf_29 ?_
      rintro v S' I' J' ⟨hS9, rfl, hI9, hJ9⟩
      obtain rfl := hS9.symm
      obtain rfl := hI9.symm
      obtain rfl := hJ9.symm
      refine V_aload_n C dX4_isPieceOf_32 rfl ?_
      refine V_getR C fl_X4_9 (ob_K hM) hT0 rfl dX4_isPieceOf_33 ?_
      refine V_aload_n C dX4_isPieceOf_36 rfl ?_
      refine V_getI C fl_X4_40 (ob_K hM) rfl dX4_isPieceOf_37 ?_
      refine V_iload C dX4_isPieceOf_40 rfl ?_
      refine V_iadd C dX4_isPieceOf_42 ?_
      refine V_iload_n C dX4_isPieceOf_43 rfl ?_
      refine V_isub C dX4_isPieceOf_44 ?_
      rw [e3]
      refine V_callV (F := fun _ => True) C (c_signAt hTp hE.1 hE.2.1 (n := p + j) (by omega)) mi_X5_signAt ml_X4_48 rfl (ob_K hTp) (by decide) (by decide) (by decide) (Nat.le_of_ble_eq_true rfl) (fun _ _ => trivial) (fun v _ => clo_T v) rfl dX4_isPieceOf_45 ?_
      rintro v S' I' J' ⟨hS9, rfl, hI9, hJ9⟩
      obtain rfl := hS9.symm
      obtain rfl := hI9.symm
      obtain rfl := hJ9.symm
      refine V_icmp_eq C 53 dX4_isPieceOf_48 (by decide) (fun h48 => ?_) (fun h48 => ?_)
      · refine V_iincU C dX4_isPieceOf_53 rfl (hn _ (by decide)) ?_
        refine V_goto C 20 dX4_isPieceOf_56 (by decide) ?_
        exact ih (j + 1) (by omega) hub (fun x hx => if g : x = j then (by subst g; exact h48) else h x (by omega))
      · refine V_iconst C (v := nI 0) dX4_isPieceOf_51 (by decide +kernel) ?_
        exact V_zret C (by first | exact Or.inl rfl | exact Or.inr rfl | (simp only [bI]; split <;> first | exact Or.inl rfl | exact Or.inr rfl) | assumption) (Nat.zero_le _) (Nat.zero_le _) dX4_isPieceOf_52 (hP _ _ _ ⟨by rw [bI_f (fun q => h48 (q.2 j (by omega)))]; rfl, rfl, rfl⟩)
  by_cases hl : u - f = b - p
  · have st := loop (u - f) 0 (by omega) hl (fun x hx => absurd hx (Nat.not_lt_zero _))
    refine V_iload_n C dX4_isPieceOf_0 rfl ?_
    refine V_iload_n C dX4_isPieceOf_1 rfl ?_
    refine V_isub C dX4_isPieceOf_2 ?_
    rw [e1]
    refine V_aload_n C dX4_isPieceOf_3 rfl ?_
    refine V_getI C fl_X4_28 (ob_K hM) rfl dX4_isPieceOf_4 ?_
    refine V_aload_n C dX4_isPieceOf_7 rfl ?_
    refine V_getI C fl_X4_40 (ob_K hM) rfl dX4_isPieceOf_8 ?_
    refine V_isub C dX4_isPieceOf_11 ?_
    rw [e2]
    refine V_icmp_eq C 17 dX4_isPieceOf_12 (by decide) (fun h12 => ?_) (fun h12 => absurd (by rw [hl]) h12)
    refine V_iload_n C dX4_isPieceOf_17 rfl ?_
    refine V_istore C dX4_isPieceOf_18 (hn _ (by decide)) ?_
    exact st
  · refine V_iload_n C dX4_isPieceOf_0 rfl ?_
    refine V_iload_n C dX4_isPieceOf_1 rfl ?_
    refine V_isub C dX4_isPieceOf_2 ?_
    rw [e1]
    refine V_aload_n C dX4_isPieceOf_3 rfl ?_
    refine V_getI C fl_X4_28 (ob_K hM) rfl dX4_isPieceOf_4 ?_
    refine V_aload_n C dX4_isPieceOf_7 rfl ?_
    refine V_getI C fl_X4_40 (ob_K hM) rfl dX4_isPieceOf_8 ?_
    refine V_isub C dX4_isPieceOf_11 ?_
    rw [e2]
    refine V_icmp_eq C 17 dX4_isPieceOf_12 (by decide) (fun h12 => absurd h12 (fun q => hl ((nI_eq (by omega) (by omega)).mp q))) (fun h12 => ?_)
    refine V_iconst C (v := nI 0) dX4_isPieceOf_15 (by decide +kernel) ?_
    exact V_zret C (by first | exact Or.inl rfl | exact Or.inr rfl | (simp only [bI]; split <;> first | exact Or.inl rfl | exact Or.inr rfl) | assumption) (Nat.zero_le _) (Nat.zero_le _) dX4_isPieceOf_16 (hP _ _ _ ⟨by rw [bI_f (fun q => hl q.1)]; rfl, rfl, rfl⟩)
set_option maxRecDepth 100000 in
set_option maxHeartbeats 1000000 in
theorem c_wordAmong (hR : RdS S la) (hE : TG I T) {a i w0 c : Nat} {f : Int32} (hq : (i, w0, c) ∈ wLs) (hs : RSt I T a f) (ha : a < (toks T).length) : Mn l yX4_wordAmong cX4_wordAmong 5 (some .int) 5 [.ref 1130, .ref (5000 + i)] S I J (fun v I' J' => v = some (.int (fwN (toks T) a w0 c)) ∧ I' = I ∧ J' = J) := by
  refine Mn.of (by decide) (fun ad => by simp [lg_sl, vv, Value.category]) (fun X P hP hn C => ?_)
  have hR0 := hR
  obtain ⟨hM, hT0, hT1, hTp, hLa⟩ := hR
  have hi := (spl_ok _ hq).1
  dsimp only at hi
  have h50 := (sL_lt i hi).2.1
  obtain ⟨hf, r3, r4, r5, -⟩ := hs
  obtain ⟨b1, b2⟩ := tk_bh ha
  have h4 := (tk_wf ha).2.1
  by_cases h1 : (tk (toks T) a).1 = 1
  · have hw := word_among hq ha h1
    obtain ⟨R, hRe⟩ : ∃ R, R = fwN (toks T) a w0 c := ⟨_, rfl⟩
    rw [← hRe] at hw hP
    have hb1000 : (tk (toks T) a).2.2.2 ≤ 1000 := Nat.le_trans b2 hE.2.1
    have loop : ∀ (cn u f w : Nat), u + cn = sLe.getD i 0 + 1 → f ≤ u → w + cn ≤ 60 → R = srch (pcM T i (tk (toks T) a).2.1 ((tk (toks T) a).2.2.2 - (tk (toks T) a).2.1)) (spl i cn f u) w → V X P 0 0 17 [some (.ref 1130), some (.ref (5000 + i)), some (.int (nI w)), some (.int (nI f)), some (.int (nI u))] [] S I J := by
      intro cn
      induction cn with
      | zero =>
        intro u f w hu hfu hw he
        refine V_iload C dX4_wordAmong_17 rfl ?_
        refine V_aload_n C dX4_wordAmong_19 rfl ?_
        refine V_callT (F := fun _ => True) C hi (c_length hi) mi_J0_length_8abf5 ml_X4_75 rfl rfl (by decide) (by decide) (Nat.le_of_ble_eq_true rfl) (fun _ _ => trivial) (fun v _ => clo_T v) rfl dX4_wordAmong_20 ?_
        rintro v S' I' J' ⟨hS9, rfl, hI9, hJ9⟩
        obtain rfl := hS9.symm
        obtain rfl := hI9.symm
        obtain rfl := hJ9.symm
        refine V_icmp_gt C 73 dX4_wordAmong_23 (by decide) (fun h23 => ?_) (fun h23 => absurd (nI_lt (by omega) (by omega)) h23)
        refine V_iconst C (v := (-1)) dX4_wordAmong_73 (by decide +kernel) ?_
        exact V_iret C (Nat.zero_le _) (Nat.zero_le _) dX4_wordAmong_74 (hP _ _ _ ⟨by rw [he]; rfl, rfl, rfl⟩)
      | succ cn ih =>
        intro u f w hu hfu hw he
        rw [spl] at he
        have piece : (u = sLe.getD i 0 ∨ (sBy.getD i []).getD u 0 = nI 32) → V X P 0 0 46 [some (.ref 1130), some (.ref (5000 + i)), some (.int (nI w)), some (.int (nI f)), some (.int (nI u))] [] S I J := by
          intro hc
          rw [if_pos hc, srch] at he
          have e66 : nI u + nI 1 = nI (u + 1) := nI_add _ _
          by_cases hm : pcM T i (tk (toks T) a).2.1 ((tk (toks T) a).2.2.2 - (tk (toks T) a).2.1) f u
          · rw [if_pos hm] at he
            refine V_aload_n C dX4_wordAmong_46 rfl ?_
            refine V_aload_n C dX4_wordAmong_47 rfl ?_
            refine V_iload_n C dX4_wordAmong_48 rfl ?_
            refine V_iload C dX4_wordAmong_49 rfl ?_
            refine V_callV (F := fun _ => True) C (c_isPiece hR0 hE r4 r5 b1 hb1000 hi hfu (by omega)) mi_X4_isPieceOf ml_X4_82 rfl (ob_K hM) (by decide) (by decide) (by decide) (Nat.le_of_ble_eq_true rfl) (fun _ _ => trivial) (fun v _ => clo_T v) rfl dX4_wordAmong_51 ?_
            rintro v S' I' J' ⟨hS9, rfl, hI9, hJ9⟩
            obtain rfl := hS9.symm
            obtain rfl := hI9.symm
            obtain rfl := hJ9.symm
            refine V_if_eq C 59 dX4_wordAmong_54 (by decide) (fun h54 => absurd h54 (by rw [bI_0]; exact fun r => r hm)) (fun h54 => ?_)
            refine V_iload_n C dX4_wordAmong_57 rfl ?_
            exact V_iret C (Nat.zero_le _) (Nat.zero_le _) dX4_wordAmong_58 (hP _ _ _ ⟨by rw [he], rfl, rfl⟩)
          · rw [if_neg hm] at he
            refine V_aload_n C dX4_wordAmong_46 rfl ?_
            refine V_aload_n C dX4_wordAmong_47 rfl ?_
            refine V_iload_n C dX4_wordAmong_48 rfl ?_
            refine V_iload C dX4_wordAmong_49 rfl ?_
            refine V_callV (F := fun _ => True) C (c_isPiece hR0 hE r4 r5 b1 hb1000 hi hfu (by omega)) mi_X4_isPieceOf ml_X4_82 rfl (ob_K hM) (by decide) (by decide) (by decide) (Nat.le_of_ble_eq_true rfl) (fun _ _ => trivial) (fun v _ => clo_T v) rfl dX4_wordAmong_51 ?_
            rintro v S' I' J' ⟨hS9, rfl, hI9, hJ9⟩
            obtain rfl := hS9.symm
            obtain rfl := hI9.symm
            obtain rfl := hJ9.symm
            refine V_if_eq C 59 dX4_wordAmong_54 (by decide) (fun h54 => ?_) (fun h54 => absurd (bI_f hm) h54)
            refine V_iincU C dX4_wordAmong_59 rfl (hn _ (by decide)) ?_
            refine V_iload C dX4_wordAmong_62 rfl ?_
            refine V_iconst C (v := nI 1) dX4_wordAmong_64 (by decide +kernel) ?_
            refine V_iadd C dX4_wordAmong_65 ?_
            rw [e66]
            refine V_istore_n C dX4_wordAmong_66 (hn _ (by decide)) ?_
            refine V_iincU C dX4_wordAmong_67 rfl (hn _ (by decide)) ?_
            refine V_goto C 17 dX4_wordAmong_70 (by decide) ?_
            exact ih (u + 1) (u + 1) (w + 1) (by omega) (Nat.le_refl _) (by omega) he
        have skip : ¬ (u = sLe.getD i 0 ∨ (sBy.getD i []).getD u 0 = nI 32) → V X P 0 0 67 [some (.ref 1130), some (.ref (5000 + i)), some (.int (nI w)), some (.int (nI f)), some (.int (nI u))] [] S I J := by
          intro hc
          rw [if_neg hc] at he
          refine V_iincU C dX4_wordAmong_67 rfl (hn _ (by decide)) ?_
          refine V_goto C 17 dX4_wordAmong_70 (by decide) ?_
          exact ih (u + 1) f w (by omega) (by omega) (by omega) he
        by_cases hun : u = sLe.getD i 0
        · refine V_iload C dX4_wordAmong_17 rfl ?_
          refine V_aload_n C dX4_wordAmong_19 rfl ?_
          refine V_callT (F := fun _ => True) C hi (c_length hi) mi_J0_length_8abf5 ml_X4_75 rfl rfl (by decide) (by decide) (Nat.le_of_ble_eq_true rfl) (fun _ _ => trivial) (fun v _ => clo_T v) rfl dX4_wordAmong_20 ?_
          rintro v S' I' J' ⟨hS9, rfl, hI9, hJ9⟩
          obtain rfl := hS9.symm
          obtain rfl := hI9.symm
          obtain rfl := hJ9.symm
          refine V_icmp_gt C 73 dX4_wordAmong_23 (by decide) (fun h23 => absurd h23 (nI_nlt (by omega) (by omega))) (fun h23 => ?_)
          refine V_iload C dX4_wordAmong_26 rfl ?_
          refine V_aload_n C dX4_wordAmong_28 rfl ?_
          refine V_callT (F := fun _ => True) C hi (c_length hi) mi_J0_length_8abf5 ml_X4_75 rfl rfl (by decide) (by decide) (Nat.le_of_ble_eq_true rfl) (fun _ _ => trivial) (fun v _ => clo_T v) rfl dX4_wordAmong_29 ?_
          rintro v S' I' J' ⟨hS9, rfl, hI9, hJ9⟩
          obtain rfl := hS9.symm
          obtain rfl := hI9.symm
          obtain rfl := hJ9.symm
          refine V_icmp_eq C 46 dX4_wordAmong_32 (by decide) (fun h32 => ?_) (fun h32 => absurd (by rw [hun]) h32)
          exact piece (Or.inl hun)
        · refine V_iload C dX4_wordAmong_17 rfl ?_
          refine V_aload_n C dX4_wordAmong_19 rfl ?_
          refine V_callT (F := fun _ => True) C hi (c_length hi) mi_J0_length_8abf5 ml_X4_75 rfl rfl (by decide) (by decide) (Nat.le_of_ble_eq_true rfl) (fun _ _ => trivial) (fun v _ => clo_T v) rfl dX4_wordAmong_20 ?_
          rintro v S' I' J' ⟨hS9, rfl, hI9, hJ9⟩
          obtain rfl := hS9.symm
          obtain rfl := hI9.symm
          obtain rfl := hJ9.symm
          refine V_icmp_gt C 73 dX4_wordAmong_23 (by decide) (fun h23 => absurd h23 (nI_nlt (by omega) (by omega))) (fun h23 => ?_)
          refine V_iload C dX4_wordAmong_26 rfl ?_
          refine V_aload_n C dX4_wordAmong_28 rfl ?_
          refine V_callT (F := fun _ => True) C hi (c_length hi) mi_J0_length_8abf5 ml_X4_75 rfl rfl (by decide) (by decide) (Nat.le_of_ble_eq_true rfl) (fun _ _ => trivial) (fun v _ => clo_T v) rfl dX4_wordAmong_29 ?_
          rintro v S' I' J' ⟨hS9, rfl, hI9, hJ9⟩
          obtain rfl := hS9.symm
          obtain rfl := hI9.symm
          obtain rfl := hJ9.symm
          refine V_icmp_eq C 46 dX4_wordAmong_32 (by decide) (fun h32 => absurd h32 (fun q => hun ((nI_eq (by omega) (by omega)).mp q))) (fun h32 => ?_)
          refine V_aload_n C dX4_wordAmong_35 rfl ?_
          refine V_iload C dX4_wordAmong_36 rfl ?_
          refine V_callT (F := fun _ => True) C hi (c_charAt hi (k := u) (by omega)) mi_J0_charAt_5068e ml_X4_78 rfl rfl (by decide) (by decide) (Nat.le_of_ble_eq_true rfl) (fun _ _ => trivial) (fun v _ => clo_T v) rfl dX4_wordAmong_38 ?_
          rintro v S' I' J' ⟨hS9, rfl, hI9, hJ9⟩
          obtain rfl := hS9.symm
          obtain rfl := hI9.symm
          obtain rfl := hJ9.symm
          refine V_bipush C (v := nI 32) dX4_wordAmong_41 (by decide +kernel) ?_
          refine V_icmp_ne C 67 dX4_wordAmong_43 (by decide) (fun h43 => ?_) (fun h43 => ?_)
          · exact skip (fun q => q.elim hun h43)
          · exact piece (Or.inr h43)
    have st := loop (sLe.getD i 0 + 1) 0 0 0 (by omega) (Nat.le_refl _) (by omega) hw.symm
    refine V_aload_n C dX4_wordAmong_0 rfl ?_
    refine V_getI C fl_X4_34 (ob_K hM) rfl dX4_wordAmong_1 ?_
    rw [r3]
    refine V_iconst C (v := nI 1) dX4_wordAmong_4 (by decide +kernel) ?_
    refine V_icmp_eq C 10 dX4_wordAmong_5 (by decide) (fun h5 => ?_) (fun h5 => absurd (by rw [h1]) h5)
    refine V_iconst C (v := nI 0) dX4_wordAmong_10 (by decide +kernel) ?_
    refine V_istore_n C dX4_wordAmong_11 (hn _ (by decide)) ?_
    refine V_iconst C (v := nI 0) dX4_wordAmong_12 (by decide +kernel) ?_
    refine V_istore_n C dX4_wordAmong_13 (hn _ (by decide)) ?_
    refine V_iconst C (v := nI 0) dX4_wordAmong_14 (by decide +kernel) ?_
    refine V_istore C dX4_wordAmong_15 (hn _ (by decide)) ?_
    exact st
  · rw [fwN_0 h1] at hP
    refine V_aload_n C dX4_wordAmong_0 rfl ?_
    refine V_getI C fl_X4_34 (ob_K hM) rfl dX4_wordAmong_1 ?_
    rw [r3]
    refine V_iconst C (v := nI 1) dX4_wordAmong_4 (by decide +kernel) ?_
    refine V_icmp_eq C 10 dX4_wordAmong_5 (by decide) (fun h5 => absurd h5 (fun q => h1 ((nI_eq (by omega) (by omega)).mp q))) (fun h5 => ?_)
    refine V_iconst C (v := (-1)) dX4_wordAmong_8 (by decide +kernel) ?_
    exact V_iret C (Nat.zero_le _) (Nat.zero_le _) dX4_wordAmong_9 (hP _ _ _ ⟨rfl, rfl, rfl⟩)
/-- which sign of the list i the token is -/
def sgA (T : List Int32) (i a : Nat) : Int32 := if (tk (toks T) a).1 = 3 then ixF (T.getD (tk (toks T) a).2.1 0) (sBy.getD i []) 0 else -1
set_option maxRecDepth 100000 in
theorem c_signAmong (hR : RdS S la) (hE : TG I T) {a i : Nat} {f : Int32} (hi : i < 13) (hs : RSt I T a f) (ha : a < (toks T).length) : Mn l yX4_signAmong cX4_signAmong 2 (some .int) 4 [.ref 1130, .ref (5000 + i)] S I J (fun v I' J' => v = some (.int (sgA T i a)) ∧ I' = I ∧ J' = J) := by
  refine Mn.of (by decide) (fun ad => by simp [lg_sl, vv, Value.category]) (fun X P hP hn C => ?_)
  obtain ⟨hM, hT0, hT1, hTp, hLa⟩ := hR
  obtain ⟨hf, r3, r4, r5, -⟩ := hs
  have h4 := (tk_wf ha).2.1
  have hpl := (tk_wf ha).1
  have h1000 := hE.2.1
  unfold sgA at hP
  by_cases h3 : (tk (toks T) a).1 = 3
  · rw [if_pos h3] at hP
    have hlt := (sg_tok ha h3).2
    have ec := ch_c (hE.2.2 (T.getD (tk (toks T) a).2.1 0) (gd_mem hlt))
    refine V_aload_n C dX4_signAmong_0 rfl ?_
    refine V_getI C fl_X4_34 (ob_K hM) rfl dX4_signAmong_1 ?_
    rw [r3]
    refine V_iconst C (v := nI 3) dX4_signAmong_4 (by decide +kernel) ?_
    refine V_icmp_ne C 27 dX4_signAmong_5 (by decide) (fun h5 => absurd (by rw [h3]) h5) (fun h5 => ?_)
    refine V_aload_n C dX4_signAmong_8 rfl ?_
    refine V_aload_n C dX4_signAmong_9 rfl ?_
    refine V_getR C fl_X4_9 (ob_K hM) hT0 rfl dX4_signAmong_10 ?_
    refine V_aload_n C dX4_signAmong_13 rfl ?_
    refine V_getI C fl_X4_40 (ob_K hM) rfl dX4_signAmong_14 ?_
    rw [r4]
    refine V_callV (F := fun _ => True) C (c_signAt hTp hE.1 hE.2.1 (by omega)) mi_X5_signAt ml_X4_48 rfl (ob_K hTp) (by decide) (by decide) (by decide) (Nat.le_of_ble_eq_true rfl) (fun _ _ => trivial) (fun v _ => clo_T v) rfl dX4_signAmong_17 ?_
    rintro v S' I' J' ⟨hS9, rfl, hI9, hJ9⟩
    obtain rfl := hS9.symm
    obtain rfl := hI9.symm
    obtain rfl := hJ9.symm
    refine V_i2c C dX4_signAmong_20 ?_
    rw [ec]
    refine V_callT (F := fun _ => True) C hi (c_indexOf hi _) mi_J0_indexOf_0f7a4 ml_X4_67 rfl rfl (by decide) (by decide) (Nat.le_of_ble_eq_true rfl) (fun _ _ => trivial) (fun v _ => clo_T v) rfl dX4_signAmong_21 ?_
    rintro v S' I' J' ⟨hS9, rfl, hI9, hJ9⟩
    obtain rfl := hS9.symm
    obtain rfl := hI9.symm
    obtain rfl := hJ9.symm
    refine V_goto C 28 dX4_signAmong_24 (by decide) ?_
    exact V_iret C (Nat.zero_le _) (Nat.zero_le _) dX4_signAmong_28 (hP _ _ _ ⟨rfl, rfl, rfl⟩)
  · rw [if_neg h3] at hP
    refine V_aload_n C dX4_signAmong_0 rfl ?_
    refine V_getI C fl_X4_34 (ob_K hM) rfl dX4_signAmong_1 ?_
    rw [r3]
    refine V_iconst C (v := nI 3) dX4_signAmong_4 (by decide +kernel) ?_
    refine V_icmp_ne C 27 dX4_signAmong_5 (by decide) (fun h5 => ?_) (fun h5 => absurd h5 (fun q => h3 ((nI_eq (by omega) (by omega)).mp q)))
    refine V_iconst C (v := (-1)) dX4_signAmong_27 (by decide +kernel) ?_
    exact V_iret C (Nat.zero_le _) (Nat.zero_le _) dX4_signAmong_28 (hP _ _ _ ⟨rfl, rfl, rfl⟩)
theorem sgA_2 {a i c1 c2 : Nat} (ha : a < (toks T).length) (hi : sBy.getD i [] = [nI c1, nI c2]) : sgA T i a = if isSP (toks T) a c1 then nI 0 else if isSP (toks T) a c2 then nI 1 else -1 := by
  unfold sgA
  by_cases h3 : (tk (toks T) a).1 = 3
  · rw [if_pos h3, hi, ixF, ixF, ixF]
    by_cases g1 : isSP (toks T) a c1
    · rw [if_pos g1, if_pos ((sg_P ha h3).mp g1)]
    · rw [if_neg g1, if_neg (fun q => g1 ((sg_P ha h3).mpr q))]
      by_cases g2 : isSP (toks T) a c2
      · rw [if_pos g2, if_pos ((sg_P ha h3).mp g2)]
      · rw [if_neg g2, if_neg (fun q => g2 ((sg_P ha h3).mpr q))]
  · rw [if_neg h3, if_neg (fun q => h3 q.1), if_neg (fun q => h3 q.1)]
theorem sgA_1 {a i c1 : Nat} (ha : a < (toks T).length) (hi : sBy.getD i [] = [nI c1]) : sgA T i a = if isSP (toks T) a c1 then nI 0 else -1 := by
  unfold sgA
  by_cases h3 : (tk (toks T) a).1 = 3
  · rw [if_pos h3, hi, ixF, ixF]
    by_cases g1 : isSP (toks T) a c1
    · rw [if_pos g1, if_pos ((sg_P ha h3).mp g1)]
    · rw [if_neg g1, if_neg (fun q => g1 ((sg_P ha h3).mpr q))]
  · rw [if_neg h3, if_neg (fun q => h3 q.1)]
set_option maxRecDepth 100000 in
theorem c_expectT (hR : RdS S la) (hE : TG I T) {a : Nat} {f : Int32} (hs : RSt I T a f) (ha : a < (toks T).length) (h0 : (tk (toks T) a).1 ≠ 0) : Mn l yX4_expect cX4_expect 2 none 5 [.ref 1130, .int (nI 1)] S I J (fun v I' J' => v = none ∧ (∀ b, b ≠ 1130 → I' b = I b) ∧ RSt I' T (a + 1) f ∧ J' = J) := by
  refine Mn.of (by decide) (fun ad => by simp [lg_sl, vv, Value.category]) (fun X P hP hn C => ?_)
  have hM := hR.1
  refine V_iload_n C dX4_expect_0 rfl ?_
  refine V_if_eq C 11 dX4_expect_1 (by decide) (fun h1 => absurd h1 (by decide)) (fun h1 => ?_)
  refine V_aload_n C dX4_expect_4 rfl ?_
  refine V_callV (F := fun _ => True) C (c_adv hR hE hs ha h0) mi_X4_advance ml_X4_31 rfl (ob_K hM) (by decide) (by decide) (by decide) (Nat.le_of_ble_eq_true rfl) (fun _ _ => trivial) (fun v _ => clo_T v) rfl dX4_expect_5 ?_
  rintro v S' I2 J2 ⟨hS9, rfl, k1, k2, hJ9⟩
  obtain rfl := hS9.symm
  obtain rfl := hJ9.symm
  refine V_goto C 16 dX4_expect_8 (by decide) ?_
  exact V_vret C (Nat.zero_le _) (Nat.zero_le _) dX4_expect_16 (hP _ _ _ ⟨rfl, k1, k2, rfl⟩)
set_option maxRecDepth 100000 in
theorem c_expectF (hR : RdS S la) {a : Nat} (hs : RSt I T a 0) : Mn l yX4_expect cX4_expect 2 none 5 [.ref 1130, .int (nI 0)] S I J (fun v I' J' => v = none ∧ I' = up2 I 1130 2 (errP (toks T) a 1) ∧ J' = J) := by
  refine Mn.of (by decide) (fun ad => by simp [lg_sl, vv, Value.category]) (fun X P hP hn C => ?_)
  have hM := hR.1
  refine V_iload_n C dX4_expect_0 rfl ?_
  refine V_if_eq C 11 dX4_expect_1 (by decide) (fun h1 => ?_) (fun h1 => absurd (rfl) h1)
  refine V_aload_n C dX4_expect_11 rfl ?_
  refine V_iconst C (v := nI 1) dX4_expect_12 (by decide +kernel) ?_
  refine V_callV (F := fun _ => True) C (c_refuse hR hs) mi_X4_refuse ml_X4_86 rfl (ob_K hM) (by decide) (by decide) (by decide) (Nat.le_of_ble_eq_true rfl) (fun _ _ => trivial) (fun v _ => clo_T v) rfl dX4_expect_13 ?_
  rintro v S' I' J' ⟨hS9, rfl, hI9, hJ9⟩
  obtain rfl := hS9.symm
  obtain rfl := hI9.symm
  obtain rfl := hJ9.symm
  exact V_vret C (Nat.zero_le _) (Nat.zero_le _) dX4_expect_16 (hP _ _ _ ⟨rfl, rfl, rfl⟩)
/-- a number's token -/
theorem nu_tok {a : Nat} (ha : a < (toks T).length) (h2 : (tk (toks T) a).1 = 2) : ∃ w, w ≤ 99999 ∧ (tk (toks T) a).2.2.1 = Int64.ofNat w ∧ (tk (toks T) a).2.2.1.toInt32 = nI w := by
  rcases toks_c ha with e | ⟨k, hk, -, e⟩
  · rw [e] at h2; cases h2
  · rw [e] at h2 ⊢
    rw [tok1] at h2 ⊢
    by_cases g : isLt (T.getD k 0)
    · rw [if_pos g] at h2; dsimp only at h2; split at h2 <;> cases h2
    · rw [if_neg g] at h2 ⊢
      by_cases g2 : isDg (T.getD k 0)
      · rw [if_pos g2] at h2 ⊢
        dsimp only at h2 ⊢
        have h5 : dR (fun i => T.getD i 0) (T.length - k) k - k ≤ 5 := by
          by_cases g : dR (fun i => T.getD i 0) (T.length - k) k - k ≤ 5
          · exact g
          · rw [if_neg g] at h2; cases h2
        obtain ⟨w, h1, -, h3⟩ := num_v (t := fun i => T.getD i 0) (n := T.length) h5
        exact ⟨w, h1, h3, by rw [h3]; exact Int64.toInt32_ofNat'⟩
      · rw [if_neg g2] at h2; dsimp only at h2; split at h2 <;> cases h2
theorem le_64 {a b : Int32} : a.toInt64 ≤ b.toInt64 ↔ a ≤ b := by
  rw [Int64.le_iff_toInt_le, Int32.le_iff_toInt_le, Int32.toInt_toInt64, Int32.toInt_toInt64]
def NQ (I : HI) (T : List Int32) (r : PN) (v : Option Value) (I' : HI) : Prop := match r with
  | .error e => 0 < e ∧ (∃ x, v = some (.int x)) ∧ I' = up2 I 1130 2 e
  | .ok (x, a') => v = some (.int x) ∧ (∀ b, b ≠ 1130 → I' b = I b) ∧ RSt I' T a' 0
set_option maxRecDepth 100000 in
theorem c_readN (hR : RdS S la) (hE : TG I T) {a : Nat} (hs : RSt I T a 0) (ha : a < (toks T).length) (lo hi : Int32) : Mn l yX4_readN cX4_readN 4 (some .int) 5 [.ref 1130, .int lo, .int hi] S I J (fun v I' J' => NQ I T (numP (toks T) a lo hi) v I' ∧ J' = J) := by
  refine Mn.of (by decide) (fun ad => by simp [lg_sl, vv, Value.category]) (fun X P hP hn C => ?_)
  have hM := hR.1
  have hs0 := hs
  obtain ⟨hf, r3, r4, r5, r6⟩ := hs
  obtain ⟨p1, p2, p3⟩ := tk_wf ha
  have h1000 := hE.2.1
  unfold numP at hP
  by_cases h2 : (tk (toks T) a).1 = 2
  · rw [if_pos h2] at hP
    obtain ⟨w, w1, w2, w3⟩ := nu_tok ha h2
    have e6 : I 1130 6 = nI w := (r6 h2).trans w3
    have eq : (lo.toInt64 ≤ (tk (toks T) a).2.2.1 ∧ (tk (toks T) a).2.2.1 ≤ hi.toInt64) ↔ wi (nI w) lo hi := by
      rw [w2, ← nI_64 (show w < 2 ^ 31 by omega), le_64, le_64]
    by_cases hw : wi (nI w) lo hi
    · rw [if_pos (eq.mpr hw), w3] at hP
      refine V_aload_n C dX4_readN_0 rfl ?_
      refine V_getI C fl_X4_72 (ob_K hM) rfl dX4_readN_1 ?_
      rw [e6]
      refine V_istore_n C dX4_readN_4 (hn _ (by decide)) ?_
      refine V_aload_n C dX4_readN_5 rfl ?_
      refine V_getI C fl_X4_34 (ob_K hM) rfl dX4_readN_6 ?_
      rw [r3]
      refine V_iconst C (v := nI 2) dX4_readN_9 (by decide +kernel) ?_
      refine V_icmp_eq C 21 dX4_readN_10 (by decide) (fun h10 => ?_) (fun h10 => absurd (by rw [h2]) h10)
      refine V_iload_n C dX4_readN_21 rfl ?_
      refine V_iload_n C dX4_readN_22 rfl ?_
      refine V_iload_n C dX4_readN_23 rfl ?_
      refine V_callSN (F := fun _ => True) C (m_isW _ _ _) ms_X6_isWithin (fun q => q.2.2.1) rfl (by decide) (by decide) (Nat.le_of_ble_eq_true rfl) (fun _ _ => trivial) (fun v _ => clo_T v) rfl dX4_readN_24 ?_
      rintro v S' I' J' ⟨hS9, rfl, hI9, hJ9⟩
      obtain rfl := hS9.symm
      obtain rfl := hI9.symm
      obtain rfl := hJ9.symm
      refine V_if_ne C 38 dX4_readN_27 (by decide) (fun h27 => ?_) (fun h27 => absurd h27 (by rw [bI_0]; exact fun r => r hw))
      refine V_aload_n C dX4_readN_38 rfl ?_
      refine V_callV (F := fun _ => True) C (c_adv hR hE hs0 ha (by rw [h2]; decide)) mi_X4_advance ml_X4_31 rfl (ob_K hM) (by decide) (by decide) (by decide) (Nat.le_of_ble_eq_true rfl) (fun _ _ => trivial) (fun v _ => clo_T v) rfl dX4_readN_39 ?_
      rintro v S' I2 J2 ⟨hS9, rfl, k1, k2, hJ9⟩
      obtain rfl := hS9.symm
      obtain rfl := hJ9.symm
      refine V_iload_n C dX4_readN_42 rfl ?_
      exact V_iret C (Nat.zero_le _) (Nat.zero_le _) dX4_readN_43 (hP _ _ _ ⟨⟨rfl, k1, k2⟩, rfl⟩)
    · rw [if_neg (fun q => hw (eq.mp q))] at hP
      have ep := (errP_pos (K := toks T) (a := a) (w := 4) (by omega) (by decide) (by decide)).1
      refine V_aload_n C dX4_readN_0 rfl ?_
      refine V_getI C fl_X4_72 (ob_K hM) rfl dX4_readN_1 ?_
      rw [e6]
      refine V_istore_n C dX4_readN_4 (hn _ (by decide)) ?_
      refine V_aload_n C dX4_readN_5 rfl ?_
      refine V_getI C fl_X4_34 (ob_K hM) rfl dX4_readN_6 ?_
      rw [r3]
      refine V_iconst C (v := nI 2) dX4_readN_9 (by decide +kernel) ?_
      refine V_icmp_eq C 21 dX4_readN_10 (by decide) (fun h10 => ?_) (fun h10 => absurd (by rw [h2]) h10)
      refine V_iload_n C dX4_readN_21 rfl ?_
      refine V_iload_n C dX4_readN_22 rfl ?_
      refine V_iload_n C dX4_readN_23 rfl ?_
      refine V_callSN (F := fun _ => True) C (m_isW _ _ _) ms_X6_isWithin (fun q => q.2.2.1) rfl (by decide) (by decide) (Nat.le_of_ble_eq_true rfl) (fun _ _ => trivial) (fun v _ => clo_T v) rfl dX4_readN_24 ?_
      rintro v S' I' J' ⟨hS9, rfl, hI9, hJ9⟩
      obtain rfl := hS9.symm
      obtain rfl := hI9.symm
      obtain rfl := hJ9.symm
      refine V_if_ne C 38 dX4_readN_27 (by decide) (fun h27 => absurd (bI_f hw) h27) (fun h27 => ?_)
      refine V_aload_n C dX4_readN_30 rfl ?_
      refine V_iconst C (v := nI 4) dX4_readN_31 (by decide +kernel) ?_
      refine V_callV (F := fun _ => True) C (c_refuse hR hs0) mi_X4_refuse ml_X4_86 rfl (ob_K hM) (by decide) (by decide) (by decide) (Nat.le_of_ble_eq_true rfl) (fun _ _ => trivial) (fun v _ => clo_T v) rfl dX4_readN_32 ?_
      rintro v S' I' J' ⟨hS9, rfl, hI9, hJ9⟩
      obtain rfl := hS9.symm
      obtain rfl := hI9.symm
      obtain rfl := hJ9.symm
      refine V_goto C 42 dX4_readN_35 (by decide) ?_
      refine V_iload_n C dX4_readN_42 rfl ?_
      exact V_iret C (Nat.zero_le _) (Nat.zero_le _) dX4_readN_43 (hP _ _ _ ⟨⟨ep, ⟨_, rfl⟩, rfl⟩, rfl⟩)
  · rw [if_neg h2] at hP
    have ep := (errP_pos (K := toks T) (a := a) (w := 1) (by omega) (by decide) (by decide)).1
    refine V_aload_n C dX4_readN_0 rfl ?_
    refine V_getI C fl_X4_72 (ob_K hM) rfl dX4_readN_1 ?_
    refine V_istore_n C dX4_readN_4 (hn _ (by decide)) ?_
    refine V_aload_n C dX4_readN_5 rfl ?_
    refine V_getI C fl_X4_34 (ob_K hM) rfl dX4_readN_6 ?_
    rw [r3]
    refine V_iconst C (v := nI 2) dX4_readN_9 (by decide +kernel) ?_
    refine V_icmp_eq C 21 dX4_readN_10 (by decide) (fun h10 => absurd h10 (fun q => h2 ((nI_eq (by omega) (by omega)).mp q))) (fun h10 => ?_)
    refine V_aload_n C dX4_readN_13 rfl ?_
    refine V_iconst C (v := nI 1) dX4_readN_14 (by decide +kernel) ?_
    refine V_callV (F := fun _ => True) C (c_refuse hR hs0) mi_X4_refuse ml_X4_86 rfl (ob_K hM) (by decide) (by decide) (by decide) (Nat.le_of_ble_eq_true rfl) (fun _ _ => trivial) (fun v _ => clo_T v) rfl dX4_readN_15 ?_
    rintro v S' I' J' ⟨hS9, rfl, hI9, hJ9⟩
    obtain rfl := hS9.symm
    obtain rfl := hI9.symm
    obtain rfl := hJ9.symm
    refine V_goto C 42 dX4_readN_18 (by decide) ?_
    refine V_iload_n C dX4_readN_42 rfl ?_
    exact V_iret C (Nat.zero_le _) (Nat.zero_le _) dX4_readN_43 (hP _ _ _ ⟨⟨ep, ⟨_, rfl⟩, rfl⟩, rfl⟩)
set_option maxRecDepth 100000 in
theorem c_readNF (hR : RdS S la) (hE : TG I T) {a : Nat} {f : Int32} (hf0 : ¬ f = 0) (hs : RSt I T a f) (ha : a < (toks T).length) (lo hi : Int32) : Mn l yX4_readN cX4_readN 4 (some .int) 5 [.ref 1130, .int lo, .int hi] S I J (fun v I' J' => (∃ x, v = some (.int x)) ∧ (∀ b, b ≠ 1130 → I' b = I b) ∧ I' 1130 2 = f ∧ J' = J) := by
  refine Mn.of (by decide) (fun ad => by simp [lg_sl, vv, Value.category]) (fun X P hP hn C => ?_)
  have hM := hR.1
  have hs0 := hs
  obtain ⟨hf, r3, r4, r5, r6⟩ := hs
  obtain ⟨p1, p2, p3⟩ := tk_wf ha
  have nf : ¬ I 1130 2 = 0 := by rw [hf]; exact hf0
  by_cases h2 : (tk (toks T) a).1 = 2
  · by_cases hw : wi (I 1130 6) lo hi
    · refine V_aload_n C dX4_readN_0 rfl ?_
      refine V_getI C fl_X4_72 (ob_K hM) rfl dX4_readN_1 ?_
      refine V_istore_n C dX4_readN_4 (hn _ (by decide)) ?_
      refine V_aload_n C dX4_readN_5 rfl ?_
      refine V_getI C fl_X4_34 (ob_K hM) rfl dX4_readN_6 ?_
      rw [r3]
      refine V_iconst C (v := nI 2) dX4_readN_9 (by decide +kernel) ?_
      refine V_icmp_eq C 21 dX4_readN_10 (by decide) (fun h10 => ?_) (fun h10 => absurd (by rw [h2]) h10)
      refine V_iload_n C dX4_readN_21 rfl ?_
      refine V_iload_n C dX4_readN_22 rfl ?_
      refine V_iload_n C dX4_readN_23 rfl ?_
      refine V_callSN (F := fun _ => True) C (m_isW _ _ _) ms_X6_isWithin (fun q => q.2.2.1) rfl (by decide) (by decide) (Nat.le_of_ble_eq_true rfl) (fun _ _ => trivial) (fun v _ => clo_T v) rfl dX4_readN_24 ?_
      rintro v S' I' J' ⟨hS9, rfl, hI9, hJ9⟩
      obtain rfl := hS9.symm
      obtain rfl := hI9.symm
      obtain rfl := hJ9.symm
      refine V_if_ne C 38 dX4_readN_27 (by decide) (fun h27 => ?_) (fun h27 => absurd h27 (by rw [bI_0]; exact fun r => r hw))
      refine V_aload_n C dX4_readN_38 rfl ?_
      refine V_callV (F := fun _ => True) C (c_adv hR hE hs0 ha (by rw [h2]; decide)) mi_X4_advance ml_X4_31 rfl (ob_K hM) (by decide) (by decide) (by decide) (Nat.le_of_ble_eq_true rfl) (fun _ _ => trivial) (fun v _ => clo_T v) rfl dX4_readN_39 ?_
      rintro v S' I2 J2 ⟨hS9, rfl, k1, k2, hJ9⟩
      obtain rfl := hS9.symm
      obtain rfl := hJ9.symm
      refine V_iload_n C dX4_readN_42 rfl ?_
      exact V_iret C (Nat.zero_le _) (Nat.zero_le _) dX4_readN_43 (hP _ _ _ ⟨⟨_, rfl⟩, k1, k2.1, rfl⟩)
    · refine V_aload_n C dX4_readN_0 rfl ?_
      refine V_getI C fl_X4_72 (ob_K hM) rfl dX4_readN_1 ?_
      refine V_istore_n C dX4_readN_4 (hn _ (by decide)) ?_
      refine V_aload_n C dX4_readN_5 rfl ?_
      refine V_getI C fl_X4_34 (ob_K hM) rfl dX4_readN_6 ?_
      rw [r3]
      refine V_iconst C (v := nI 2) dX4_readN_9 (by decide +kernel) ?_
      refine V_icmp_eq C 21 dX4_readN_10 (by decide) (fun h10 => ?_) (fun h10 => absurd (by rw [h2]) h10)
      refine V_iload_n C dX4_readN_21 rfl ?_
      refine V_iload_n C dX4_readN_22 rfl ?_
      refine V_iload_n C dX4_readN_23 rfl ?_
      refine V_callSN (F := fun _ => True) C (m_isW _ _ _) ms_X6_isWithin (fun q => q.2.2.1) rfl (by decide) (by decide) (Nat.le_of_ble_eq_true rfl) (fun _ _ => trivial) (fun v _ => clo_T v) rfl dX4_readN_24 ?_
      rintro v S' I' J' ⟨hS9, rfl, hI9, hJ9⟩
      obtain rfl := hS9.symm
      obtain rfl := hI9.symm
      obtain rfl := hJ9.symm
      refine V_if_ne C 38 dX4_readN_27 (by decide) (fun h27 => absurd (bI_f hw) h27) (fun h27 => ?_)
      refine V_aload_n C dX4_readN_30 rfl ?_
      refine V_iconst C (v := nI 4) dX4_readN_31 (by decide +kernel) ?_
      refine V_callV (F := fun _ => True) C (c_refuseF hR _ nf) mi_X4_refuse ml_X4_86 rfl (ob_K hM) (by decide) (by decide) (by decide) (Nat.le_of_ble_eq_true rfl) (fun _ _ => trivial) (fun v _ => clo_T v) rfl dX4_readN_32 ?_
      rintro v S' I' J' ⟨hS9, rfl, hI9, hJ9⟩
      obtain rfl := hS9.symm
      obtain rfl := hI9.symm
      obtain rfl := hJ9.symm
      refine V_goto C 42 dX4_readN_35 (by decide) ?_
      refine V_iload_n C dX4_readN_42 rfl ?_
      exact V_iret C (Nat.zero_le _) (Nat.zero_le _) dX4_readN_43 (hP _ _ _ ⟨⟨_, rfl⟩, fun _ _ => rfl, hf, rfl⟩)
  · refine V_aload_n C dX4_readN_0 rfl ?_
    refine V_getI C fl_X4_72 (ob_K hM) rfl dX4_readN_1 ?_
    refine V_istore_n C dX4_readN_4 (hn _ (by decide)) ?_
    refine V_aload_n C dX4_readN_5 rfl ?_
    refine V_getI C fl_X4_34 (ob_K hM) rfl dX4_readN_6 ?_
    rw [r3]
    refine V_iconst C (v := nI 2) dX4_readN_9 (by decide +kernel) ?_
    refine V_icmp_eq C 21 dX4_readN_10 (by decide) (fun h10 => absurd h10 (fun q => h2 ((nI_eq (by omega) (by omega)).mp q))) (fun h10 => ?_)
    refine V_aload_n C dX4_readN_13 rfl ?_
    refine V_iconst C (v := nI 1) dX4_readN_14 (by decide +kernel) ?_
    refine V_callV (F := fun _ => True) C (c_refuseF hR _ nf) mi_X4_refuse ml_X4_86 rfl (ob_K hM) (by decide) (by decide) (by decide) (Nat.le_of_ble_eq_true rfl) (fun _ _ => trivial) (fun v _ => clo_T v) rfl dX4_readN_15 ?_
    rintro v S' I' J' ⟨hS9, rfl, hI9, hJ9⟩
    obtain rfl := hS9.symm
    obtain rfl := hI9.symm
    obtain rfl := hJ9.symm
    refine V_goto C 42 dX4_readN_18 (by decide) ?_
    refine V_iload_n C dX4_readN_42 rfl ?_
    exact V_iret C (Nat.zero_le _) (Nat.zero_le _) dX4_readN_43 (hP _ _ _ ⟨⟨_, rfl⟩, fun _ _ => rfl, hf, rfl⟩)
end C33
