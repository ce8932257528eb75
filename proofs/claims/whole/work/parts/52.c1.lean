/-! rules for the class: System.arraycopy, Math; Lump -/
section C1
variable {X : VX} {cc : ByteArray} {y : MethodName} {ret : Option FieldType} {rm : Room} {post : Option Value → HS → HI → HJ → Prop} {nc ns pc : Nat} {lv : List (Option Value)} {st : List Value}
variable {l : Launch} {S : HS} {I I' : HI} {J J' : HJ}
theorem ac_X1_61 : Cond.methodLink RX1 61 arraycopyName ∈ gtb := in_gtb (List.mem_of_getElem? (i := 891) (by decide +kernel)) rfl
theorem ac_X3_37 : Cond.methodLink RX3 37 arraycopyName ∈ gtb := in_gtb (List.mem_of_getElem? (i := 898) (by decide +kernel)) rfl
theorem ac_n : Cond.native arraycopyName ∈ gtb := in_gtb (List.mem_of_getElem? (i := 893) (by decide +kernel)) rfl
theorem ac_s : Cond.static arraycopyName ∈ gtb := in_gtb (List.mem_of_getElem? (i := 892) (by decide +kernel)) rfl
theorem ac_i : Cond.initialized "java/lang/System" ∈ gtb := in_gtb (List.mem_of_getElem? (i := 113) (by decide +kernel)) rfl
/-- n places copied from the begin of a row to that of another one -/
def cpI (I : HI) (a b n : Nat) : HI := va_up I b (fun k => if k < n then I a k else I b k)
theorem cpI_at {a b n k : Nat} (h : k < n) : cpI I a b n b k = I a k := by unfold cpI; rw [va_up_self, if_pos h]
theorem cpI_ge {a b n k : Nat} (h : n ≤ k) : cpI I a b n b k = I b k := by unfold cpI; rw [va_up_self, if_neg (by omega)]
theorem cpI_ne {a b c n : Nat} (h : c ≠ b) : cpI I a b n c = I c := va_up_ne _ _ h
theorem V_copyi (C : Cx X cc y ret rm) {ix a b n : Nat} (hl : Cond.methodLink y.cls ix arraycopyName ∈ gtb) (hKa : S.1 a = 10) (hKb : S.1 b = 10) (ha : n ≤ S.2.1 a) (hb : n ≤ S.2.1 b) (hn : n < 2 ^ 31) (hf : 1 ≤ rm.frames) (hw : (st.map fun v => v.category).sum + (nativeFrameWords "java/lang/System" "arraycopy" 5 + 11) ≤ rm.locals) (hd : decode cc pc = .ok (.invokestatic ix, 3)) (k : V X post nc ns (pc + 3) lv st S (cpI I a b n) J) : V X post nc ns pc lv (.int (nI n) :: .int (nI 0) :: .ref b :: .int (nI 0) :: .ref a :: st) S I J := fun ad H locs ls h1 h2 h3 h4 => by
  obtain ⟨L, n1, n2, hP, hD⟩ := h1
  obtain ⟨qa, -, hqa⟩ := wsl_get (cy := xy X) (ad := ad) (S := S) (I := I) (J := J) ((n2 a).mpr (by rw [hKa]; omega))
  obtain ⟨qb, hLb, hqb⟩ := wsl_get (cy := xy X) (ad := ad) (S := S) (I := I) (J := J) ((n2 b).mpr (by rw [hKb]; omega))
  rw [cel_i hKa] at hqa
  rw [cel_i hKb] at hqb
  have hts := C.2.2.2.2.1
  have hRR := C.2.2.2.2.2.2.2.2.2.2.1
  have e0 : (nI 0).toNatClampNeg = 0 := nI_clamp (by omega)
  have en : (nI n).toNatClampNeg = n := nI_clamp hn
  have hlv : ls.size = xn X := h4.1
  refine va_copyi (rest := st.map (vv ad)) C.1 C.2.1 (C.2.2.1.trans hlv.symm) C.2.2.2.1 (hts _ hl) (hts _ ac_n) (hts _ ac_s) (hts _ ac_i) C.2.2.2.2.2.2.2.1 hP hD h3 qa qb 1 1 hqa hqb rfl rfl rfl (by decide) (by decide) (nI_pos hn) (by rw [e0, en]; omega) (by rw [e0, en]; omega) (fun i _ => rfl) (by rw [hRR]; exact hf) (by rw [hRR, cat_vv]; exact hw) hd (fun H1 locs1 hP1 hD1 hS1 => ?_)
  refine k ad H1 locs1 ls (Rl_set (S' := S) (I' := cpI I a b n) (J' := J) n1 n2 hLb ?_ (fun c hc => ?_) rfl hP1 hD1) h2 hS1 h4
  · rw [cel_i hKb, e0, en]
    refine congrArg (fun f => Sum.inl (xy X 1, S.2.1 b, Sum.inl f)) ?_
    funext j
    unfold cpI
    rw [va_up_self]
    by_cases hj : j < n
    · rw [if_pos hj, pk_cpy_in (Nat.zero_le _) (by omega)]
      congr 1
      omega
    · rw [if_neg hj, pk_cpy_out (by omega)]
  · show ceR _ _ _ _ _ (cpI I a b n c) _ = _
    rw [cpI_ne hc]
    rfl
theorem V_max (C : Cx X cc y ret rm) {ix : Nat} {x y2 : Int32} (hl : Cond.methodLink y.cls ix Lib.Math.max.name ∈ gtb) (hf : 1 ≤ rm.frames) (hw : (st.map fun v => v.category).sum + 13 ≤ rm.locals) (hc : nc ≤ rm.cells) (hs : ns ≤ rm.slots) (hd : decode cc pc = .ok (.invokestatic ix, 3)) (k : V X post nc ns (pc + 3) lv (.int (if x < y2 then y2 else x) :: st) S I J) : V X post nc ns pc lv (.int y2 :: .int x :: st) S I J := fun ad H locs ls h1 h2 h3 h4 => by
  have hts := C.2.2.2.2.1
  have hRR := C.2.2.2.2.2.2.2.2.2.2.1
  exact va_mmax (rest := st.map (vv ad)) C.1 C.2.1 (C.2.2.1.trans h4.1.symm) C.2.2.2.1 (hts _ hl) (hts _ (show Cond.static Lib.Math.max.name ∈ gtb from ms_J9_max_7cf53.1)) (hts _ (show Cond.initialized "java/lang/Math" ∈ gtb from ms_J9_max_7cf53.2.1)) (hts _ (show Cond.code Lib.Math.max.name Lib.Math.max.code 2 (some .int) ∈ gtb from ms_J9_max_7cf53.2.2.1)) (by rw [hRR]; exact hf) (by rw [hRR, cat_vv]; exact hw) (by rw [hRR]; exact hc) (by rw [hRR]; exact hs) hd (k ad H locs ls h1 h2 h3 h4)
theorem V_min (C : Cx X cc y ret rm) {ix : Nat} {x y2 : Int32} (hl : Cond.methodLink y.cls ix Lib.Math.min.name ∈ gtb) (hf : 1 ≤ rm.frames) (hw : (st.map fun v => v.category).sum + 13 ≤ rm.locals) (hc : nc ≤ rm.cells) (hs : ns ≤ rm.slots) (hd : decode cc pc = .ok (.invokestatic ix, 3)) (k : V X post nc ns (pc + 3) lv (.int (if y2 < x then y2 else x) :: st) S I J) : V X post nc ns pc lv (.int y2 :: .int x :: st) S I J := fun ad H locs ls h1 h2 h3 h4 => by
  have hts := C.2.2.2.2.1
  have hRR := C.2.2.2.2.2.2.2.2.2.2.1
  exact va_mmin (rest := st.map (vv ad)) C.1 C.2.1 (C.2.2.1.trans h4.1.symm) C.2.2.2.1 (hts _ hl) (hts _ (show Cond.static Lib.Math.min.name ∈ gtb from ms_J9_min_7cf53.1)) (hts _ (show Cond.initialized "java/lang/Math" ∈ gtb from ms_J9_min_7cf53.2.1)) (hts _ (show Cond.code Lib.Math.min.name Lib.Math.min.code 2 (some .int) ∈ gtb from ms_J9_min_7cf53.2.2.1)) (by rw [hRR]; exact hf) (by rw [hRR, cat_vv]; exact hw) (by rw [hRR]; exact hc) (by rw [hRR]; exact hs) hd (k ad H locs ls h1 h2 h3 h4)
set_option maxRecDepth 100000 in
theorem m_isW (n lo hi : Int32) : Mn l yX6_isWithin cX6_isWithin 3 (some .boolean) 0 [.int n, .int lo, .int hi] S I J (fun v I' J' => v = some (.int (bI (wi n lo hi))) ∧ I' = I ∧ J' = J) := by
  refine Mn.of (by decide) (fun ad => by simp [lg_sl, vv, Value.category]) (fun X P hP hn C => ?_)
  refine V_iload_n C dX6_isWithin_0 rfl ?_
  refine V_iload_n C dX6_isWithin_1 rfl ?_
  refine V_icmp_gt C 14 dX6_isWithin_2 (by decide) (fun h2 => ?_) (fun h2 => ?_)
  · refine V_iconst C (v := nI 0) dX6_isWithin_14 (by decide +kernel) ?_
    exact V_zret C (by first | exact Or.inl rfl | exact Or.inr rfl | (simp only [bI]; split <;> first | exact Or.inl rfl | exact Or.inr rfl) | assumption) (Nat.zero_le _) (Nat.zero_le _) dX6_isWithin_15 (hP _ _ _ ⟨by first | (rw [bI_f (fun q => absurd q.1 (Int32.not_le.mpr h2))]; rfl) | (rw [bI_f (fun q => absurd q.2 (Int32.not_le.mpr h7))]; rfl) | (rw [bI_t ⟨Int32.not_lt.mp h2, Int32.not_lt.mp h7⟩]; rfl), rfl, rfl⟩)
  · refine V_iload_n C dX6_isWithin_5 rfl ?_
    refine V_iload_n C dX6_isWithin_6 rfl ?_
    refine V_icmp_gt C 14 dX6_isWithin_7 (by decide) (fun h7 => ?_) (fun h7 => ?_)
    · refine V_iconst C (v := nI 0) dX6_isWithin_14 (by decide +kernel) ?_
      exact V_zret C (by first | exact Or.inl rfl | exact Or.inr rfl | (simp only [bI]; split <;> first | exact Or.inl rfl | exact Or.inr rfl) | assumption) (Nat.zero_le _) (Nat.zero_le _) dX6_isWithin_15 (hP _ _ _ ⟨by first | (rw [bI_f (fun q => absurd q.1 (Int32.not_le.mpr h2))]; rfl) | (rw [bI_f (fun q => absurd q.2 (Int32.not_le.mpr h7))]; rfl) | (rw [bI_t ⟨Int32.not_lt.mp h2, Int32.not_lt.mp h7⟩]; rfl), rfl, rfl⟩)
    · refine V_iconst C (v := nI 1) dX6_isWithin_10 (by decide +kernel) ?_
      refine V_goto C 15 dX6_isWithin_11 (by decide) ?_
      exact V_zret C (by first | exact Or.inl rfl | exact Or.inr rfl | (simp only [bI]; split <;> first | exact Or.inl rfl | exact Or.inr rfl) | assumption) (Nat.zero_le _) (Nat.zero_le _) dX6_isWithin_15 (hP _ _ _ ⟨by first | (rw [bI_f (fun q => absurd q.1 (Int32.not_le.mpr h2))]; rfl) | (rw [bI_f (fun q => absurd q.2 (Int32.not_le.mpr h7))]; rfl) | (rw [bI_t ⟨Int32.not_lt.mp h2, Int32.not_lt.mp h7⟩]; rfl), rfl, rfl⟩)
/-! Lump -/
/-- a fresh lump -/
def LNew (I I' : HI) (a : Nat) (r s : Int32) : Prop := (∀ c, c ≠ a → c ≠ a + 8 → I' c = I c) ∧ (I' a 0 = 0 ∧ I' a 1 = r ∧ I' a 2 = 0 ∧ I' a 3 = 0 ∧ I' a 4 = -1 ∧ I' a 5 = s ∧ I' a 6 = 0) ∧ ∀ k, k < 12 → I' (a + 8) k = 0
set_option maxRecDepth 100000 in
theorem c_begin {a : Nat} (hL : Ob S 3 a) (r s : Int32) : Mn l yX3_begin cX3_begin 4 none 0 [.ref a, .int r, .int s] S I J (fun v I' J' => v = none ∧ LNew I I' a r s ∧ J' = J) := by
  refine Mn.of (by decide) (fun ad => by simp [lg_sl, vv, Value.category]) (fun X P hP hn C => ?_)
  obtain ⟨I1, hI1⟩ : ∃ I1, I1 = up2 (up2 (up2 (up2 (up2 (up2 (up2 I a 0 (nI 0)) a 1 r) a 2 (nI 0)) a 3 (nI 0)) a 4 (-1)) a 5 s) a 6 (nI 0) := ⟨_, rfl⟩
  have o1 : ∀ c, c ≠ a → I1 c = I c := fun c hc => by rw [hI1, up2_ne _ _ _ hc, up2_ne _ _ _ hc, up2_ne _ _ _ hc, up2_ne _ _ _ hc, up2_ne _ _ _ hc, up2_ne _ _ _ hc, up2_ne _ _ _ hc]
  have f1 : I1 a 0 = 0 ∧ I1 a 1 = r ∧ I1 a 2 = 0 ∧ I1 a 3 = 0 ∧ I1 a 4 = -1 ∧ I1 a 5 = s ∧ I1 a 6 = 0 := by
    rw [hI1]
    refine ⟨?_, ?_, ?_, ?_, ?_, ?_, ?_⟩ <;> simp only [up2_row, up2_as, va_up_self] <;> rfl
  have loop : ∀ (c x : Nat) (In : HI), x + c = 12 → (∀ c, c ≠ a + 8 → In c = I1 c) → (∀ k, k < x → In (a + 8) k = 0) → V X P 0 0 37 [some (.ref a), some (.int r), some (.int s), some (.int (nI x))] [] S In J := by
    intro c
    induction c with
    | zero =>
      intro x In hx h1 h2
      have hx : x = 12 := hx
      subst hx
      refine V_iload_n C dX3_begin_37 rfl ?_
      refine V_bipush C (v := nI 12) dX3_begin_38 (by decide +kernel) ?_
      refine V_icmp_ge C 56 dX3_begin_40 (by decide) (fun h40 => ?_) (fun h40 => absurd (by decide) h40)
      exact V_vret C (Nat.zero_le _) (Nat.zero_le _) dX3_begin_56 (hP _ _ _ ⟨rfl, ⟨fun c g1 g2 => (h1 c g2).trans (o1 c g1), by rw [h1 a (by omega)]; exact f1, h2⟩, rfl⟩)
    | succ c ih =>
      intro x In hx h1 h2
      have nx := ih (x + 1) (up2 In (a + 8) x (nI 0)) (by omega) (fun c hc => (up2_ne _ _ _ hc).trans (h1 c hc)) (fun k hk => by
        rw [up2_row]
        by_cases e : k = x
        · subst e; rw [va_up_self]; rfl
        · rw [va_up_ne _ _ e]; exact h2 k (by omega))
      refine V_iload_n C dX3_begin_37 rfl ?_
      refine V_bipush C (v := nI 12) dX3_begin_38 (by decide +kernel) ?_
      refine V_icmp_ge C 56 dX3_begin_40 (by decide) (fun h40 => absurd h40 (nI_ge (by omega) (by omega))) (fun h40 => ?_)
      refine V_aload_n C dX3_begin_43 rfl ?_
      refine V_getR C fl_X3_9 (ob_K hL) (ob_R hL 7 (a + 8) rfl rfl) rfl dX3_begin_44 ?_
      refine V_iload_n C dX3_begin_47 rfl ?_
      refine V_iconst C (v := nI 0) dX3_begin_48 (by decide +kernel) ?_
      refine V_iast C (x) (ob_A hL 7 (a + 8) rfl rfl) (by first | rfl | (simp only [nI_add, pk_mul]; done) | (simp only [nI_add, pk_mul]; congr 1; omega)) (by rw [ob_N hL 7 (a + 8) rfl rfl]; omega) (by rw [ob_N hL 7 (a + 8) rfl rfl]; decide) dX3_begin_49 ?_
      refine V_iincU C dX3_begin_50 rfl (hn _ (by decide)) ?_
      refine V_goto C 37 dX3_begin_53 (by decide) ?_
      exact nx
  refine V_aload_n C dX3_begin_0 rfl ?_
  refine V_iconst C (v := nI 0) dX3_begin_1 (by decide +kernel) ?_
  refine V_putI C fl_X3_15 (ob_K hL) rfl rfl dX3_begin_2 ?_
  refine V_aload_n C dX3_begin_5 rfl ?_
  refine V_iload_n C dX3_begin_6 rfl ?_
  refine V_putI C fl_X3_19 (ob_K hL) rfl rfl dX3_begin_7 ?_
  refine V_aload_n C dX3_begin_10 rfl ?_
  refine V_iconst C (v := nI 0) dX3_begin_11 (by decide +kernel) ?_
  refine V_putI C fl_X3_22 (ob_K hL) rfl rfl dX3_begin_12 ?_
  refine V_aload_n C dX3_begin_15 rfl ?_
  refine V_iconst C (v := nI 0) dX3_begin_16 (by decide +kernel) ?_
  refine V_putI C fl_X3_25 (ob_K hL) rfl rfl dX3_begin_17 ?_
  refine V_aload_n C dX3_begin_20 rfl ?_
  refine V_iconst C (v := (-1)) dX3_begin_21 (by decide +kernel) ?_
  refine V_putI C fl_X3_28 (ob_K hL) rfl rfl dX3_begin_22 ?_
  refine V_aload_n C dX3_begin_25 rfl ?_
  refine V_iload_n C dX3_begin_26 rfl ?_
  refine V_putI C fl_X3_31 (ob_K hL) rfl rfl dX3_begin_27 ?_
  refine V_aload_n C dX3_begin_30 rfl ?_
  refine V_iconst C (v := nI 0) dX3_begin_31 (by decide +kernel) ?_
  refine V_putI C fl_X3_34 (ob_K hL) rfl rfl dX3_begin_32 ?_
  refine V_iconst C (v := nI 0) dX3_begin_35 (by decide +kernel) ?_
  refine V_istore_n C dX3_begin_36 (hn _ (by decide)) ?_
  rw [← hI1]
  exact loop 12 0 _ rfl (fun _ _ => rfl) (fun k hk => absurd hk (Nat.not_lt_zero _))
set_option maxRecDepth 100000 in
theorem c_takeGas {a : Nat} (hL : Ob S 3 a) (n : Int32) : Mn l yX3_takeGas cX3_takeGas 2 none 0 [.ref a, .int n] S I J (fun v I' J' => v = none ∧ I' = up2 (up2 I a 3 (I a 3 + n)) a 2 (I a 2 + n) ∧ J' = J) := by
  refine Mn.of (by decide) (fun ad => by simp [lg_sl, vv, Value.category]) (fun X P hP hn C => ?_)
  have e : up2 I a 3 (I a 3 + n) a 2 = I a 2 := by rw [up2_row, va_up_ne _ _ (by decide)]
  refine V_aload_n C dX3_takeGas_0 rfl ?_
  refine V_dup C dX3_takeGas_1 rfl ?_
  refine V_getI C fl_X3_25 (ob_K hL) rfl dX3_takeGas_2 ?_
  refine V_iload_n C dX3_takeGas_5 rfl ?_
  refine V_iadd C dX3_takeGas_6 ?_
  refine V_putI C fl_X3_25 (ob_K hL) rfl rfl dX3_takeGas_7 ?_
  refine V_aload_n C dX3_takeGas_10 rfl ?_
  refine V_dup C dX3_takeGas_11 rfl ?_
  refine V_getI C fl_X3_22 (ob_K hL) rfl dX3_takeGas_12 ?_
  rw [e]
  refine V_iload_n C dX3_takeGas_15 rfl ?_
  refine V_iadd C dX3_takeGas_16 ?_
  refine V_putI C fl_X3_22 (ob_K hL) rfl rfl dX3_takeGas_17 ?_
  exact V_vret C (Nat.zero_le _) (Nat.zero_le _) dX3_takeGas_20 (hP _ _ _ ⟨rfl, rfl, rfl⟩)
set_option maxRecDepth 100000 in
theorem c_takeDust {a r : Nat} (hL : Ob S 3 a) (hr : r < 12) (er : I a 1 = nI r) (n : Int32) : Mn l yX3_takeDust cX3_takeDust 2 none 0 [.ref a, .int n] S I J (fun v I' J' => v = none ∧ I' = up2 (up2 I (a + 8) r (I (a + 8) r + n)) a 2 (I a 2 + n) ∧ J' = J) := by
  refine Mn.of (by decide) (fun ad => by simp [lg_sl, vv, Value.category]) (fun X P hP hn C => ?_)
  have e : up2 I (a + 8) r (I (a + 8) r + n) a 2 = I a 2 := by rw [up2_ne _ _ _ (by omega)]
  refine V_aload_n C dX3_takeDust_0 rfl ?_
  refine V_getR C fl_X3_9 (ob_K hL) (ob_R hL 7 (a + 8) rfl rfl) rfl dX3_takeDust_1 ?_
  refine V_aload_n C dX3_takeDust_4 rfl ?_
  refine V_getI C fl_X3_19 (ob_K hL) rfl dX3_takeDust_5 ?_
  refine V_dup2 C dX3_takeDust_8 rfl rfl ?_
  refine V_iald C (r) (ob_A hL 7 (a + 8) rfl rfl) er (by rw [ob_N hL 7 (a + 8) rfl rfl]; omega) (by rw [ob_N hL 7 (a + 8) rfl rfl]; decide) dX3_takeDust_9 ?_
  refine V_iload_n C dX3_takeDust_10 rfl ?_
  refine V_iadd C dX3_takeDust_11 ?_
  refine V_iast C (r) (ob_A hL 7 (a + 8) rfl rfl) er (by rw [ob_N hL 7 (a + 8) rfl rfl]; omega) (by rw [ob_N hL 7 (a + 8) rfl rfl]; decide) dX3_takeDust_12 ?_
  refine V_aload_n C dX3_takeDust_13 rfl ?_
  refine V_dup C dX3_takeDust_14 rfl ?_
  refine V_getI C fl_X3_22 (ob_K hL) rfl dX3_takeDust_15 ?_
  rw [e]
  refine V_iload_n C dX3_takeDust_18 rfl ?_
  refine V_iadd C dX3_takeDust_19 ?_
  refine V_putI C fl_X3_22 (ob_K hL) rfl rfl dX3_takeDust_20 ?_
  exact V_vret C (Nat.zero_le _) (Nat.zero_le _) dX3_takeDust_23 (hP _ _ _ ⟨rfl, rfl, rfl⟩)
/-- all of the lump b besides -/
def LAll (I I' : HI) (a b : Nat) : Prop := (∀ c, c ≠ a → c ≠ a + 8 → I' c = I c) ∧ (∀ x, x ≠ 2 → x ≠ 3 → I' a x = I a x) ∧ I' a 3 = I a 3 + I b 3 ∧ I' a 2 = I a 2 + I b 2 ∧ ∀ k, k < 12 → I' (a + 8) k = I (a + 8) k + I (b + 8) k
set_option maxRecDepth 100000 in
theorem c_takeAllOf {a b : Nat} (hL : Ob S 3 a) (hB : Ob S 3 b) (h1 : a ≠ b) (h2 : a + 8 ≠ b) (h3 : a ≠ b + 8) : Mn l yX3_takeAllOf cX3_takeAllOf 3 none 0 [.ref a, .ref b] S I J (fun v I' J' => v = none ∧ LAll I I' a b ∧ J' = J) := by
  refine Mn.of (by decide) (fun ad => by simp [lg_sl, vv, Value.category]) (fun X P hP hn C => ?_)
  have loop : ∀ (c x : Nat) (In : HI), x + c = 12 → (∀ c, c ≠ a + 8 → In c = I c) → (∀ k, k < x → In (a + 8) k = I (a + 8) k + I (b + 8) k) → (∀ k, x ≤ k → In (a + 8) k = I (a + 8) k) → V X P 0 0 2 [some (.ref a), some (.ref b), some (.int (nI x))] [] S In J := by
    intro c
    induction c with
    | zero =>
      intro x In hx g1 g2 g3
      have hx : x = 12 := hx
      subst hx
      have ea := g1 a (by omega)
      have eb := g1 b (Ne.symm h2)
      obtain ⟨I2, hI2⟩ : ∃ I2, I2 = up2 In a 3 (I a 3 + I b 3) := ⟨_, rfl⟩
      have e1 : In a 3 + In b 3 = I a 3 + I b 3 := by rw [ea, eb]
      have e2 : I2 a 2 + I2 b 2 = I a 2 + I b 2 := by rw [hI2, up2_row, va_up_ne _ _ (by decide), up2_ne _ _ _ (Ne.symm h1), ea, eb]
      have fin : LAll I (up2 I2 a 2 (I a 2 + I b 2)) a b := by
        refine ⟨fun c q1 q2 => ?_, fun x q1 q2 => ?_, ?_, ?_, fun k hk => ?_⟩
        · rw [up2_ne _ _ _ q1, hI2, up2_ne _ _ _ q1]; exact g1 c q2
        · rw [up2_row, va_up_ne _ _ q1, hI2, up2_row, va_up_ne _ _ q2, ea]
        · rw [up2_row, va_up_ne _ _ (by decide), hI2, up2_row, va_up_self]
        · rw [up2_row, va_up_self]
        · rw [up2_ne _ _ _ (by omega), hI2, up2_ne _ _ _ (by omega)]; exact g2 k hk
      refine V_iload_n C dX3_takeAllOf_2 rfl ?_
      refine V_bipush C (v := nI 12) dX3_takeAllOf_3 (by decide +kernel) ?_
      refine V_icmp_ge C 29 dX3_takeAllOf_5 (by decide) (fun h5 => ?_) (fun h5 => absurd (by decide) h5)
      refine V_aload_n C dX3_takeAllOf_29 rfl ?_
      refine V_dup C dX3_takeAllOf_30 rfl ?_
      refine V_getI C fl_X3_25 (ob_K hL) rfl dX3_takeAllOf_31 ?_
      refine V_aload_n C dX3_takeAllOf_34 rfl ?_
      refine V_getI C fl_X3_25 (ob_K hB) rfl dX3_takeAllOf_35 ?_
      refine V_iadd C dX3_takeAllOf_38 ?_
      rw [e1]
      refine V_putI C fl_X3_25 (ob_K hL) rfl rfl dX3_takeAllOf_39 ?_
      rw [← hI2]
      refine V_aload_n C dX3_takeAllOf_42 rfl ?_
      refine V_dup C dX3_takeAllOf_43 rfl ?_
      refine V_getI C fl_X3_22 (ob_K hL) rfl dX3_takeAllOf_44 ?_
      refine V_aload_n C dX3_takeAllOf_47 rfl ?_
      refine V_getI C fl_X3_22 (ob_K hB) rfl dX3_takeAllOf_48 ?_
      refine V_iadd C dX3_takeAllOf_51 ?_
      rw [e2]
      refine V_putI C fl_X3_22 (ob_K hL) rfl rfl dX3_takeAllOf_52 ?_
      exact V_vret C (Nat.zero_le _) (Nat.zero_le _) dX3_takeAllOf_55 (hP _ _ _ ⟨rfl, fin, rfl⟩)
    | succ c ih =>
      intro x In hx g1 g2 g3
      have eb := g1 (b + 8) (by omega)
      have e : In (a + 8) x + In (b + 8) x = I (a + 8) x + I (b + 8) x := by rw [eb, g3 x (Nat.le_refl _)]
      have nx := ih (x + 1) (up2 In (a + 8) x (I (a + 8) x + I (b + 8) x)) (by omega) (fun c hc => (up2_ne _ _ _ hc).trans (g1 c hc)) (fun k hk => by
        rw [up2_row]
        by_cases e : k = x
        · subst e; rw [va_up_self]
        · rw [va_up_ne _ _ e]; exact g2 k (by omega)) (fun k hk => by rw [up2_row, va_up_ne _ _ (by omega)]; exact g3 k (by omega))
      refine V_iload_n C dX3_takeAllOf_2 rfl ?_
      refine V_bipush C (v := nI 12) dX3_takeAllOf_3 (by decide +kernel) ?_
      refine V_icmp_ge C 29 dX3_takeAllOf_5 (by decide) (fun h5 => absurd h5 (nI_ge (by omega) (by omega))) (fun h5 => ?_)
      refine V_aload_n C dX3_takeAllOf_8 rfl ?_
      refine V_getR C fl_X3_9 (ob_K hL) (ob_R hL 7 (a + 8) rfl rfl) rfl dX3_takeAllOf_9 ?_
      refine V_iload_n C dX3_takeAllOf_12 rfl ?_
      refine V_dup2 C dX3_takeAllOf_13 rfl rfl ?_
      refine V_iald C (x) (ob_A hL 7 (a + 8) rfl rfl) (by first | rfl | (simp only [nI_add, pk_mul]; done) | (simp only [nI_add, pk_mul]; congr 1; omega)) (by rw [ob_N hL 7 (a + 8) rfl rfl]; omega) (by rw [ob_N hL 7 (a + 8) rfl rfl]; decide) dX3_takeAllOf_14 ?_
      refine V_aload_n C dX3_takeAllOf_15 rfl ?_
      refine V_getR C fl_X3_9 (ob_K hB) (ob_R hB 7 (b + 8) rfl rfl) rfl dX3_takeAllOf_16 ?_
      refine V_iload_n C dX3_takeAllOf_19 rfl ?_
      refine V_iald C (x) (ob_A hB 7 (b + 8) rfl rfl) (by first | rfl | (simp only [nI_add, pk_mul]; done) | (simp only [nI_add, pk_mul]; congr 1; omega)) (by rw [ob_N hB 7 (b + 8) rfl rfl]; omega) (by rw [ob_N hB 7 (b + 8) rfl rfl]; decide) dX3_takeAllOf_20 ?_
      refine V_iadd C dX3_takeAllOf_21 ?_
      rw [e]
      refine V_iast C (x) (ob_A hL 7 (a + 8) rfl rfl) (by first | rfl | (simp only [nI_add, pk_mul]; done) | (simp only [nI_add, pk_mul]; congr 1; omega)) (by rw [ob_N hL 7 (a + 8) rfl rfl]; omega) (by rw [ob_N hL 7 (a + 8) rfl rfl]; decide) dX3_takeAllOf_22 ?_
      refine V_iincU C dX3_takeAllOf_23 rfl (hn _ (by decide)) ?_
      refine V_goto C 2 dX3_takeAllOf_26 (by decide) ?_
      exact nx
  refine V_iconst C (v := nI 0) dX3_takeAllOf_0 (by decide +kernel) ?_
  refine V_istore_n C dX3_takeAllOf_1 (hn _ (by decide)) ?_
  exact loop 12 0 _ rfl (fun _ _ => rfl) (fun k hk => absurd hk (Nat.not_lt_zero _)) (fun _ _ => rfl)
set_option maxRecDepth 100000 in
theorem c_isThereIn {a : Nat} (hL : Ob S 3 a) (r : Int32) : Mn l yX3_isThereIn cX3_isThereIn 2 (some .boolean) 0 [.ref a, .int r] S I J (fun v I' J' => v = some (.int (bI (I a 0 = 0 ∧ I a 1 = r))) ∧ I' = I ∧ J' = J) := by
  refine Mn.of (by decide) (fun ad => by simp [lg_sl, vv, Value.category]) (fun X P hP hn C => ?_)
  refine V_aload_n C dX3_isThereIn_0 rfl ?_
  refine V_getI C fl_X3_15 (ob_K hL) rfl dX3_isThereIn_1 ?_
  refine V_if_ne C 19 dX3_isThereIn_4 (by decide) (fun h4 => ?_) (fun h4 => ?_)
  · refine V_iconst C (v := nI 0) dX3_isThereIn_19 (by decide +kernel) ?_
    exact V_zret C (by first | exact Or.inl rfl | exact Or.inr rfl | (simp only [bI]; split <;> first | exact Or.inl rfl | exact Or.inr rfl) | assumption) (Nat.zero_le _) (Nat.zero_le _) dX3_isThereIn_20 (hP _ _ _ ⟨by first | (rw [bI_f (fun q => h4 q.1)]; rfl) | (rw [bI_f (fun q => h12 q.2)]; rfl) | (rw [bI_t ⟨h4, h12⟩]; rfl), rfl, rfl⟩)
  · refine V_aload_n C dX3_isThereIn_7 rfl ?_
    refine V_getI C fl_X3_19 (ob_K hL) rfl dX3_isThereIn_8 ?_
    refine V_iload_n C dX3_isThereIn_11 rfl ?_
    refine V_icmp_ne C 19 dX3_isThereIn_12 (by decide) (fun h12 => ?_) (fun h12 => ?_)
    · refine V_iconst C (v := nI 0) dX3_isThereIn_19 (by decide +kernel) ?_
      exact V_zret C (by first | exact Or.inl rfl | exact Or.inr rfl | (simp only [bI]; split <;> first | exact Or.inl rfl | exact Or.inr rfl) | assumption) (Nat.zero_le _) (Nat.zero_le _) dX3_isThereIn_20 (hP _ _ _ ⟨by first | (rw [bI_f (fun q => h4 q.1)]; rfl) | (rw [bI_f (fun q => h12 q.2)]; rfl) | (rw [bI_t ⟨h4, h12⟩]; rfl), rfl, rfl⟩)
    · refine V_iconst C (v := nI 1) dX3_isThereIn_15 (by decide +kernel) ?_
      refine V_goto C 20 dX3_isThereIn_16 (by decide) ?_
      exact V_zret C (by first | exact Or.inl rfl | exact Or.inr rfl | (simp only [bI]; split <;> first | exact Or.inl rfl | exact Or.inr rfl) | assumption) (Nat.zero_le _) (Nat.zero_le _) dX3_isThereIn_20 (hP _ _ _ ⟨by first | (rw [bI_f (fun q => h4 q.1)]; rfl) | (rw [bI_f (fun q => h12 q.2)]; rfl) | (rw [bI_t ⟨h4, h12⟩]; rfl), rfl, rfl⟩)
/-- the most so far: the place's amount, or 0 -/
def fmM (f : Nat → Int32) (n : Nat) : Int32 := if fm f n < 0 then 0 else f (fm f n).toNatClampNeg
theorem fm_s {f : Nat → Int32} {n : Nat} (hn : n < 100) : (if f n ≤ fmM f n then fm f n else nI n) = fm f (n + 1) ∧ (if f n ≤ fmM f n then fmM f n else f n) = fmM f (n + 1) ∧ 0 ≤ fmM f (n + 1) ∨ ¬ 0 ≤ fmM f n := by
  by_cases h0 : 0 ≤ fmM f n
  · refine Or.inl ?_
    rcases fm_or f n with q | ⟨j, h1, h2⟩
    · have m0 : fmM f n = 0 := by unfold fmM; rw [q, if_pos (by decide)]
      by_cases h : f n ≤ 0
      · have e : fm f (n + 1) = fm f n := by rw [fm, if_pos h]
        have e2 : fmM f (n + 1) = fmM f n := by unfold fmM; rw [e]
        rw [m0, if_pos h, if_pos h, e, e2, m0]
        exact ⟨rfl, rfl, Int32.le_refl _⟩
      · have e : fm f (n + 1) = nI n := by rw [fm, if_neg h, q, if_pos (by decide)]
        have e2 : fmM f (n + 1) = f n := by unfold fmM; rw [e, if_neg (nI_pos (by omega)), nI_clamp (by omega)]
        rw [m0, if_neg h, if_neg h, e, e2]
        exact ⟨rfl, rfl, Int32.le_of_lt (Int32.not_le.mp h)⟩
    · have mj : fmM f n = f j := by unfold fmM; rw [h2, if_neg (nI_pos (by omega)), nI_clamp (by omega)]
      rw [mj] at h0
      by_cases h : f n ≤ f j
      · have e : fm f (n + 1) = fm f n := by
          rw [fm]
          by_cases q : f n ≤ 0
          · rw [if_pos q]
          · rw [if_neg q, h2, if_neg (nI_pos (by omega)), nI_clamp (by omega), if_pos h]
        have e2 : fmM f (n + 1) = f j := by rw [← mj]; unfold fmM; rw [e]
        rw [mj, if_pos h, if_pos h, e, e2]
        exact ⟨rfl, rfl, h0⟩
      · have hp : ¬ f n ≤ 0 := fun q => h (Int32.le_trans q h0)
        have e : fm f (n + 1) = nI n := by rw [fm, if_neg hp, h2, if_neg (nI_pos (by omega)), nI_clamp (by omega), if_neg h]
        have e2 : fmM f (n + 1) = f n := by unfold fmM; rw [e, if_neg (nI_pos (by omega)), nI_clamp (by omega)]
        rw [mj, if_neg h, if_neg h, e, e2]
        exact ⟨rfl, rfl, Int32.le_of_lt (Int32.not_le.mp hp)⟩
  · exact Or.inr h0
theorem fm_z {f : Nat → Int32} {n : Nat} : ∀ m, (∀ k, n ≤ k → k < n + m → f k = 0) → fm f (n + m) = fm f n
  | 0, _ => rfl
  | m + 1, h => by
    have := fm_z m (fun k h1 h2 => h k h1 (by omega))
    rw [show n + (m + 1) = n + m + 1 by omega, fm, if_pos (by rw [h (n + m) (by omega) (by omega)]; exact Int32.le_refl _), this]
set_option maxRecDepth 100000 in
theorem c_familyOf {a n : Nat} (hL : Ob S 3 a) (hn12 : n ≤ 12) : Mn l yX3_familyOf cX3_familyOf 5 (some .int) 0 [.ref a, .int (nI n)] S I J (fun v I' J' => v = some (.int (fm (I (a + 8)) n)) ∧ I' = I ∧ J' = J) := by
  refine Mn.of (by decide) (fun ad => by simp [lg_sl, vv, Value.category]) (fun X P hP hn C => ?_)
  have loop : ∀ (c x : Nat), x + c = n → 0 ≤ fmM (I (a + 8)) x → V X P 0 0 7 [some (.ref a), some (.int (nI n)), some (.int (fm (I (a + 8)) x)), some (.int (fmM (I (a + 8)) x)), some (.int (nI x))] [] S I J := by
    intro c
    induction c with
    | zero =>
      intro x hx h0
      have hx : x = n := hx
      subst hx
      refine V_iload C dX3_familyOf_7 rfl ?_
      refine V_iload_n C dX3_familyOf_9 rfl ?_
      refine V_icmp_ge C 48 dX3_familyOf_10 (by decide) (fun h10 => ?_) (fun h10 => absurd (Int32.le_refl _) h10)
      refine V_iload_n C dX3_familyOf_48 rfl ?_
      exact V_iret C (Nat.zero_le _) (Nat.zero_le _) dX3_familyOf_49 (hP _ _ _ ⟨rfl, rfl, rfl⟩)
    | succ c ih =>
      intro x hx h0
      obtain ⟨s1, s2, s3⟩ := (fm_s (f := I (a + 8)) (n := x) (by omega)).resolve_right (fun q => q h0)
      have nx := ih (x + 1) (by omega) s3
      rw [← s1, ← s2] at nx
      by_cases h : I (a + 8) x ≤ fmM (I (a + 8)) x
      · rw [if_pos h, if_pos h] at nx
        refine V_iload C dX3_familyOf_7 rfl ?_
        refine V_iload_n C dX3_familyOf_9 rfl ?_
        refine V_icmp_ge C 48 dX3_familyOf_10 (by decide) (fun h10 => absurd h10 (nI_ge (by omega) (by omega))) (fun h10 => ?_)
        refine V_iload C dX3_familyOf_13 rfl ?_
        refine V_bipush C (v := nI 12) dX3_familyOf_15 (by decide +kernel) ?_
        refine V_icmp_ge C 48 dX3_familyOf_17 (by decide) (fun h17 => absurd h17 (nI_ge (by omega) (by omega))) (fun h17 => ?_)
        refine V_aload_n C dX3_familyOf_20 rfl ?_
        refine V_getR C fl_X3_9 (ob_K hL) (ob_R hL 7 (a + 8) rfl rfl) rfl dX3_familyOf_21 ?_
        refine V_iload C dX3_familyOf_24 rfl ?_
        refine V_iald C (x) (ob_A hL 7 (a + 8) rfl rfl) (by first | rfl | (simp only [nI_add, pk_mul]; done) | (simp only [nI_add, pk_mul]; congr 1; omega)) (by rw [ob_N hL 7 (a + 8) rfl rfl]; omega) (by rw [ob_N hL 7 (a + 8) rfl rfl]; decide) dX3_familyOf_26 ?_
        refine V_iload_n C dX3_familyOf_27 rfl ?_
        refine V_icmp_le C 42 dX3_familyOf_28 (by decide) (fun h28 => ?_) (fun h28 => absurd (h) h28)
        refine V_iincU C dX3_familyOf_42 rfl (hn _ (by decide)) ?_
        refine V_goto C 7 dX3_familyOf_45 (by decide) ?_
        exact nx
      · rw [if_neg h, if_neg h] at nx
        refine V_iload C dX3_familyOf_7 rfl ?_
        refine V_iload_n C dX3_familyOf_9 rfl ?_
        refine V_icmp_ge C 48 dX3_familyOf_10 (by decide) (fun h10 => absurd h10 (nI_ge (by omega) (by omega))) (fun h10 => ?_)
        refine V_iload C dX3_familyOf_13 rfl ?_
        refine V_bipush C (v := nI 12) dX3_familyOf_15 (by decide +kernel) ?_
        refine V_icmp_ge C 48 dX3_familyOf_17 (by decide) (fun h17 => absurd h17 (nI_ge (by omega) (by omega))) (fun h17 => ?_)
        refine V_aload_n C dX3_familyOf_20 rfl ?_
        refine V_getR C fl_X3_9 (ob_K hL) (ob_R hL 7 (a + 8) rfl rfl) rfl dX3_familyOf_21 ?_
        refine V_iload C dX3_familyOf_24 rfl ?_
        refine V_iald C (x) (ob_A hL 7 (a + 8) rfl rfl) (by first | rfl | (simp only [nI_add, pk_mul]; done) | (simp only [nI_add, pk_mul]; congr 1; omega)) (by rw [ob_N hL 7 (a + 8) rfl rfl]; omega) (by rw [ob_N hL 7 (a + 8) rfl rfl]; decide) dX3_familyOf_26 ?_
        refine V_iload_n C dX3_familyOf_27 rfl ?_
        refine V_icmp_le C 42 dX3_familyOf_28 (by decide) (fun h28 => absurd h28 (h)) (fun h28 => ?_)
        refine V_aload_n C dX3_familyOf_31 rfl ?_
        refine V_getR C fl_X3_9 (ob_K hL) (ob_R hL 7 (a + 8) rfl rfl) rfl dX3_familyOf_32 ?_
        refine V_iload C dX3_familyOf_35 rfl ?_
        refine V_iald C (x) (ob_A hL 7 (a + 8) rfl rfl) (by first | rfl | (simp only [nI_add, pk_mul]; done) | (simp only [nI_add, pk_mul]; congr 1; omega)) (by rw [ob_N hL 7 (a + 8) rfl rfl]; omega) (by rw [ob_N hL 7 (a + 8) rfl rfl]; decide) dX3_familyOf_37 ?_
        refine V_istore_n C dX3_familyOf_38 (hn _ (by decide)) ?_
        refine V_iload C dX3_familyOf_39 rfl ?_
        refine V_istore_n C dX3_familyOf_41 (hn _ (by decide)) ?_
        refine V_iincU C dX3_familyOf_42 rfl (hn _ (by decide)) ?_
        refine V_goto C 7 dX3_familyOf_45 (by decide) ?_
        exact nx
  refine V_iconst C (v := (-1)) dX3_familyOf_0 (by decide +kernel) ?_
  refine V_istore_n C dX3_familyOf_1 (hn _ (by decide)) ?_
  refine V_iconst C (v := nI 0) dX3_familyOf_2 (by decide +kernel) ?_
  refine V_istore_n C dX3_familyOf_3 (hn _ (by decide)) ?_
  refine V_iconst C (v := nI 0) dX3_familyOf_4 (by decide +kernel) ?_
  refine V_istore C dX3_familyOf_5 (hn _ (by decide)) ?_
  exact loop n 0 (by omega) (by show (0 : Int32) ≤ if (-1 : Int32) < 0 then 0 else _; rw [if_pos (by decide)]; exact Int32.le_refl _)
/-- the lump a is as b is -/
def LCp (I I' : HI) (a b : Nat) : Prop := (∀ c, c ≠ a → c ≠ a + 8 → I' c = I c) ∧ (∀ x, x < 7 → I' a x = I b x) ∧ ∀ k, k < 12 → I' (a + 8) k = I (b + 8) k
set_option maxRecDepth 100000 in
theorem c_lumpLike {a b : Nat} (hL : Ob S 3 a) (hB : Ob S 3 b) (h1 : a ≠ b) (h2 : a ≠ b + 8) : Mn l yX3_becomeLike cX3_becomeLike 2 none 1 [.ref a, .ref b] S I J (fun v I' J' => v = none ∧ LCp I I' a b ∧ J' = J) := by
  refine Mn.of (by decide) (fun ad => by simp [lg_sl, vv, Value.category]) (fun X P hP hn C => ?_)
  have hb : b ≠ a := Ne.symm h1
  obtain ⟨I1, hI1⟩ : ∃ I1, I1 = up2 (up2 (up2 (up2 (up2 (up2 (up2 I a 0 (I b 0)) a 1 (I b 1)) a 2 (I b 2)) a 3 (I b 3)) a 4 (I b 4)) a 5 (I b 5)) a 6 (I b 6) := ⟨_, rfl⟩
  have o1 : ∀ c, c ≠ a → I1 c = I c := fun c hc => by rw [hI1, up2_ne _ _ _ hc, up2_ne _ _ _ hc, up2_ne _ _ _ hc, up2_ne _ _ _ hc, up2_ne _ _ _ hc, up2_ne _ _ _ hc, up2_ne _ _ _ hc]
  have f1 : I1 a 0 = I b 0 ∧ I1 a 1 = I b 1 ∧ I1 a 2 = I b 2 ∧ I1 a 3 = I b 3 ∧ I1 a 4 = I b 4 ∧ I1 a 5 = I b 5 ∧ I1 a 6 = I b 6 := by
    rw [hI1]
    refine ⟨?_, ?_, ?_, ?_, ?_, ?_, ?_⟩ <;> simp only [up2_row, up2_as, va_up_self] <;> rfl
  have fin : LCp I (cpI I1 (b + 8) (a + 8) 12) a b := by
    refine ⟨fun c g1 g2 => (cpI_ne g2).trans (o1 c g1), fun x hx => ?_, fun k hk => ?_⟩
    · rw [cpI_ne (by omega)]
      obtain ⟨f0, f1, f2, f3, f4, f5, f6⟩ := f1
      match x, hx with
      | 0, _ => exact f0
      | 1, _ => exact f1
      | 2, _ => exact f2
      | 3, _ => exact f3
      | 4, _ => exact f4
      | 5, _ => exact f5
      | 6, _ => exact f6
    · rw [cpI_at hk, o1 (b + 8) (Ne.symm h2)]
  refine V_aload_n C dX3_becomeLike_0 rfl ?_
  refine V_aload_n C dX3_becomeLike_1 rfl ?_
  refine V_getI C fl_X3_15 (ob_K hB) rfl dX3_becomeLike_2 ?_
  rw [show I b 0 = I b 0 from rfl]
  refine V_putI C fl_X3_15 (ob_K hL) rfl rfl dX3_becomeLike_5 ?_
  refine V_aload_n C dX3_becomeLike_8 rfl ?_
  refine V_aload_n C dX3_becomeLike_9 rfl ?_
  refine V_getI C fl_X3_19 (ob_K hB) rfl dX3_becomeLike_10 ?_
  rw [up2_ne _ _ _ hb]
  refine V_putI C fl_X3_19 (ob_K hL) rfl rfl dX3_becomeLike_13 ?_
  refine V_aload_n C dX3_becomeLike_16 rfl ?_
  refine V_aload_n C dX3_becomeLike_17 rfl ?_
  refine V_getI C fl_X3_22 (ob_K hB) rfl dX3_becomeLike_18 ?_
  rw [up2_ne _ _ _ hb, up2_ne _ _ _ hb]
  refine V_putI C fl_X3_22 (ob_K hL) rfl rfl dX3_becomeLike_21 ?_
  refine V_aload_n C dX3_becomeLike_24 rfl ?_
  refine V_aload_n C dX3_becomeLike_25 rfl ?_
  refine V_getI C fl_X3_25 (ob_K hB) rfl dX3_becomeLike_26 ?_
  rw [up2_ne _ _ _ hb, up2_ne _ _ _ hb, up2_ne _ _ _ hb]
  refine V_putI C fl_X3_25 (ob_K hL) rfl rfl dX3_becomeLike_29 ?_
  refine V_aload_n C dX3_becomeLike_32 rfl ?_
  refine V_aload_n C dX3_becomeLike_33 rfl ?_
  refine V_getI C fl_X3_28 (ob_K hB) rfl dX3_becomeLike_34 ?_
  rw [up2_ne _ _ _ hb, up2_ne _ _ _ hb, up2_ne _ _ _ hb, up2_ne _ _ _ hb]
  refine V_putI C fl_X3_28 (ob_K hL) rfl rfl dX3_becomeLike_37 ?_
  refine V_aload_n C dX3_becomeLike_40 rfl ?_
  refine V_aload_n C dX3_becomeLike_41 rfl ?_
  refine V_getI C fl_X3_31 (ob_K hB) rfl dX3_becomeLike_42 ?_
  rw [up2_ne _ _ _ hb, up2_ne _ _ _ hb, up2_ne _ _ _ hb, up2_ne _ _ _ hb, up2_ne _ _ _ hb]
  refine V_putI C fl_X3_31 (ob_K hL) rfl rfl dX3_becomeLike_45 ?_
  refine V_aload_n C dX3_becomeLike_48 rfl ?_
  refine V_aload_n C dX3_becomeLike_49 rfl ?_
  refine V_getI C fl_X3_34 (ob_K hB) rfl dX3_becomeLike_50 ?_
  rw [up2_ne _ _ _ hb, up2_ne _ _ _ hb, up2_ne _ _ _ hb, up2_ne _ _ _ hb, up2_ne _ _ _ hb, up2_ne _ _ _ hb]
  refine V_putI C fl_X3_34 (ob_K hL) rfl rfl dX3_becomeLike_53 ?_
  rw [← hI1]
  refine V_aload_n C dX3_becomeLike_56 rfl ?_
  refine V_getR C fl_X3_9 (ob_K hB) (ob_R hB 7 (b + 8) rfl rfl) rfl dX3_becomeLike_57 ?_
  refine V_iconst C (v := nI 0) dX3_becomeLike_60 (by decide +kernel) ?_
  refine V_aload_n C dX3_becomeLike_61 rfl ?_
  refine V_getR C fl_X3_9 (ob_K hL) (ob_R hL 7 (a + 8) rfl rfl) rfl dX3_becomeLike_62 ?_
  refine V_iconst C (v := nI 0) dX3_becomeLike_65 (by decide +kernel) ?_
  refine V_bipush C (v := nI 12) dX3_becomeLike_66 (by decide +kernel) ?_
  refine V_copyi C ac_X3_37 (ob_A hB 7 (b + 8) rfl rfl) (ob_A hL 7 (a + 8) rfl rfl) (by rw [ob_N hB 7 (b + 8) rfl rfl]; decide) (by rw [ob_N hL 7 (a + 8) rfl rfl]; decide) (by decide) (by decide) (by decide) dX3_becomeLike_68 ?_
  exact V_vret C (Nat.zero_le _) (Nat.zero_le _) dX3_becomeLike_71 (hP _ _ _ ⟨rfl, fin, rfl⟩)
end C1
