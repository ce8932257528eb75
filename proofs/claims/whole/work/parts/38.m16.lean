/-! the reference: small questions -/
section M16
variable {l : Launch} {S : HS} {I I' : HI} {J J' : HJ} {z : SV}
theorem RefR.rg0 (h : RefR z I J) : I 1027 0 = z.1.1 0 0 := by rw [← h.d]; rfl
theorem RefR.cm0 (h : RefR z I J) : I 1037 0 = z.1.1 0 6 := by rw [← h.d]; rfl
abbrev isR (D : DV) (r : Int32) : Prop := 0 ≤ r ∧ r < D 0 0
abbrev isL (D : DV) (u : Int32) : Prop := 0 ≤ u ∧ u < D 0 6
def eN (z : SV) : Int32 := nI 1 <<< (nI (opN z.2.2.1.1) &&& 31)
abbrev isE (z : SV) (g : Int32) : Prop := 0 ≤ g ∧ g < eN z
set_option maxRecDepth 100000 in
theorem m_isRing (hM : Ob S 7 1000) (hR : RefR z I J) (r : Int32) : Mn l yX7_isRing cX7_isRing 2 (some .boolean) 0 [.ref 1000, .int r] S I J (fun v I' J' => v = some (.int (bI (isR z.1.1 r))) ∧ I' = I ∧ J' = J) := by
  refine Mn.of (by decide) (fun ad => by simp [lg_sl, vv, Value.category]) (fun X P hP hn C => ?_)
  have e := hR.rg0
  refine V_iload_n C dX7_isRing_0 rfl ?_
  refine V_if_lt C 18 dX7_isRing_1 (by decide) (fun h1 => ?_) (fun h1 => ?_)
  · refine V_iconst C (v := nI 0) dX7_isRing_18 (by decide +kernel) ?_
    exact V_zret C (by first | exact Or.inl rfl | exact Or.inr rfl | (simp only [bI]; split <;> first | exact Or.inl rfl | exact Or.inr rfl) | assumption) (Nat.zero_le _) (Nat.zero_le _) dX7_isRing_19 (hP _ _ _ ⟨by first | (rw [bI_f (fun q => absurd h1 (Int32.not_lt.mpr q.1))]; rfl) | (rw [bI_f (fun q => absurd (e ▸ h11) (Int32.not_le.mpr q.2))]; rfl) | (rw [bI_t ⟨Int32.not_lt.mp h1, e ▸ Int32.not_le.mp h11⟩]; rfl), rfl, rfl⟩)
  · refine V_iload_n C dX7_isRing_4 rfl ?_
    refine V_aload_n C dX7_isRing_5 rfl ?_
    refine V_getR C fl_X7_116 (ob_K hM) (ob_R hM 26 1027 rfl rfl) rfl dX7_isRing_6 ?_
    refine V_iconst C (v := nI 0) dX7_isRing_9 (by decide +kernel) ?_
    refine V_iald C (0) (ob_A hM 26 1027 rfl rfl) (by first | rfl | (simp only [nI_add, pk_mul]; done) | (simp only [nI_add, pk_mul]; congr 1; omega)) (by rw [ob_N hM 26 1027 rfl rfl]; omega) (by rw [ob_N hM 26 1027 rfl rfl]; decide) dX7_isRing_10 ?_
    refine V_icmp_ge C 18 dX7_isRing_11 (by decide) (fun h11 => ?_) (fun h11 => ?_)
    · refine V_iconst C (v := nI 0) dX7_isRing_18 (by decide +kernel) ?_
      exact V_zret C (by first | exact Or.inl rfl | exact Or.inr rfl | (simp only [bI]; split <;> first | exact Or.inl rfl | exact Or.inr rfl) | assumption) (Nat.zero_le _) (Nat.zero_le _) dX7_isRing_19 (hP _ _ _ ⟨by first | (rw [bI_f (fun q => absurd h1 (Int32.not_lt.mpr q.1))]; rfl) | (rw [bI_f (fun q => absurd (e ▸ h11) (Int32.not_le.mpr q.2))]; rfl) | (rw [bI_t ⟨Int32.not_lt.mp h1, e ▸ Int32.not_le.mp h11⟩]; rfl), rfl, rfl⟩)
    · refine V_iconst C (v := nI 1) dX7_isRing_14 (by decide +kernel) ?_
      refine V_goto C 19 dX7_isRing_15 (by decide) ?_
      exact V_zret C (by first | exact Or.inl rfl | exact Or.inr rfl | (simp only [bI]; split <;> first | exact Or.inl rfl | exact Or.inr rfl) | assumption) (Nat.zero_le _) (Nat.zero_le _) dX7_isRing_19 (hP _ _ _ ⟨by first | (rw [bI_f (fun q => absurd h1 (Int32.not_lt.mpr q.1))]; rfl) | (rw [bI_f (fun q => absurd (e ▸ h11) (Int32.not_le.mpr q.2))]; rfl) | (rw [bI_t ⟨Int32.not_lt.mp h1, e ▸ Int32.not_le.mp h11⟩]; rfl), rfl, rfl⟩)
set_option maxRecDepth 100000 in
theorem m_isLump (hM : Ob S 7 1000) (hR : RefR z I J) (r : Int32) : Mn l yX7_isLump cX7_isLump 2 (some .boolean) 0 [.ref 1000, .int r] S I J (fun v I' J' => v = some (.int (bI (isL z.1.1 r))) ∧ I' = I ∧ J' = J) := by
  refine Mn.of (by decide) (fun ad => by simp [lg_sl, vv, Value.category]) (fun X P hP hn C => ?_)
  have e := hR.cm0
  refine V_iload_n C dX7_isLump_0 rfl ?_
  refine V_if_lt C 18 dX7_isLump_1 (by decide) (fun h1 => ?_) (fun h1 => ?_)
  · refine V_iconst C (v := nI 0) dX7_isLump_18 (by decide +kernel) ?_
    exact V_zret C (by first | exact Or.inl rfl | exact Or.inr rfl | (simp only [bI]; split <;> first | exact Or.inl rfl | exact Or.inr rfl) | assumption) (Nat.zero_le _) (Nat.zero_le _) dX7_isLump_19 (hP _ _ _ ⟨by first | (rw [bI_f (fun q => absurd h1 (Int32.not_lt.mpr q.1))]; rfl) | (rw [bI_f (fun q => absurd (e ▸ h11) (Int32.not_le.mpr q.2))]; rfl) | (rw [bI_t ⟨Int32.not_lt.mp h1, e ▸ Int32.not_le.mp h11⟩]; rfl), rfl, rfl⟩)
  · refine V_iload_n C dX7_isLump_4 rfl ?_
    refine V_aload_n C dX7_isLump_5 rfl ?_
    refine V_getR C fl_X7_146 (ob_K hM) (ob_R hM 36 1037 rfl rfl) rfl dX7_isLump_6 ?_
    refine V_iconst C (v := nI 0) dX7_isLump_9 (by decide +kernel) ?_
    refine V_iald C (0) (ob_A hM 36 1037 rfl rfl) (by first | rfl | (simp only [nI_add, pk_mul]; done) | (simp only [nI_add, pk_mul]; congr 1; omega)) (by rw [ob_N hM 36 1037 rfl rfl]; omega) (by rw [ob_N hM 36 1037 rfl rfl]; decide) dX7_isLump_10 ?_
    refine V_icmp_ge C 18 dX7_isLump_11 (by decide) (fun h11 => ?_) (fun h11 => ?_)
    · refine V_iconst C (v := nI 0) dX7_isLump_18 (by decide +kernel) ?_
      exact V_zret C (by first | exact Or.inl rfl | exact Or.inr rfl | (simp only [bI]; split <;> first | exact Or.inl rfl | exact Or.inr rfl) | assumption) (Nat.zero_le _) (Nat.zero_le _) dX7_isLump_19 (hP _ _ _ ⟨by first | (rw [bI_f (fun q => absurd h1 (Int32.not_lt.mpr q.1))]; rfl) | (rw [bI_f (fun q => absurd (e ▸ h11) (Int32.not_le.mpr q.2))]; rfl) | (rw [bI_t ⟨Int32.not_lt.mp h1, e ▸ Int32.not_le.mp h11⟩]; rfl), rfl, rfl⟩)
    · refine V_iconst C (v := nI 1) dX7_isLump_14 (by decide +kernel) ?_
      refine V_goto C 19 dX7_isLump_15 (by decide) ?_
      exact V_zret C (by first | exact Or.inl rfl | exact Or.inr rfl | (simp only [bI]; split <;> first | exact Or.inl rfl | exact Or.inr rfl) | assumption) (Nat.zero_le _) (Nat.zero_le _) dX7_isLump_19 (hP _ _ _ ⟨by first | (rw [bI_f (fun q => absurd h1 (Int32.not_lt.mpr q.1))]; rfl) | (rw [bI_f (fun q => absurd (e ▸ h11) (Int32.not_le.mpr q.2))]; rfl) | (rw [bI_t ⟨Int32.not_lt.mp h1, e ▸ Int32.not_le.mp h11⟩]; rfl), rfl, rfl⟩)
set_option maxRecDepth 100000 in
theorem m_isEnd (hM : Ob S 7 1000) (hR : RefR z I J) (g : Int32) : Mn l yX7_isEnd cX7_isEnd 2 (some .boolean) 0 [.ref 1000, .int g] S I J (fun v I' J' => v = some (.int (bI (isE z g))) ∧ I' = I ∧ J' = J) := by
  refine Mn.of (by decide) (fun ad => by simp [lg_sl, vv, Value.category]) (fun X P hP hn C => ?_)
  obtain ⟨x, hx, e10, e19⟩ := hR.2.2.2.2.1
  refine V_iload_n C dX7_isEnd_0 rfl ?_
  refine V_if_lt C 23 dX7_isEnd_1 (by decide) (fun h1 => ?_) (fun h1 => ?_)
  · refine V_iconst C (v := nI 0) dX7_isEnd_23 (by decide +kernel) ?_
    exact V_zret C (by first | exact Or.inl rfl | exact Or.inr rfl | (simp only [bI]; split <;> first | exact Or.inl rfl | exact Or.inr rfl) | assumption) (Nat.zero_le _) (Nat.zero_le _) dX7_isEnd_24 (hP _ _ _ ⟨by first | (rw [bI_f (fun q => absurd h1 (Int32.not_lt.mpr q.1))]; rfl) | (rw [bI_f (fun q => absurd h16 (Int32.not_le.mpr q.2))]; rfl) | (rw [bI_t ⟨Int32.not_lt.mp h1, Int32.not_le.mp h16⟩]; rfl), rfl, rfl⟩)
  · refine V_iload_n C dX7_isEnd_4 rfl ?_
    refine V_iconst C (v := nI 1) dX7_isEnd_5 (by decide +kernel) ?_
    refine V_aload_n C dX7_isEnd_6 rfl ?_
    refine V_getR C fl_X7_101 (ob_K hM) (ob_R hM 18 1019 rfl rfl) rfl dX7_isEnd_7 ?_
    refine V_aload_n C dX7_isEnd_10 rfl ?_
    refine V_getI C fl_X7_243 (ob_K hM) rfl dX7_isEnd_11 ?_
    refine V_iald C (x) (ob_A hM 18 1019 rfl rfl) e10 (by rw [ob_N hM 18 1019 rfl rfl]; omega) (by rw [ob_N hM 18 1019 rfl rfl]; decide) dX7_isEnd_14 ?_
    rw [e19]
    refine V_ishl C dX7_isEnd_15 ?_
    refine V_icmp_ge C 23 dX7_isEnd_16 (by decide) (fun h16 => ?_) (fun h16 => ?_)
    · refine V_iconst C (v := nI 0) dX7_isEnd_23 (by decide +kernel) ?_
      exact V_zret C (by first | exact Or.inl rfl | exact Or.inr rfl | (simp only [bI]; split <;> first | exact Or.inl rfl | exact Or.inr rfl) | assumption) (Nat.zero_le _) (Nat.zero_le _) dX7_isEnd_24 (hP _ _ _ ⟨by first | (rw [bI_f (fun q => absurd h1 (Int32.not_lt.mpr q.1))]; rfl) | (rw [bI_f (fun q => absurd h16 (Int32.not_le.mpr q.2))]; rfl) | (rw [bI_t ⟨Int32.not_lt.mp h1, Int32.not_le.mp h16⟩]; rfl), rfl, rfl⟩)
    · refine V_iconst C (v := nI 1) dX7_isEnd_19 (by decide +kernel) ?_
      refine V_goto C 24 dX7_isEnd_20 (by decide) ?_
      exact V_zret C (by first | exact Or.inl rfl | exact Or.inr rfl | (simp only [bI]; split <;> first | exact Or.inl rfl | exact Or.inr rfl) | assumption) (Nat.zero_le _) (Nat.zero_le _) dX7_isEnd_24 (hP _ _ _ ⟨by first | (rw [bI_f (fun q => absurd h1 (Int32.not_lt.mpr q.1))]; rfl) | (rw [bI_f (fun q => absurd h16 (Int32.not_le.mpr q.2))]; rfl) | (rw [bI_t ⟨Int32.not_lt.mp h1, Int32.not_le.mp h16⟩]; rfl), rfl, rfl⟩)
/-- the least place of the most among n places, if it is above 0 -/
def fm (f : Nat → Int32) : Nat → Int32
  | 0 => -1
  | n + 1 => if f n ≤ 0 then fm f n else if fm f n < 0 then nI n else if f n ≤ f (fm f n).toNatClampNeg then fm f n else nI n
def famD (D : DV) (u : Nat) : Int32 := fm (fun k => D 11 (12 * u + k)) 12
theorem fm_or (f : Nat → Int32) : ∀ n, fm f n = -1 ∨ ∃ j, j < n ∧ fm f n = nI j
  | 0 => Or.inl rfl
  | n + 1 => by
    have h : fm f n = -1 ∨ ∃ j, j < n + 1 ∧ fm f n = nI j := (fm_or f n).imp id (fun ⟨j, h1, h2⟩ => ⟨j, by omega, h2⟩)
    unfold fm
    split
    · exact h
    · split
      · exact Or.inr ⟨n, by omega, rfl⟩
      · split
        · exact h
        · exact Or.inr ⟨n, by omega, rfl⟩
theorem fm_cg {f g : Nat → Int32} (n : Nat) (hn : n ≤ 100) (h : ∀ k, k < n → f k = g k) : fm f n = fm g n := by
  induction n with
  | zero => rfl
  | succ n ih =>
    have e := ih (by omega) (fun k hk => h k (by omega))
    unfold fm
    rw [e, h n (by omega)]
    rcases fm_or g n with q | ⟨j, h1, h2⟩
    · rw [q, if_pos (show (-1 : Int32) < 0 by decide), if_pos (show (-1 : Int32) < 0 by decide)]
    · rw [h2, nI_clamp (by omega), h j (by omega)]
set_option maxRecDepth 100000 in
theorem m_familyOf (hM : Ob S 7 1000) {b u : Nat} (hb : b < 8) (hD : rOk (refD I J b)) (hu : u < cmD (refD I J b)) : Mn l yX7_familyOf cX7_familyOf 6 (some .int) 0 [.ref 1000, .int (nI b), .int (nI u)] S I J (fun v I' J' => v = some (.int (famD (refD I J b) u)) ∧ I' = I ∧ J' = J) := by
  refine Mn.of (by decide) (fun ad => by simp [lg_sl, vv, Value.category]) (fun X P hP hn C => ?_)
  have hu2 : u < 30 := Nat.lt_of_lt_of_le hu hD.2.2.2.2.1
  obtain ⟨f, hf⟩ : ∃ f : Nat → Int32, f = fun k => I 1044 (12 * (30 * b + u) + k) := ⟨_, rfl⟩
  have ef : famD (refD I J b) u = fm f 12 := by
    refine fm_cg 12 (by omega) (fun k hk => ?_)
    have hc : (I 1037 b).toNatClampNeg = cmD (refD I J b) := rfl
    have h : 12 * u + k < 12 * cmD (refD I J b) := by omega
    simp only [refD, hc, if_pos h, hf]
    congr 1; omega
  rw [ef] at hP
  have loop : ∀ (c x : Nat) (x5 : Option Value), x + c = 12 → V X P 0 0 5 [some (.ref 1000), some (.int (nI b)), some (.int (nI u)), some (.int (fm f x)), some (.int (nI x)), x5] [] S I J := by
    intro c
    induction c with
    | zero =>
      intro x x5 hx
      have hx : x = 12 := hx
      subst hx
      refine V_iload C dX7_familyOf_5 rfl ?_
      refine V_bipush C (v := nI 12) dX7_familyOf_7 (by decide +kernel) ?_
      refine V_icmp_ge C 74 dX7_familyOf_9 (by decide) (fun h9 => ?_) (fun h9 => absurd (by decide) h9)
      refine V_iload_n C dX7_familyOf_74 rfl ?_
      exact V_iret C (Nat.zero_le _) (Nat.zero_le _) dX7_familyOf_75 (hP _ _ _ ⟨rfl, rfl, rfl⟩)
    | succ c ih =>
      intro x x5 hx
      have e1 : I 1044 (12 * (30 * b + u) + x) = f x := by rw [hf]
      have e2 : ¬ fm f x < 0 → ∃ j, j < x ∧ fm f x = nI j := fun h => (fm_or f x).elim (fun q => absurd (by rw [q]; decide) h) id
      have key : V X P 0 0 67 [some (.ref 1000), some (.int (nI b)), some (.int (nI u)), some (.int (fm f x)), some (.int (nI x)), some (.int (f x))] [.int (fm f (x + 1))] S I J := by
        refine V_istore_n C dX7_familyOf_67 (hn _ (by decide)) ?_
        refine V_iincU C dX7_familyOf_68 rfl (hn _ (by decide)) ?_
        refine V_goto C 5 dX7_familyOf_71 (by decide) ?_
        exact ih (x + 1) _ (by omega)
      have rest : ¬ f x ≤ 0 → ¬ fm f x < 0 → ∀ j, j < x → fm f x = nI j → V X P 0 0 40 [some (.ref 1000), some (.int (nI b)), some (.int (nI u)), some (.int (fm f x)), some (.int (nI x)), some (.int (f x))] [] S I J := by
        intro h33 h37 j hj ej
        have e3 : f (fm f x).toNatClampNeg = f j := by rw [ej, nI_clamp (by omega)]
        have e4 : I 1044 (12 * (30 * b + u) + j) = f j := by rw [hf]
        rw [fm, if_neg h33, if_neg h37, e3] at key
        refine V_iload C dX7_familyOf_40 rfl ?_
        refine V_aload_n C dX7_familyOf_42 rfl ?_
        refine V_getR C fl_X7_167 (ob_K hM) (ob_R hM 43 1044 rfl rfl) rfl dX7_familyOf_43 ?_
        refine V_bipush C (v := nI 12) dX7_familyOf_46 (by decide +kernel) ?_
        refine V_bipush C (v := nI 30) dX7_familyOf_48 (by decide +kernel) ?_
        refine V_iload_n C dX7_familyOf_50 rfl ?_
        refine V_imul C dX7_familyOf_51 ?_
        refine V_iload_n C dX7_familyOf_52 rfl ?_
        refine V_iadd C dX7_familyOf_53 ?_
        refine V_imul C dX7_familyOf_54 ?_
        refine V_iload_n C dX7_familyOf_55 rfl ?_
        refine V_iadd C dX7_familyOf_56 ?_
        refine V_iald C (12 * (30 * b + u) + j) (ob_A hM 43 1044 rfl rfl) (by rw [ej, pk_mul, nI_add, pk_mul, nI_add]) (by rw [ob_N hM 43 1044 rfl rfl]; omega) (by rw [ob_N hM 43 1044 rfl rfl]; decide) dX7_familyOf_57 ?_
        rw [e4]
        refine V_icmp_le C 66 dX7_familyOf_58 (by decide) (fun h58 => ?_) (fun h58 => ?_)
        · rw [if_pos h58] at key
          exact V_iload_n C dX7_familyOf_66 rfl key
        · rw [if_neg h58] at key
          exact V_iload C dX7_familyOf_61 rfl (V_goto C 67 dX7_familyOf_63 (by decide) key)
      refine V_iload C dX7_familyOf_5 rfl ?_
      refine V_bipush C (v := nI 12) dX7_familyOf_7 (by decide +kernel) ?_
      refine V_icmp_ge C 74 dX7_familyOf_9 (by decide) (fun h9 => absurd h9 (nI_ge (by omega) (by omega))) (fun h9 => ?_)
      refine V_aload_n C dX7_familyOf_12 rfl ?_
      refine V_getR C fl_X7_167 (ob_K hM) (ob_R hM 43 1044 rfl rfl) rfl dX7_familyOf_13 ?_
      refine V_bipush C (v := nI 12) dX7_familyOf_16 (by decide +kernel) ?_
      refine V_bipush C (v := nI 30) dX7_familyOf_18 (by decide +kernel) ?_
      refine V_iload_n C dX7_familyOf_20 rfl ?_
      refine V_imul C dX7_familyOf_21 ?_
      refine V_iload_n C dX7_familyOf_22 rfl ?_
      refine V_iadd C dX7_familyOf_23 ?_
      refine V_imul C dX7_familyOf_24 ?_
      refine V_iload C dX7_familyOf_25 rfl ?_
      refine V_iadd C dX7_familyOf_27 ?_
      refine V_iald C (12 * (30 * b + u) + x) (ob_A hM 43 1044 rfl rfl) (by first | rfl | (simp only [nI_add, pk_mul]; done) | (simp only [nI_add, pk_mul]; congr 1; omega)) (by rw [ob_N hM 43 1044 rfl rfl]; omega) (by rw [ob_N hM 43 1044 rfl rfl]; decide) dX7_familyOf_28 ?_
      refine V_istore C dX7_familyOf_29 (hn _ (by decide)) ?_
      rw [e1]
      refine V_iload C dX7_familyOf_31 rfl ?_
      refine V_if_le C 66 dX7_familyOf_33 (by decide) (fun h33 => ?_) (fun h33 => ?_)
      · rw [fm, if_pos h33] at key
        exact V_iload_n C dX7_familyOf_66 rfl key
      · refine V_iload_n C dX7_familyOf_36 rfl ?_
        refine V_if_lt C 61 dX7_familyOf_37 (by decide) (fun h37 => ?_) (fun h37 => ?_)
        · rw [fm, if_neg h33, if_pos h37] at key
          exact V_iload C dX7_familyOf_61 rfl (V_goto C 67 dX7_familyOf_63 (by decide) key)
        · obtain ⟨j, hj, ej⟩ := e2 h37
          exact rest h33 h37 j hj ej
  refine V_iconst C (v := (-1)) dX7_familyOf_0 (by decide +kernel) ?_
  refine V_istore_n C dX7_familyOf_1 (hn _ (by decide)) ?_
  refine V_iconst C (v := nI 0) dX7_familyOf_2 (by decide +kernel) ?_
  refine V_istore C dX7_familyOf_3 (hn _ (by decide)) ?_
  exact loop 12 0 _ rfl
theorem upc {a c d : Nat} {v : Int32} {g : Nat → Int32} (h : a ≠ c) : up2 (va_up I a g) c d v = va_up (up2 I c d v) a g := by
  funext x
  unfold up2
  by_cases e : x = a
  · subst e
    rw [va_up_self, va_up_ne _ _ h, va_up_self]
  · by_cases e2 : x = c
    · subst e2
      rw [va_up_self, va_up_ne _ _ e, va_up_ne _ _ e, va_up_self]
    · rw [va_up_ne _ _ e2, va_up_ne _ _ e, va_up_ne _ _ e, va_up_ne _ _ e2]
/-- N by which a lump is seen, or none -/
def sbD (z : SV) (u : Nat) : Int32 := if lawV z.2.2.1.1 z.2.2.1.2.1 8 (fLu z.1.1 u) ≤ 0 then -1 else lawV z.2.2.1.1 z.2.2.1.2.1 8 (fLu z.1.1 u)
set_option maxRecDepth 100000 in
theorem m_seenBy (hM : Ob S 7 1000) (hR : RefR z I J) (hO : OkR z) {u : Nat} (hu : u < cmD z.1.1) : Mn l yX7_seenBy cX7_seenBy 3 (some .int) 3 [.ref 1000, .int (nI u)] S I J (fun v I' J' => v = some (.int (sbD z u)) ∧ Kp I J I' J' ∧ J' = J) := by
  refine Mn.of (by decide) (fun ad => by simp [lg_sl, vv, Value.category]) (fun X P hP hn C => ?_)
  have hk := (hR.ok hO).1
  have hu2 : u < cmD (refD I J 0) := by rw [hR.d]; exact hu
  have e24 : I 1000 24 = z.2.2.1.2.1 := hR.2.2.2.2.2.1
  have hR2 : RefR z (up2 I 1000 25 z.2.2.1.2.1) J := hR.kp (Kp.o (Or.inr rfl))
  unfold sbD at hP
  rw [← hR.d] at hP
  refine V_aload_n C dX7_seenBy_0 rfl ?_
  refine V_iconst C (v := nI 0) dX7_seenBy_1 (by decide +kernel) ?_
  refine V_iload_n C dX7_seenBy_2 rfl ?_
  refine V_callV (F := fun _ => True) C (m_knowsLump hM (by omega) hk hu2) mi_X7_knowsLump ml_X7_376 rfl (ob_K hM) (by decide) (by decide) (by decide) (Nat.le_of_ble_eq_true rfl) (fun _ _ => trivial) (fun v _ => clo_T v) rfl dX7_seenBy_3 ?_
  rintro v S' I' J' ⟨hS, rfl, hI, hJ⟩
  obtain rfl := hS.symm
  obtain rfl := hI.symm
  obtain rfl := hJ.symm
  refine V_aload_n C dX7_seenBy_6 rfl ?_
  refine V_aload_n C dX7_seenBy_7 rfl ?_
  refine V_getI C fl_X7_249 (ob_K hM) rfl dX7_seenBy_8 ?_
  refine V_putI C fl_X7_298 (ob_K hM) rfl rfl dX7_seenBy_11 ?_
  rw [show va_up I 1023 (kn (I 1023) (fLu (refD I J 0) u)) 1000 24 = z.2.2.1.2.1 from e24, upc (by decide)]
  refine V_aload_n C dX7_seenBy_14 rfl ?_
  refine V_bipush C (v := nI 8) dX7_seenBy_15 (by decide +kernel) ?_
  refine V_callV (F := fun _ => True) C (m_lawK hM (hR2.rG hO o_at) (by omega)) mi_X7_lawFor ml_X7_359 rfl (ob_K hM) (by decide) (by decide) (by decide) (Nat.le_of_ble_eq_true rfl) (fun _ _ => trivial) (fun v _ => clo_T v) rfl dX7_seenBy_17 ?_
  rintro v S' I' J' ⟨hS, rfl, ⟨p2, hI⟩, hJ⟩
  obtain rfl := hS.symm
  obtain rfl := hJ.symm
  have k2 : Kp I J I' J := by
    rw [hI]
    exact ((Kp.o (Or.inr rfl)).tr (Kp.sc (Sc.kn _))).tr (Kp.sc (Sc.pl _))
  refine V_istore_n C dX7_seenBy_20 (hn _ (by decide)) ?_
  refine V_iload_n C dX7_seenBy_21 rfl ?_
  refine V_tern_if_le (vt := -1) (vf := lawV z.2.2.1.1 z.2.2.1.2.1 8 (fLu (refD I J 0) u)) (pm := 30) C 29 dX7_seenBy_22 (by decide) (fun h22 k => ?_) (fun h22 k => ?_) ?_
  · refine V_iconst C (v := (-1)) dX7_seenBy_29 (by decide +kernel) ?_
    exact k
  · refine V_iload_n C dX7_seenBy_25 rfl ?_
    refine V_goto C 30 dX7_seenBy_26 (by decide) ?_
    exact k
  exact V_iret C (Nat.zero_le _) (Nat.zero_le _) dX7_seenBy_30 (hP _ _ _ ⟨rfl, k2, rfl⟩)
end M16
