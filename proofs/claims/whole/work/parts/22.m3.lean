/-! the reference: laws. Codes by their numbers in the reference: 1 number, 2 fact, 3 not, 4 .. 11 of two -/
section M3
variable {l : Launch} {S : HS} {I : HI} {J : HJ}
def bothV (c : Nat) (a b : Int32) : Int32 := match c with
  | 4 => a + b
  | 5 => a - b
  | 6 => a * b
  | 7 => if b = 0 then nI 0 else a / b
  | 8 => if b ≤ a then nI 0 else nI 1
  | 9 => if a = b then nI 1 else nI 0
  | 10 => if a = 0 then nI 0 else if b = 0 then nI 0 else nI 1
  | _ => if a = 0 then (if b = 0 then nI 0 else nI 1) else nI 1
def stC (f : Nat → Int32) (q : Nat × Int32) (s : Nat × (Nat → Int32)) : Nat × (Nat → Int32) :=
  if q.1 = 1 then (s.1 + 1, va_up s.2 s.1 q.2) else if q.1 = 2 then (s.1 + 1, va_up s.2 s.1 (f q.2.toNatClampNeg))
  else if q.1 = 3 then (s.1, va_up s.2 (s.1 - 1) (if s.2 (s.1 - 1) = 0 then nI 1 else nI 0)) else (s.1 - 1, va_up s.2 (s.1 - 2) (bothV q.1 (s.2 (s.1 - 2)) (s.2 (s.1 - 1))))
def okC (q : Nat × Int32) (t : Nat) : Prop := (1 ≤ q.1 ∧ q.1 ≤ 11) ∧ (q.1 ≤ 2 → t < 30) ∧ (q.1 = 2 → ∃ j, j < 9 ∧ q.2 = nI j) ∧ (q.1 = 3 → 1 ≤ t) ∧ (4 ≤ q.1 → 2 ≤ t)
def tpC (q : Nat × Int32) (t : Nat) : Nat := if q.1 ≤ 2 then t + 1 else if q.1 = 3 then t else t - 1
def wfC : List (Nat × Int32) → Nat → Prop
  | [], t => t = 1
  | q :: l, t => okC q t ∧ wfC l (tpC q t)
def rnC (f : Nat → Int32) : List (Nat × Int32) → Nat × (Nat → Int32) → Nat × (Nat → Int32)
  | [], s => s
  | q :: l, s => rnC f l (stC f q s)
def vlC (f : Nat → Int32) (c : List (Nat × Int32)) : Int32 := (rnC f c (0, fun _ => 0)).2 0
theorem stC_tp {f : Nat → Int32} {q : Nat × Int32} {t : Nat} {p : Nat → Int32} (h : okC q t) : (stC f q (t, p)).1 = tpC q t := by
  obtain ⟨⟨h1, h2⟩, -⟩ := h
  unfold stC tpC
  by_cases e1 : q.1 = 1
  · rw [if_pos e1, if_pos (by omega)]
  · rw [if_neg e1]
    by_cases e2 : q.1 = 2
    · rw [if_pos e2, if_pos (by omega)]
    · rw [if_neg e2, if_neg (show ¬ q.1 ≤ 2 by omega)]
      by_cases e3 : q.1 = 3
      · rw [if_pos e3, if_pos e3]
      · rw [if_neg e3, if_neg e3]
theorem va_up_ag {p p' : Nat → Int32} {t j k : Nat} {v v' : Int32} (h : ∀ j, j < t → p j = p' j) (hv : v = v') (hj : j = k ∨ j < t) : va_up p k v j = va_up p' k v' j := by
  unfold va_up
  by_cases e : j = k
  · rw [if_pos e, if_pos e, hv]
  · rw [if_neg e, if_neg e]
    exact h j (by omega)
theorem stC_ag {f f' : Nat → Int32} (hf : ∀ j, j < 9 → f j = f' j) {q : Nat × Int32} {t : Nat} {p p' : Nat → Int32} (h : okC q t) (ha : ∀ j, j < t → p j = p' j) : ∀ j, j < tpC q t → (stC f q (t, p)).2 j = (stC f' q (t, p')).2 j := by
  obtain ⟨⟨h1, h2⟩, h3, h4, h5, h6⟩ := h
  intro j
  unfold stC tpC
  by_cases e1 : q.1 = 1
  · rw [if_pos e1, if_pos e1, if_pos (by omega)]
    exact fun hj => va_up_ag ha rfl (by omega)
  · rw [if_neg e1, if_neg e1]
    by_cases e2 : q.1 = 2
    · rw [if_pos e2, if_pos e2, if_pos (by omega)]
      obtain ⟨i, hi, he⟩ := h4 e2
      refine fun hj => va_up_ag ha ?_ (by omega)
      rw [he, nI_clamp (by omega)]
      exact hf i hi
    · rw [if_neg e2, if_neg e2, if_neg (show ¬ q.1 ≤ 2 by omega)]
      by_cases e3 : q.1 = 3
      · rw [if_pos e3, if_pos e3, if_pos e3]
        have := h5 e3
        refine fun hj => va_up_ag ha ?_ (by omega)
        show (if p (t - 1) = 0 then nI 1 else nI 0) = if p' (t - 1) = 0 then nI 1 else nI 0
        rw [ha (t - 1) (by omega)]
      · rw [if_neg e3, if_neg e3, if_neg e3]
        have := h6 (by omega)
        refine fun hj => va_up_ag ha ?_ (by omega)
        show bothV q.1 (p (t - 2)) (p (t - 1)) = bothV q.1 (p' (t - 2)) (p' (t - 1))
        rw [ha (t - 1) (by omega), ha (t - 2) (by omega)]
theorem rnC_ag {f f' : Nat → Int32} (hf : ∀ j, j < 9 → f j = f' j) : ∀ (c : List (Nat × Int32)) (t : Nat) (p p' : Nat → Int32), wfC c t → (∀ j, j < t → p j = p' j) → (rnC f c (t, p)).2 0 = (rnC f' c (t, p')).2 0 := by
  intro c
  induction c with
  | nil => intro t p p' h ha; have h : t = 1 := h; exact ha 0 (by omega)
  | cons q c ih =>
    intro t p p' h ha
    obtain ⟨h1, h2⟩ := h
    have e1 : stC f q (t, p) = (tpC q t, (stC f q (t, p)).2) := by rw [← stC_tp (f := f) (p := p) h1]
    have e2 : stC f' q (t, p') = (tpC q t, (stC f' q (t, p')).2) := by rw [← stC_tp (f := f') (p := p') h1]
    show (rnC f c (stC f q (t, p))).2 0 = (rnC f' c (stC f' q (t, p'))).2 0
    rw [e1, e2]
    exact ih _ _ _ h2 (stC_ag hf h1 ha)
theorem vlC_ag {f f' : Nat → Int32} (hf : ∀ j, j < 9 → f j = f' j) {c : List (Nat × Int32)} (h : wfC c 0) : vlC f c = vlC f' c := rnC_ag hf c 0 _ _ h (fun _ h => absurd h (Nat.not_lt_zero _))
set_option maxRecDepth 100000 in
theorem m_both {c : Nat} (h1 : 4 ≤ c) (h2 : c ≤ 11) (a b : Int32) : Mn l yX7_both cX7_both 3 (some .int) 0 [.int (nI c), .int a, .int b] S I J (fun v I' J' => v = some (.int (bothV c a b)) ∧ I' = I ∧ J' = J) := by
  refine Mn.of (by decide) (fun ad => by simp [lg_sl, vv, Value.category]) (fun X P hP hn C => ?_)
  refine V_iload_n C dX7_both_0 rfl ?_
  match c, h1, h2 with
  | 4, _, _ =>
    refine V_swIn C 44 dX7_both_1 (by decide) (by decide) (off := 43) (by decide +kernel) (by decide) ?_
    refine V_iload_n C dX7_both_44 rfl ?_
    refine V_iload_n C dX7_both_45 rfl ?_
    refine V_iadd C dX7_both_46 ?_
    exact V_iret C (Nat.zero_le _) (Nat.zero_le _) dX7_both_47 (hP _ _ _ ⟨rfl, rfl, rfl⟩)
  | 5, _, _ =>
    refine V_swIn C 48 dX7_both_1 (by decide) (by decide) (off := 47) (by decide +kernel) (by decide) ?_
    refine V_iload_n C dX7_both_48 rfl ?_
    refine V_iload_n C dX7_both_49 rfl ?_
    refine V_isub C dX7_both_50 ?_
    exact V_iret C (Nat.zero_le _) (Nat.zero_le _) dX7_both_51 (hP _ _ _ ⟨rfl, rfl, rfl⟩)
  | 6, _, _ =>
    refine V_swIn C 52 dX7_both_1 (by decide) (by decide) (off := 51) (by decide +kernel) (by decide) ?_
    refine V_iload_n C dX7_both_52 rfl ?_
    refine V_iload_n C dX7_both_53 rfl ?_
    refine V_imul C dX7_both_54 ?_
    exact V_iret C (Nat.zero_le _) (Nat.zero_le _) dX7_both_55 (hP _ _ _ ⟨rfl, rfl, rfl⟩)
  | 7, _, _ =>
    refine V_swIn C 56 dX7_both_1 (by decide) (by decide) (off := 55) (by decide +kernel) (by decide) ?_
    refine V_iload_n C dX7_both_56 rfl ?_
    refine V_tern_if_ne (vt := nI 0) (vf := a / b) (pm := 67) C 64 dX7_both_57 (by decide) (fun h57 k => ?_) (fun h57 k => ?_) ?_
    · refine V_iconst C (v := nI 0) dX7_both_60 (by decide +kernel) ?_
      refine V_goto C 67 dX7_both_61 (by decide) ?_
      exact k
    · refine V_iload_n C dX7_both_64 rfl ?_
      refine V_iload_n C dX7_both_65 rfl ?_
      refine V_idiv C dX7_both_66 h57 ?_
      exact k
    exact V_iret C (Nat.zero_le _) (Nat.zero_le _) dX7_both_67 (hP _ _ _ ⟨rfl, rfl, rfl⟩)
  | 8, _, _ =>
    refine V_swIn C 68 dX7_both_1 (by decide) (by decide) (off := 67) (by decide +kernel) (by decide) ?_
    refine V_iload_n C dX7_both_68 rfl ?_
    refine V_iload_n C dX7_both_69 rfl ?_
    refine V_tern_icmp_ge (vt := nI 0) (vf := nI 1) (pm := 78) C 77 dX7_both_70 (by decide) (fun h70 k => ?_) (fun h70 k => ?_) ?_
    · refine V_iconst C (v := nI 0) dX7_both_77 (by decide +kernel) ?_
      exact k
    · refine V_iconst C (v := nI 1) dX7_both_73 (by decide +kernel) ?_
      refine V_goto C 78 dX7_both_74 (by decide) ?_
      exact k
    exact V_iret C (Nat.zero_le _) (Nat.zero_le _) dX7_both_78 (hP _ _ _ ⟨rfl, rfl, rfl⟩)
  | 9, _, _ =>
    refine V_swIn C 79 dX7_both_1 (by decide) (by decide) (off := 78) (by decide +kernel) (by decide) ?_
    refine V_iload_n C dX7_both_79 rfl ?_
    refine V_iload_n C dX7_both_80 rfl ?_
    refine V_tern_icmp_ne (vt := nI 1) (vf := nI 0) (pm := 89) C 88 dX7_both_81 (by decide) (fun h81 k => ?_) (fun h81 k => ?_) ?_
    · refine V_iconst C (v := nI 1) dX7_both_84 (by decide +kernel) ?_
      refine V_goto C 89 dX7_both_85 (by decide) ?_
      exact k
    · refine V_iconst C (v := nI 0) dX7_both_88 (by decide +kernel) ?_
      exact k
    exact V_iret C (Nat.zero_le _) (Nat.zero_le _) dX7_both_89 (hP _ _ _ ⟨rfl, rfl, rfl⟩)
  | 10, _, _ =>
    refine V_swIn C 90 dX7_both_1 (by decide) (by decide) (off := 89) (by decide +kernel) (by decide) ?_
    refine V_iload_n C dX7_both_90 rfl ?_
    refine V_tern_if_eq (vt := nI 0) (vf := if b = 0 then nI 0 else nI 1) (pm := 103) C 102 dX7_both_91 (by decide) (fun h91 k => ?_) (fun h91 k => ?_) ?_
    · refine V_iconst C (v := nI 0) dX7_both_102 (by decide +kernel) ?_
      exact k
    · refine V_iload_n C dX7_both_94 rfl ?_
      refine V_tern_if_eq (vt := nI 0) (vf := nI 1) (pm := 103) C 102 dX7_both_95 (by decide) (fun h95 k => ?_) (fun h95 k => ?_) ?_
      · refine V_iconst C (v := nI 0) dX7_both_102 (by decide +kernel) ?_
        exact k
      · refine V_iconst C (v := nI 1) dX7_both_98 (by decide +kernel) ?_
        refine V_goto C 103 dX7_both_99 (by decide) ?_
        exact k
      exact k
    exact V_iret C (Nat.zero_le _) (Nat.zero_le _) dX7_both_103 (hP _ _ _ ⟨rfl, rfl, rfl⟩)
  | 11, _, _ =>
    refine V_swOut C 104 dX7_both_1 (by decide) (by decide) ?_
    refine V_iload_n C dX7_both_104 rfl ?_
    refine V_tern_if_ne (vt := if b = 0 then nI 0 else nI 1) (vf := nI 1) (pm := 117) C 112 dX7_both_105 (by decide) (fun h105 k => ?_) (fun h105 k => ?_) ?_
    · refine V_iload_n C dX7_both_108 rfl ?_
      refine V_tern_if_eq (vt := nI 0) (vf := nI 1) (pm := 117) C 116 dX7_both_109 (by decide) (fun h109 k => ?_) (fun h109 k => ?_) ?_
      · refine V_iconst C (v := nI 0) dX7_both_116 (by decide +kernel) ?_
        exact k
      · refine V_iconst C (v := nI 1) dX7_both_112 (by decide +kernel) ?_
        refine V_goto C 117 dX7_both_113 (by decide) ?_
        exact k
      exact k
    · refine V_iconst C (v := nI 1) dX7_both_112 (by decide +kernel) ?_
      refine V_goto C 117 dX7_both_113 (by decide) ?_
      exact k
    exact V_iret C (Nat.zero_le _) (Nat.zero_le _) dX7_both_117 (hP _ _ _ ⟨rfl, rfl, rfl⟩)
/-- the codes c lie from q on in the reference -/
def mtC (I : HI) : List (Nat × Int32) → Nat → Prop
  | [], q => I 1021 q = 0 ∧ q < 2200
  | c :: l, q => I 1021 q = nI c.1 ∧ I 1022 q = c.2 ∧ q < 2200 ∧ mtC I l (q + 1)
theorem mtC_congr {I I' : HI} (h1 : I' 1021 = I 1021) (h2 : I' 1022 = I 1022) : ∀ (c : List (Nat × Int32)) (q : Nat), mtC I c q → mtC I' c q := by
  intro c
  induction c with
  | nil => intro q h; exact ⟨by rw [h1]; exact h.1, h.2⟩
  | cons a c ih => intro q h; exact ⟨by rw [h1]; exact h.1, by rw [h2]; exact h.2.1, h.2.2.1, ih _ h.2.2.2⟩
set_option maxRecDepth 100000 in
set_option maxHeartbeats 1000000 in
theorem m_worth (hM : Ob S 7 1000) {c : List (Nat × Int32)} {q0 : Nat} (hc : mtC I c q0) (hw : wfC c 0) : Mn l yX7_worth cX7_worth 5 (some .int) 1 [.ref 1000, .int (nI q0)] S I J (fun v I' J' => v = some (.int (vlC (I 1023) c)) ∧ (∃ p, I' = va_up I 1024 p) ∧ J' = J) := by
  refine Mn.of (by decide) (fun ad => by simp [lg_sl, vv, Value.category]) (fun X P hP hn C => ?_)
  have loop : ∀ (c : List (Nat × Int32)) (q t : Nat) (p : Nat → Int32) (x4 : Option Value), mtC I c q → wfC c t → t ≤ 30 → (∀ v, v = (rnC (I 1023) c (t, p)).2 0 → ∀ I', (∃ p, I' = va_up I 1024 p) → P (some (.int v)) S I' J) → V X P 0 0 4 [some (.ref 1000), some (.int (nI q0)), some (.int (nI t)), some (.int (nI q)), x4] [] S (va_up I 1024 p) J := by
    intro c
    induction c with
    | nil =>
      intro q t p x4 hc hw h30 hp
      obtain ⟨c1, c2⟩ := hc
      refine V_aload_n C dX7_worth_4 rfl ?_
      refine V_getR C fl_X7_104 (ob_K hM) (ob_R hM 20 1021 rfl rfl) rfl dX7_worth_5 ?_
      refine V_iload_n C dX7_worth_8 rfl ?_
      refine V_iald C (q) (ob_A hM 20 1021 rfl rfl) (by first | rfl | (simp only [nI_add, pk_mul]; done) | (simp only [nI_add, pk_mul]; congr 1; omega)) (by rw [ob_N hM 20 1021 rfl rfl]; omega) (by rw [ob_N hM 20 1021 rfl rfl]; decide) dX7_worth_9 ?_
      refine V_if_eq C 140 dX7_worth_10 (by decide) (fun h10 => ?_) (fun h10 => absurd (c1) h10)
      refine V_aload_n C dX7_worth_140 rfl ?_
      refine V_getR C fl_X7_113 (ob_K hM) (ob_R hM 23 1024 rfl rfl) rfl dX7_worth_141 ?_
      refine V_iconst C (v := nI 0) dX7_worth_144 (by decide +kernel) ?_
      refine V_iald C (0) (ob_A hM 23 1024 rfl rfl) (by first | rfl | (simp only [nI_add, pk_mul]; done) | (simp only [nI_add, pk_mul]; congr 1; omega)) (by rw [ob_N hM 23 1024 rfl rfl]; omega) (by rw [ob_N hM 23 1024 rfl rfl]; decide) dX7_worth_145 ?_
      exact V_iret C (Nat.zero_le _) (Nat.zero_le _) dX7_worth_146 (hp _ rfl _ ⟨p, rfl⟩)
    | cons a c ih =>
      intro q t p x4 hc hw h30 hp
      obtain ⟨c1, c2, c3, c4⟩ := hc
      obtain ⟨hok, hw2⟩ := hw
      have htp := stC_tp (f := I 1023) (p := p) hok
      obtain ⟨⟨k1, k2⟩, k3, k4, k5, k6⟩ := hok
      have ne : ∀ m, m < 12 → a.1 ≠ m → ¬ I 1021 q = nI m := fun m hm hne e => hne ((nI_eq (by omega) (by omega)).mp (c1.symm.trans e))
      have n0 : ¬ I 1021 q = 0 := fun e => ne 0 (by omega) (by omega) e
      have key : ∀ (t' : Nat) (p' : Nat → Int32), stC (I 1023) a (t, p) = (t', p') → ∀ x, V X P 0 0 4 [some (.ref 1000), some (.int (nI q0)), some (.int (nI t')), some (.int (nI (q + 1))), x] [] S (va_up I 1024 p') J := by
        intro t' p' e x
        refine ih (q + 1) t' p' x c4 ?_ ?_ ?_
        · rw [e] at htp
          rw [show t' = tpC a t from htp]
          exact hw2
        · rw [e] at htp
          rw [show t' = tpC a t from htp]
          unfold tpC
          split
          · have := k3 (by assumption); omega
          · split <;> omega
        · intro v hv
          refine hp v ?_
          rw [hv]
          show _ = (rnC (I 1023) c (stC (I 1023) a (t, p))).2 0
          rw [e]
      by_cases e1 : a.1 = 1
      · have ht := k3 (by omega)
        have c1' : I 1021 q = nI 1 := by rw [c1, e1]
        have es : stC (I 1023) a (t, p) = (t + 1, va_up p t (I 1022 q)) := by simp only [stC, e1, if_true, c2]
        refine V_aload_n C dX7_worth_4 rfl ?_
        refine V_getR C fl_X7_104 (ob_K hM) (ob_R hM 20 1021 rfl rfl) rfl dX7_worth_5 ?_
        refine V_iload_n C dX7_worth_8 rfl ?_
        refine V_iald C (q) (ob_A hM 20 1021 rfl rfl) (by first | rfl | (simp only [nI_add, pk_mul]; done) | (simp only [nI_add, pk_mul]; congr 1; omega)) (by rw [ob_N hM 20 1021 rfl rfl]; omega) (by rw [ob_N hM 20 1021 rfl rfl]; decide) dX7_worth_9 ?_
        refine V_if_eq C 140 dX7_worth_10 (by decide) (fun h10 => absurd h10 (n0)) (fun h10 => ?_)
        refine V_aload_n C dX7_worth_13 rfl ?_
        refine V_getR C fl_X7_104 (ob_K hM) (ob_R hM 20 1021 rfl rfl) rfl dX7_worth_14 ?_
        refine V_iload_n C dX7_worth_17 rfl ?_
        refine V_iald C (q) (ob_A hM 20 1021 rfl rfl) (by first | rfl | (simp only [nI_add, pk_mul]; done) | (simp only [nI_add, pk_mul]; congr 1; omega)) (by rw [ob_N hM 20 1021 rfl rfl]; omega) (by rw [ob_N hM 20 1021 rfl rfl]; decide) dX7_worth_18 ?_
        refine V_istore C dX7_worth_19 (hn _ (by decide)) ?_
        refine V_iload C dX7_worth_21 rfl ?_
        refine V_iconst C (v := nI 1) dX7_worth_23 (by decide +kernel) ?_
        refine V_icmp_eq C 33 dX7_worth_24 (by decide) (fun h24 => ?_) (fun h24 => absurd (c1') h24)
        refine V_aload_n C dX7_worth_33 rfl ?_
        refine V_getR C fl_X7_113 (ob_K hM) (ob_R hM 23 1024 rfl rfl) rfl dX7_worth_34 ?_
        refine V_iload_n C dX7_worth_37 rfl ?_
        refine V_iload C dX7_worth_38 rfl ?_
        refine V_iconst C (v := nI 1) dX7_worth_40 (by decide +kernel) ?_
        refine V_icmp_ne C 53 dX7_worth_41 (by decide) (fun h41 => absurd (c1') h41) (fun h41 => ?_)
        refine V_aload_n C dX7_worth_44 rfl ?_
        refine V_getR C fl_X7_107 (ob_K hM) (ob_R hM 21 1022 rfl rfl) rfl dX7_worth_45 ?_
        refine V_iload_n C dX7_worth_48 rfl ?_
        refine V_iald C (q) (ob_A hM 21 1022 rfl rfl) (by first | rfl | (simp only [nI_add, pk_mul]; done) | (simp only [nI_add, pk_mul]; congr 1; omega)) (by rw [ob_N hM 21 1022 rfl rfl]; omega) (by rw [ob_N hM 21 1022 rfl rfl]; decide) dX7_worth_49 ?_
        refine V_goto C 64 dX7_worth_50 (by decide) ?_
        refine V_iast C (t) (ob_A hM 23 1024 rfl rfl) (by first | rfl | (simp only [nI_add, pk_mul]; done) | (simp only [nI_add, pk_mul]; congr 1; omega)) (by rw [ob_N hM 23 1024 rfl rfl]; omega) (by rw [ob_N hM 23 1024 rfl rfl]; decide) dX7_worth_64 ?_
        refine V_iincU C dX7_worth_65 rfl (hn _ (by decide)) ?_
        refine V_goto C 134 dX7_worth_68 (by decide) ?_
        refine V_iincU C dX7_worth_134 rfl (hn _ (by decide)) ?_
        refine V_goto C 4 dX7_worth_137 (by decide) ?_
        rw [up2_up]
        exact key _ _ es _
      · by_cases e2 : a.1 = 2
        · have ht := k3 (by omega)
          obtain ⟨j, hj, ej⟩ := k4 e2
          have c1' : I 1021 q = nI 2 := by rw [c1, e2]
          have n1 := ne 1 (by omega) e1
          have c2' : I 1022 q = nI j := c2.trans ej
          have es : stC (I 1023) a (t, p) = (t + 1, va_up p t (I 1023 j)) := by
            simp only [stC, e2, ej, nI_clamp (show j < 2 ^ 31 by omega)]
            simp
          refine V_aload_n C dX7_worth_4 rfl ?_
          refine V_getR C fl_X7_104 (ob_K hM) (ob_R hM 20 1021 rfl rfl) rfl dX7_worth_5 ?_
          refine V_iload_n C dX7_worth_8 rfl ?_
          refine V_iald C (q) (ob_A hM 20 1021 rfl rfl) (by first | rfl | (simp only [nI_add, pk_mul]; done) | (simp only [nI_add, pk_mul]; congr 1; omega)) (by rw [ob_N hM 20 1021 rfl rfl]; omega) (by rw [ob_N hM 20 1021 rfl rfl]; decide) dX7_worth_9 ?_
          refine V_if_eq C 140 dX7_worth_10 (by decide) (fun h10 => absurd h10 (n0)) (fun h10 => ?_)
          refine V_aload_n C dX7_worth_13 rfl ?_
          refine V_getR C fl_X7_104 (ob_K hM) (ob_R hM 20 1021 rfl rfl) rfl dX7_worth_14 ?_
          refine V_iload_n C dX7_worth_17 rfl ?_
          refine V_iald C (q) (ob_A hM 20 1021 rfl rfl) (by first | rfl | (simp only [nI_add, pk_mul]; done) | (simp only [nI_add, pk_mul]; congr 1; omega)) (by rw [ob_N hM 20 1021 rfl rfl]; omega) (by rw [ob_N hM 20 1021 rfl rfl]; decide) dX7_worth_18 ?_
          refine V_istore C dX7_worth_19 (hn _ (by decide)) ?_
          refine V_iload C dX7_worth_21 rfl ?_
          refine V_iconst C (v := nI 1) dX7_worth_23 (by decide +kernel) ?_
          refine V_icmp_eq C 33 dX7_worth_24 (by decide) (fun h24 => absurd h24 (n1)) (fun h24 => ?_)
          refine V_iload C dX7_worth_27 rfl ?_
          refine V_iconst C (v := nI 2) dX7_worth_29 (by decide +kernel) ?_
          refine V_icmp_ne C 71 dX7_worth_30 (by decide) (fun h30 => absurd (c1') h30) (fun h30 => ?_)
          refine V_aload_n C dX7_worth_33 rfl ?_
          refine V_getR C fl_X7_113 (ob_K hM) (ob_R hM 23 1024 rfl rfl) rfl dX7_worth_34 ?_
          refine V_iload_n C dX7_worth_37 rfl ?_
          refine V_iload C dX7_worth_38 rfl ?_
          refine V_iconst C (v := nI 1) dX7_worth_40 (by decide +kernel) ?_
          refine V_icmp_ne C 53 dX7_worth_41 (by decide) (fun h41 => ?_) (fun h41 => absurd h41 (n1))
          refine V_aload_n C dX7_worth_53 rfl ?_
          refine V_getR C fl_X7_110 (ob_K hM) (ob_R hM 22 1023 rfl rfl) rfl dX7_worth_54 ?_
          refine V_aload_n C dX7_worth_57 rfl ?_
          refine V_getR C fl_X7_107 (ob_K hM) (ob_R hM 21 1022 rfl rfl) rfl dX7_worth_58 ?_
          refine V_iload_n C dX7_worth_61 rfl ?_
          refine V_iald C (q) (ob_A hM 21 1022 rfl rfl) (by first | rfl | (simp only [nI_add, pk_mul]; done) | (simp only [nI_add, pk_mul]; congr 1; omega)) (by rw [ob_N hM 21 1022 rfl rfl]; omega) (by rw [ob_N hM 21 1022 rfl rfl]; decide) dX7_worth_62 ?_
          refine V_iald C (j) (ob_A hM 22 1023 rfl rfl) c2' (by rw [ob_N hM 22 1023 rfl rfl]; omega) (by rw [ob_N hM 22 1023 rfl rfl]; decide) dX7_worth_63 ?_
          refine V_iast C (t) (ob_A hM 23 1024 rfl rfl) (by first | rfl | (simp only [nI_add, pk_mul]; done) | (simp only [nI_add, pk_mul]; congr 1; omega)) (by rw [ob_N hM 23 1024 rfl rfl]; omega) (by rw [ob_N hM 23 1024 rfl rfl]; decide) dX7_worth_64 ?_
          refine V_iincU C dX7_worth_65 rfl (hn _ (by decide)) ?_
          refine V_goto C 134 dX7_worth_68 (by decide) ?_
          refine V_iincU C dX7_worth_134 rfl (hn _ (by decide)) ?_
          refine V_goto C 4 dX7_worth_137 (by decide) ?_
          rw [up2_up]
          exact key _ _ es _
        · have n1 := ne 1 (by omega) e1
          have n2 := ne 2 (by omega) e2
          by_cases e3 : a.1 = 3
          · have ht := k5 e3
            have c1' : I 1021 q = nI 3 := by rw [c1, e3]
            have es : stC (I 1023) a (t, p) = (t, va_up p (t - 1) (if p (t - 1) = 0 then nI 1 else nI 0)) := by
              simp only [stC, e3]
              simp
            have et : nI t - nI 1 = nI (t - 1) := pk_sub ht
            have hk := k3
            refine V_aload_n C dX7_worth_4 rfl ?_
            refine V_getR C fl_X7_104 (ob_K hM) (ob_R hM 20 1021 rfl rfl) rfl dX7_worth_5 ?_
            refine V_iload_n C dX7_worth_8 rfl ?_
            refine V_iald C (q) (ob_A hM 20 1021 rfl rfl) (by first | rfl | (simp only [nI_add, pk_mul]; done) | (simp only [nI_add, pk_mul]; congr 1; omega)) (by rw [ob_N hM 20 1021 rfl rfl]; omega) (by rw [ob_N hM 20 1021 rfl rfl]; decide) dX7_worth_9 ?_
            refine V_if_eq C 140 dX7_worth_10 (by decide) (fun h10 => absurd h10 (n0)) (fun h10 => ?_)
            refine V_aload_n C dX7_worth_13 rfl ?_
            refine V_getR C fl_X7_104 (ob_K hM) (ob_R hM 20 1021 rfl rfl) rfl dX7_worth_14 ?_
            refine V_iload_n C dX7_worth_17 rfl ?_
            refine V_iald C (q) (ob_A hM 20 1021 rfl rfl) (by first | rfl | (simp only [nI_add, pk_mul]; done) | (simp only [nI_add, pk_mul]; congr 1; omega)) (by rw [ob_N hM 20 1021 rfl rfl]; omega) (by rw [ob_N hM 20 1021 rfl rfl]; decide) dX7_worth_18 ?_
            refine V_istore C dX7_worth_19 (hn _ (by decide)) ?_
            refine V_iload C dX7_worth_21 rfl ?_
            refine V_iconst C (v := nI 1) dX7_worth_23 (by decide +kernel) ?_
            refine V_icmp_eq C 33 dX7_worth_24 (by decide) (fun h24 => absurd h24 (n1)) (fun h24 => ?_)
            refine V_iload C dX7_worth_27 rfl ?_
            refine V_iconst C (v := nI 2) dX7_worth_29 (by decide +kernel) ?_
            refine V_icmp_ne C 71 dX7_worth_30 (by decide) (fun h30 => ?_) (fun h30 => absurd h30 (n2))
            refine V_iload C dX7_worth_71 rfl ?_
            refine V_iconst C (v := nI 3) dX7_worth_73 (by decide +kernel) ?_
            refine V_icmp_ne C 104 dX7_worth_74 (by decide) (fun h74 => absurd (c1') h74) (fun h74 => ?_)
            refine V_aload_n C dX7_worth_77 rfl ?_
            refine V_getR C fl_X7_113 (ob_K hM) (ob_R hM 23 1024 rfl rfl) rfl dX7_worth_78 ?_
            refine V_iload_n C dX7_worth_81 rfl ?_
            refine V_iconst C (v := nI 1) dX7_worth_82 (by decide +kernel) ?_
            refine V_isub C dX7_worth_83 ?_
            refine V_aload_n C dX7_worth_84 rfl ?_
            refine V_getR C fl_X7_113 (ob_K hM) (ob_R hM 23 1024 rfl rfl) rfl dX7_worth_85 ?_
            refine V_iload_n C dX7_worth_88 rfl ?_
            refine V_iconst C (v := nI 1) dX7_worth_89 (by decide +kernel) ?_
            refine V_isub C dX7_worth_90 ?_
            refine V_iald C (t - 1) (ob_A hM 23 1024 rfl rfl) et (by rw [ob_N hM 23 1024 rfl rfl]; omega) (by rw [ob_N hM 23 1024 rfl rfl]; decide) dX7_worth_91 ?_
            refine V_tern_if_ne (vt := nI 1) (vf := nI 0) (pm := 100) C 99 dX7_worth_92 (by decide) (fun h92 k => ?_) (fun h92 k => ?_) ?_
            · refine V_iconst C (v := nI 1) dX7_worth_95 (by decide +kernel) ?_
              refine V_goto C 100 dX7_worth_96 (by decide) ?_
              exact k
            · refine V_iconst C (v := nI 0) dX7_worth_99 (by decide +kernel) ?_
              exact k
            refine V_iast C (t - 1) (ob_A hM 23 1024 rfl rfl) et (by rw [ob_N hM 23 1024 rfl rfl]; omega) (by rw [ob_N hM 23 1024 rfl rfl]; decide) dX7_worth_100 ?_
            refine V_goto C 134 dX7_worth_101 (by decide) ?_
            refine V_iincU C dX7_worth_134 rfl (hn _ (by decide)) ?_
            refine V_goto C 4 dX7_worth_137 (by decide) ?_
            rw [up2_up]
            exact key _ _ es _
          · have ht := k6 (by omega)
            have n3 := ne 3 (by omega) e3
            have es : stC (I 1023) a (t, p) = (t - 1, va_up p (t - 2) (bothV a.1 (p (t - 2)) (p (t - 1)))) := by
              simp only [stC, if_neg e1, if_neg e2, if_neg e3]
            obtain ⟨t1, rfl⟩ : ∃ t1, t = t1 + 1 := ⟨t - 1, by omega⟩
            have et : nI t1 - nI 1 = nI (t1 - 1) := pk_sub (by omega)
            rw [show t1 + 1 - 1 = t1 by omega, show t1 + 1 - 2 = t1 - 1 by omega] at es
            refine V_aload_n C dX7_worth_4 rfl ?_
            refine V_getR C fl_X7_104 (ob_K hM) (ob_R hM 20 1021 rfl rfl) rfl dX7_worth_5 ?_
            refine V_iload_n C dX7_worth_8 rfl ?_
            refine V_iald C (q) (ob_A hM 20 1021 rfl rfl) (by first | rfl | (simp only [nI_add, pk_mul]; done) | (simp only [nI_add, pk_mul]; congr 1; omega)) (by rw [ob_N hM 20 1021 rfl rfl]; omega) (by rw [ob_N hM 20 1021 rfl rfl]; decide) dX7_worth_9 ?_
            refine V_if_eq C 140 dX7_worth_10 (by decide) (fun h10 => absurd h10 (n0)) (fun h10 => ?_)
            refine V_aload_n C dX7_worth_13 rfl ?_
            refine V_getR C fl_X7_104 (ob_K hM) (ob_R hM 20 1021 rfl rfl) rfl dX7_worth_14 ?_
            refine V_iload_n C dX7_worth_17 rfl ?_
            refine V_iald C (q) (ob_A hM 20 1021 rfl rfl) (by first | rfl | (simp only [nI_add, pk_mul]; done) | (simp only [nI_add, pk_mul]; congr 1; omega)) (by rw [ob_N hM 20 1021 rfl rfl]; omega) (by rw [ob_N hM 20 1021 rfl rfl]; decide) dX7_worth_18 ?_
            refine V_istore C dX7_worth_19 (hn _ (by decide)) ?_
            refine V_iload C dX7_worth_21 rfl ?_
            refine V_iconst C (v := nI 1) dX7_worth_23 (by decide +kernel) ?_
            refine V_icmp_eq C 33 dX7_worth_24 (by decide) (fun h24 => absurd h24 (n1)) (fun h24 => ?_)
            refine V_iload C dX7_worth_27 rfl ?_
            refine V_iconst C (v := nI 2) dX7_worth_29 (by decide +kernel) ?_
            refine V_icmp_ne C 71 dX7_worth_30 (by decide) (fun h30 => ?_) (fun h30 => absurd h30 (n2))
            refine V_iload C dX7_worth_71 rfl ?_
            refine V_iconst C (v := nI 3) dX7_worth_73 (by decide +kernel) ?_
            refine V_icmp_ne C 104 dX7_worth_74 (by decide) (fun h74 => ?_) (fun h74 => absurd h74 (n3))
            refine V_iincD C dX7_worth_104 rfl (hn _ (by decide)) ?_
            refine V_aload_n C dX7_worth_107 rfl ?_
            refine V_getR C fl_X7_113 (ob_K hM) (ob_R hM 23 1024 rfl rfl) rfl dX7_worth_108 ?_
            refine V_iload_n C dX7_worth_111 rfl ?_
            refine V_iconst C (v := nI 1) dX7_worth_112 (by decide +kernel) ?_
            refine V_isub C dX7_worth_113 ?_
            refine V_iload C dX7_worth_114 rfl ?_
            refine V_aload_n C dX7_worth_116 rfl ?_
            refine V_getR C fl_X7_113 (ob_K hM) (ob_R hM 23 1024 rfl rfl) rfl dX7_worth_117 ?_
            refine V_iload_n C dX7_worth_120 rfl ?_
            refine V_iconst C (v := nI 1) dX7_worth_121 (by decide +kernel) ?_
            refine V_isub C dX7_worth_122 ?_
            refine V_iald C (t1 - 1) (ob_A hM 23 1024 rfl rfl) et (by rw [ob_N hM 23 1024 rfl rfl]; omega) (by rw [ob_N hM 23 1024 rfl rfl]; decide) dX7_worth_123 ?_
            refine V_aload_n C dX7_worth_124 rfl ?_
            refine V_getR C fl_X7_113 (ob_K hM) (ob_R hM 23 1024 rfl rfl) rfl dX7_worth_125 ?_
            refine V_iload_n C dX7_worth_128 rfl ?_
            refine V_iald C (t1) (ob_A hM 23 1024 rfl rfl) (by first | rfl | (simp only [nI_add, pk_mul]; done) | (simp only [nI_add, pk_mul]; congr 1; omega)) (by rw [ob_N hM 23 1024 rfl rfl]; omega) (by rw [ob_N hM 23 1024 rfl rfl]; decide) dX7_worth_129 ?_
            rw [show va_up I 1024 p 1021 q = nI a.1 from c1]
            refine V_callS (F := fun _ => True) C (m_both (c := a.1) (by omega) k2 _ _) ms_X7_both ml_X7_291 rfl (by decide) (by decide) (Nat.le_of_ble_eq_true rfl) (fun _ _ => trivial) (fun v _ => clo_T v) rfl dX7_worth_130 ?_
            rintro v S' I' J' ⟨hS, rfl, hI, hJ⟩
            obtain rfl := hS.symm
            obtain rfl := hI.symm
            obtain rfl := hJ.symm
            refine V_iast C (t1 - 1) (ob_A hM 23 1024 rfl rfl) et (by rw [ob_N hM 23 1024 rfl rfl]; omega) (by rw [ob_N hM 23 1024 rfl rfl]; decide) dX7_worth_133 ?_
            refine V_iincU C dX7_worth_134 rfl (hn _ (by decide)) ?_
            refine V_goto C 4 dX7_worth_137 (by decide) ?_
            rw [up2_up]
            exact key _ _ es _
  refine V_iconst C (v := nI 0) dX7_worth_0 (by decide +kernel) ?_
  refine V_istore_n C dX7_worth_1 (hn _ (by decide)) ?_
  refine V_iload_n C dX7_worth_2 rfl ?_
  refine V_istore_n C dX7_worth_3 (hn _ (by decide)) ?_
  refine V_mem (I' := va_up I 1024 (I 1024)) (J' := J) ?_ rfl ?_
  · funext a
    by_cases e : a = 1024
    · subst e; rw [va_up_self]
    · rw [va_up_ne _ _ e]
  exact loop c q0 0 (I 1024) none hc hw (by omega) (fun v hv I' hI => hP _ _ _ ⟨by rw [hv, vlC]; exact congrArg (fun z => some (Value.int z)) (rnC_ag (fun _ _ => rfl) c 0 _ _ hw (fun _ h => absurd h (Nat.not_lt_zero _))), hI, rfl⟩)
/-- a law: kind, least, most, its bit in an END (or none), its codes -/
abbrev Law : Type := Nat × Int32 × Int32 × Option Nat × List (Nat × Int32)
def numL (g : Int32) (w : Law) : Int32 := match w.2.2.2.1 with
  | none => w.2.1
  | some i => if (g >>> (nI i &&& 31)) &&& nI 1 = nI 1 then w.2.2.1 else w.2.1
/-- N of the first law of the kind that holds -/
def lawV (L : List Law) (g : Int32) (k : Nat) (f : Nat → Int32) : Int32 := match L with
  | [] => -1
  | w :: L => if w.1 = k then (if vlC f w.2.2.2.2 = 0 then lawV L g k f else numL g w) else lawV L g k f
theorem lawV_ag {L : List Law} {g : Int32} {k : Nat} {f f' : Nat → Int32} (hw : ∀ w ∈ L, wfC w.2.2.2.2 0) (hf : ∀ j, j < 9 → f j = f' j) : lawV L g k f = lawV L g k f' := by
  induction L with
  | nil => rfl
  | cons w L ih =>
    unfold lawV
    rw [vlC_ag hf (hw w List.mem_cons_self), ih (fun v hv => hw v (List.mem_cons_of_mem _ hv))]
/-- the law w is the reference's law k -/
def rLaw (I : HI) (k : Nat) (w : Law) : Prop := I 1014 k = nI w.1 ∧ w.1 < 9 ∧ I 1015 k = w.2.1 ∧ I 1016 k = w.2.2.1 ∧ (I 1017 k = (match w.2.2.2.1 with | none => -1 | some i => nI i)) ∧ (∀ i, w.2.2.2.1 = some i → i < 4) ∧ (∃ q, I 1018 k = nI q ∧ mtC I w.2.2.2.2 q) ∧ wfC w.2.2.2.2 0
def rLaws (I : HI) (k : Nat) : List Law → Prop
  | [] => True
  | w :: L => rLaw I k w ∧ rLaws I (k + 1) L
/-- the laws in force in the reference are L -/
def RL_ (I : HI) (L : List Law) : Prop := ∃ h, h < 2 ∧ I 1000 10 = nI h ∧ I 1013 h = nI L.length ∧ L.length ≤ 24 ∧ rLaws I (24 * h) L
theorem rLaws_wf {I : HI} : ∀ {L : List Law} {k : Nat}, rLaws I k L → ∀ w ∈ L, wfC w.2.2.2.2 0 := by
  intro L
  induction L with
  | nil => intro k _ w h; cases h
  | cons a L ih =>
    intro k h w hw
    rcases List.mem_cons.mp hw with e | hw
    · subst e; exact h.1.2.2.2.2.2.2.2
    · exact ih h.2 w hw
set_option maxRecDepth 100000 in
set_option maxHeartbeats 1000000 in
theorem m_lawFor (hM : Ob S 7 1000) {L : List Law} (hL : RL_ I L) {k : Nat} (hk : k < 9) : Mn l yX7_lawFor cX7_lawFor 3 (some .int) 2 [.ref 1000, .int (nI k)] S I J (fun v I' J' => v = some (.int (lawV L (I 1000 25) k (I 1023))) ∧ (∃ p, I' = va_up I 1024 p) ∧ J' = J) := by
  refine Mn.of (by decide) (fun ad => by simp [lg_sl, vv, Value.category]) (fun X P hP hn C => ?_)
  obtain ⟨h, hh, e10, e13, hlen, hl⟩ := hL
  have loop : ∀ (M : List Law) (i : Nat) (p : Nat → Int32), i + M.length = L.length → rLaws I (24 * h + i) M → (∀ v, v = lawV M (I 1000 25) k (I 1023) → ∀ I', (∃ p, I' = va_up I 1024 p) → P (some (.int v)) S I' J) → V X P 0 0 8 [some (.ref 1000), some (.int (nI k)), some (.int (nI (24 * h + i)))] [] S (va_up I 1024 p) J := by
    intro M
    induction M with
    | nil =>
      intro i p hi hm hp
      have hi : i = L.length := hi
      subst hi
      have c26 : nI 24 * va_up I 1024 p 1000 10 + va_up I 1024 p 1013 h ≤ nI (24 * h + L.length) := by
        show nI 24 * I 1000 10 + I 1013 h ≤ _
        rw [e10, e13, pk_mul, nI_add]
        exact Int32.le_refl _
      refine V_iload_n C dX7_lawFor_8 rfl ?_
      refine V_bipush C (v := nI 24) dX7_lawFor_9 (by decide +kernel) ?_
      refine V_aload_n C dX7_lawFor_11 rfl ?_
      refine V_getI C fl_X7_243 (ob_K hM) rfl dX7_lawFor_12 ?_
      refine V_imul C dX7_lawFor_15 ?_
      refine V_aload_n C dX7_lawFor_16 rfl ?_
      refine V_getR C fl_X7_83 (ob_K hM) (ob_R hM 12 1013 rfl rfl) rfl dX7_lawFor_17 ?_
      refine V_aload_n C dX7_lawFor_20 rfl ?_
      refine V_getI C fl_X7_243 (ob_K hM) rfl dX7_lawFor_21 ?_
      refine V_iald C (h) (ob_A hM 12 1013 rfl rfl) e10 (by rw [ob_N hM 12 1013 rfl rfl]; omega) (by rw [ob_N hM 12 1013 rfl rfl]; decide) dX7_lawFor_24 ?_
      refine V_iadd C dX7_lawFor_25 ?_
      refine V_icmp_ge C 100 dX7_lawFor_26 (by decide) (fun h26 => ?_) (fun h26 => absurd (c26) h26)
      refine V_iconst C (v := (-1)) dX7_lawFor_100 (by decide +kernel) ?_
      exact V_iret C (Nat.zero_le _) (Nat.zero_le _) dX7_lawFor_101 (hp _ rfl _ ⟨p, rfl⟩)
    | cons w M ih =>
      intro i p hi hm hp
      obtain ⟨⟨w1, w2, w3, w4, w5, w6, ⟨q, w7, w8⟩, w9⟩, hm2⟩ := hm
      have hi : i + (M.length + 1) = L.length := hi
      have c26 : ¬ nI 24 * va_up I 1024 p 1000 10 + va_up I 1024 p 1013 h ≤ nI (24 * h + i) := by
        show ¬ nI 24 * I 1000 10 + I 1013 h ≤ _
        rw [e10, e13, pk_mul, nI_add]
        exact nI_ge (by omega) (by omega)
      have next : ∀ p', (∀ v, v = lawV M (I 1000 25) k (I 1023) → ∀ I', (∃ p, I' = va_up I 1024 p) → P (some (.int v)) S I' J) → V X P 0 0 8 [some (.ref 1000), some (.int (nI k)), some (.int (nI (24 * h + i + 1)))] [] S (va_up I 1024 p') J := fun p' hp' => ih (i + 1) p' (by omega) hm2 hp'
      by_cases ek : w.1 = k
      · have e14 : I 1014 (24 * h + i) = nI k := by rw [w1, ek]
        have hlw : lawV (w :: M) (I 1000 25) k (I 1023) = if vlC (I 1023) w.2.2.2.2 = 0 then lawV M (I 1000 25) k (I 1023) else numL (I 1000 25) w := by rw [lawV, if_pos ek]
        have nl : numL (I 1000 25) w = if I 1017 (24 * h + i) < 0 then I 1015 (24 * h + i) else if (I 1000 25 >>> (I 1017 (24 * h + i) &&& 31)) &&& nI 1 = nI 1 then I 1016 (24 * h + i) else I 1015 (24 * h + i) := by
          unfold numL
          rw [w3, w4]
          revert w5 w6
          cases w.2.2.2.1 with
          | none => intro w5 w6; rw [w5]; rfl
          | some j =>
            intro w5 w6
            have := w6 j rfl
            rw [w5]
            show _ = if nI j < 0 then _ else _
            rw [if_neg (nI_pos (by omega))]
        refine V_iload_n C dX7_lawFor_8 rfl ?_
        refine V_bipush C (v := nI 24) dX7_lawFor_9 (by decide +kernel) ?_
        refine V_aload_n C dX7_lawFor_11 rfl ?_
        refine V_getI C fl_X7_243 (ob_K hM) rfl dX7_lawFor_12 ?_
        refine V_imul C dX7_lawFor_15 ?_
        refine V_aload_n C dX7_lawFor_16 rfl ?_
        refine V_getR C fl_X7_83 (ob_K hM) (ob_R hM 12 1013 rfl rfl) rfl dX7_lawFor_17 ?_
        refine V_aload_n C dX7_lawFor_20 rfl ?_
        refine V_getI C fl_X7_243 (ob_K hM) rfl dX7_lawFor_21 ?_
        refine V_iald C (h) (ob_A hM 12 1013 rfl rfl) e10 (by rw [ob_N hM 12 1013 rfl rfl]; omega) (by rw [ob_N hM 12 1013 rfl rfl]; decide) dX7_lawFor_24 ?_
        refine V_iadd C dX7_lawFor_25 ?_
        refine V_icmp_ge C 100 dX7_lawFor_26 (by decide) (fun h26 => absurd h26 (c26)) (fun h26 => ?_)
        refine V_aload_n C dX7_lawFor_29 rfl ?_
        refine V_getR C fl_X7_86 (ob_K hM) (ob_R hM 13 1014 rfl rfl) rfl dX7_lawFor_30 ?_
        refine V_iload_n C dX7_lawFor_33 rfl ?_
        refine V_iald C (24 * h + i) (ob_A hM 13 1014 rfl rfl) (by first | rfl | (simp only [nI_add, pk_mul]; done) | (simp only [nI_add, pk_mul]; congr 1; omega)) (by rw [ob_N hM 13 1014 rfl rfl]; omega) (by rw [ob_N hM 13 1014 rfl rfl]; decide) dX7_lawFor_34 ?_
        refine V_iload_n C dX7_lawFor_35 rfl ?_
        refine V_icmp_ne C 94 dX7_lawFor_36 (by decide) (fun h36 => absurd (e14) h36) (fun h36 => ?_)
        refine V_aload_n C dX7_lawFor_39 rfl ?_
        refine V_aload_n C dX7_lawFor_40 rfl ?_
        refine V_getR C fl_X7_98 (ob_K hM) (ob_R hM 17 1018 rfl rfl) rfl dX7_lawFor_41 ?_
        refine V_iload_n C dX7_lawFor_44 rfl ?_
        refine V_iald C (24 * h + i) (ob_A hM 17 1018 rfl rfl) (by first | rfl | (simp only [nI_add, pk_mul]; done) | (simp only [nI_add, pk_mul]; congr 1; omega)) (by rw [ob_N hM 17 1018 rfl rfl]; omega) (by rw [ob_N hM 17 1018 rfl rfl]; decide) dX7_lawFor_45 ?_
        rw [show va_up I 1024 p 1018 (24 * h + i) = nI q from w7]
        refine V_callV (F := fun _ => True) C (m_worth hM (mtC_congr (I := I) (I' := va_up I 1024 p) rfl rfl _ _ w8) w9) mi_X7_worth ml_X7_295 rfl (ob_K hM) (by decide) (by decide) (by decide) (Nat.le_of_ble_eq_true rfl) (fun _ _ => trivial) (fun v _ => clo_T v) rfl dX7_lawFor_46 ?_
        rintro v S' I' J' ⟨hS, rfl, ⟨p2, hI⟩, hJ⟩
        obtain rfl := hS.symm
        obtain rfl := hJ.symm
        rw [va_up_up] at hI
        subst hI
        refine V_if_eq C 94 dX7_lawFor_49 (by decide) (fun h49 => ?_) (fun h49 => ?_)
        · refine V_iincU C dX7_lawFor_94 rfl (hn _ (by decide)) ?_
          refine V_goto C 8 dX7_lawFor_97 (by decide) ?_
          exact next _ (fun v hv => hp v (by rw [hv, hlw, if_pos (show vlC (I 1023) w.2.2.2.2 = 0 from h49)]))
        · refine V_aload_n C dX7_lawFor_52 rfl ?_
          refine V_getR C fl_X7_95 (ob_K hM) (ob_R hM 16 1017 rfl rfl) rfl dX7_lawFor_53 ?_
          refine V_iload_n C dX7_lawFor_56 rfl ?_
          refine V_iald C (24 * h + i) (ob_A hM 16 1017 rfl rfl) (by first | rfl | (simp only [nI_add, pk_mul]; done) | (simp only [nI_add, pk_mul]; congr 1; omega)) (by rw [ob_N hM 16 1017 rfl rfl]; omega) (by rw [ob_N hM 16 1017 rfl rfl]; decide) dX7_lawFor_57 ?_
          refine V_if_lt C 87 dX7_lawFor_58 (by decide) (fun h58 => ?_) (fun h58 => ?_)
          · refine V_aload_n C dX7_lawFor_87 rfl ?_
            refine V_getR C fl_X7_89 (ob_K hM) (ob_R hM 14 1015 rfl rfl) rfl dX7_lawFor_88 ?_
            refine V_iload_n C dX7_lawFor_91 rfl ?_
            refine V_iald C (24 * h + i) (ob_A hM 14 1015 rfl rfl) (by first | rfl | (simp only [nI_add, pk_mul]; done) | (simp only [nI_add, pk_mul]; congr 1; omega)) (by rw [ob_N hM 14 1015 rfl rfl]; omega) (by rw [ob_N hM 14 1015 rfl rfl]; decide) dX7_lawFor_92 ?_
            exact V_iret C (Nat.zero_le _) (Nat.zero_le _) dX7_lawFor_93 (hp _ (by rw [hlw, if_neg (show ¬ vlC (I 1023) w.2.2.2.2 = 0 from h49), nl]; first | (rw [if_pos (show I 1017 (24 * h + i) < 0 from h58)]; rfl) | (rw [if_neg (show ¬ I 1017 (24 * h + i) < 0 from h58)]; first | (rw [if_pos (show I 1000 25 >>> (I 1017 (24 * h + i) &&& 31) &&& nI 1 = nI 1 from h75)]; rfl) | (rw [if_neg (show ¬ I 1000 25 >>> (I 1017 (24 * h + i) &&& 31) &&& nI 1 = nI 1 from h75)]; rfl))) _ ⟨_, rfl⟩)
          · refine V_aload_n C dX7_lawFor_61 rfl ?_
            refine V_getI C fl_X7_298 (ob_K hM) rfl dX7_lawFor_62 ?_
            refine V_aload_n C dX7_lawFor_65 rfl ?_
            refine V_getR C fl_X7_95 (ob_K hM) (ob_R hM 16 1017 rfl rfl) rfl dX7_lawFor_66 ?_
            refine V_iload_n C dX7_lawFor_69 rfl ?_
            refine V_iald C (24 * h + i) (ob_A hM 16 1017 rfl rfl) (by first | rfl | (simp only [nI_add, pk_mul]; done) | (simp only [nI_add, pk_mul]; congr 1; omega)) (by rw [ob_N hM 16 1017 rfl rfl]; omega) (by rw [ob_N hM 16 1017 rfl rfl]; decide) dX7_lawFor_70 ?_
            refine V_ishr C dX7_lawFor_71 ?_
            refine V_iconst C (v := nI 1) dX7_lawFor_72 (by decide +kernel) ?_
            refine V_iand C dX7_lawFor_73 ?_
            refine V_iconst C (v := nI 1) dX7_lawFor_74 (by decide +kernel) ?_
            refine V_icmp_ne C 87 dX7_lawFor_75 (by decide) (fun h75 => ?_) (fun h75 => ?_)
            · refine V_aload_n C dX7_lawFor_87 rfl ?_
              refine V_getR C fl_X7_89 (ob_K hM) (ob_R hM 14 1015 rfl rfl) rfl dX7_lawFor_88 ?_
              refine V_iload_n C dX7_lawFor_91 rfl ?_
              refine V_iald C (24 * h + i) (ob_A hM 14 1015 rfl rfl) (by first | rfl | (simp only [nI_add, pk_mul]; done) | (simp only [nI_add, pk_mul]; congr 1; omega)) (by rw [ob_N hM 14 1015 rfl rfl]; omega) (by rw [ob_N hM 14 1015 rfl rfl]; decide) dX7_lawFor_92 ?_
              exact V_iret C (Nat.zero_le _) (Nat.zero_le _) dX7_lawFor_93 (hp _ (by rw [hlw, if_neg (show ¬ vlC (I 1023) w.2.2.2.2 = 0 from h49), nl]; first | (rw [if_pos (show I 1017 (24 * h + i) < 0 from h58)]; rfl) | (rw [if_neg (show ¬ I 1017 (24 * h + i) < 0 from h58)]; first | (rw [if_pos (show I 1000 25 >>> (I 1017 (24 * h + i) &&& 31) &&& nI 1 = nI 1 from h75)]; rfl) | (rw [if_neg (show ¬ I 1000 25 >>> (I 1017 (24 * h + i) &&& 31) &&& nI 1 = nI 1 from h75)]; rfl))) _ ⟨_, rfl⟩)
            · refine V_aload_n C dX7_lawFor_78 rfl ?_
              refine V_getR C fl_X7_92 (ob_K hM) (ob_R hM 15 1016 rfl rfl) rfl dX7_lawFor_79 ?_
              refine V_iload_n C dX7_lawFor_82 rfl ?_
              refine V_iald C (24 * h + i) (ob_A hM 15 1016 rfl rfl) (by first | rfl | (simp only [nI_add, pk_mul]; done) | (simp only [nI_add, pk_mul]; congr 1; omega)) (by rw [ob_N hM 15 1016 rfl rfl]; omega) (by rw [ob_N hM 15 1016 rfl rfl]; decide) dX7_lawFor_83 ?_
              refine V_goto C 93 dX7_lawFor_84 (by decide) ?_
              exact V_iret C (Nat.zero_le _) (Nat.zero_le _) dX7_lawFor_93 (hp _ (by rw [hlw, if_neg (show ¬ vlC (I 1023) w.2.2.2.2 = 0 from h49), nl]; first | (rw [if_pos (show I 1017 (24 * h + i) < 0 from h58)]; rfl) | (rw [if_neg (show ¬ I 1017 (24 * h + i) < 0 from h58)]; first | (rw [if_pos (show I 1000 25 >>> (I 1017 (24 * h + i) &&& 31) &&& nI 1 = nI 1 from h75)]; rfl) | (rw [if_neg (show ¬ I 1000 25 >>> (I 1017 (24 * h + i) &&& 31) &&& nI 1 = nI 1 from h75)]; rfl))) _ ⟨_, rfl⟩)
      · have n14 : ¬ I 1014 (24 * h + i) = nI k := by rw [w1]; exact fun e => ek ((nI_eq (by omega) (by omega)).mp e)
        refine V_iload_n C dX7_lawFor_8 rfl ?_
        refine V_bipush C (v := nI 24) dX7_lawFor_9 (by decide +kernel) ?_
        refine V_aload_n C dX7_lawFor_11 rfl ?_
        refine V_getI C fl_X7_243 (ob_K hM) rfl dX7_lawFor_12 ?_
        refine V_imul C dX7_lawFor_15 ?_
        refine V_aload_n C dX7_lawFor_16 rfl ?_
        refine V_getR C fl_X7_83 (ob_K hM) (ob_R hM 12 1013 rfl rfl) rfl dX7_lawFor_17 ?_
        refine V_aload_n C dX7_lawFor_20 rfl ?_
        refine V_getI C fl_X7_243 (ob_K hM) rfl dX7_lawFor_21 ?_
        refine V_iald C (h) (ob_A hM 12 1013 rfl rfl) e10 (by rw [ob_N hM 12 1013 rfl rfl]; omega) (by rw [ob_N hM 12 1013 rfl rfl]; decide) dX7_lawFor_24 ?_
        refine V_iadd C dX7_lawFor_25 ?_
        refine V_icmp_ge C 100 dX7_lawFor_26 (by decide) (fun h26 => absurd h26 (c26)) (fun h26 => ?_)
        refine V_aload_n C dX7_lawFor_29 rfl ?_
        refine V_getR C fl_X7_86 (ob_K hM) (ob_R hM 13 1014 rfl rfl) rfl dX7_lawFor_30 ?_
        refine V_iload_n C dX7_lawFor_33 rfl ?_
        refine V_iald C (24 * h + i) (ob_A hM 13 1014 rfl rfl) (by first | rfl | (simp only [nI_add, pk_mul]; done) | (simp only [nI_add, pk_mul]; congr 1; omega)) (by rw [ob_N hM 13 1014 rfl rfl]; omega) (by rw [ob_N hM 13 1014 rfl rfl]; decide) dX7_lawFor_34 ?_
        refine V_iload_n C dX7_lawFor_35 rfl ?_
        refine V_icmp_ne C 94 dX7_lawFor_36 (by decide) (fun h36 => ?_) (fun h36 => absurd h36 (n14))
        refine V_iincU C dX7_lawFor_94 rfl (hn _ (by decide)) ?_
        refine V_goto C 8 dX7_lawFor_97 (by decide) ?_
        exact next _ (fun v hv => hp v (by rw [hv, lawV, if_neg ek]))
  refine V_bipush C (v := nI 24) dX7_lawFor_0 (by decide +kernel) ?_
  refine V_aload_n C dX7_lawFor_2 rfl ?_
  refine V_getI C fl_X7_243 (ob_K hM) rfl dX7_lawFor_3 ?_
  refine V_imul C dX7_lawFor_6 ?_
  refine V_istore_n C dX7_lawFor_7 (hn _ (by decide)) ?_
  rw [show nI 24 * I 1000 10 = nI (24 * h + 0) by rw [e10, pk_mul]; rfl]
  refine V_mem (I' := va_up I 1024 (I 1024)) (J' := J) ?_ rfl ?_
  · funext a
    by_cases e : a = 1024
    · subst e; rw [va_up_self]
    · rw [va_up_ne _ _ e]
  exact loop L 0 (I 1024) (by omega) hl (fun v hv I' hI => hP _ _ _ ⟨by rw [hv], hI, rfl⟩)
end M3
