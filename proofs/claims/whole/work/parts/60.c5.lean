/-! the class's laws at key la: rows at la + 4 .. la + 12; what laws are told is the course's row at 1146 -/
section C5
variable {l : Launch} {S : HS} {I I' : HI} {J J' : HJ} {la : Nat}
def cOp (c : Nat) : Nat := match c with
  | 3 => 10
  | 10 => 11
  | 11 => 12
  | 8 => 13
  | 9 => 14
  | 4 => 15
  | 5 => 16
  | 6 => 17
  | _ => 18
/-- x is the code of q -/
def cCd (x : Int32) (q : Nat × Int32) : Prop := (q.1 = 1 → ∃ n, n ≤ 99999 ∧ q.2 = nI n ∧ x = nI (9 + 32 * n)) ∧ (q.1 = 2 → ∃ j, j < 9 ∧ q.2 = nI j ∧ x = nI j) ∧ (3 ≤ q.1 → x = nI (cOp q.1))
def cxC (I : HI) (la : Nat) : List (Nat × Int32) → Nat → Prop
  | [], _ => True
  | q :: c, p => cCd (I (la + 11) p) q ∧ cxC I la c (p + 1)
def obV (o : Option Nat) : Int32 := match o with
  | none => 0
  | some j => nI (2 ^ j)
/-- the first law of a kind, from the number i on -/
def nxI (k : Nat) : Nat → List Law → Int32
  | _, [] => -1
  | i, w :: L => if w.1 = k then nI i else nxI k (i + 1) L
def cLaw (I : HI) (la i p : Nat) (w : Law) : Prop := I (la + 4) i = w.2.1 ∧ I (la + 5) i = w.2.2.1 ∧ I (la + 6) i = obV w.2.2.2.1 ∧ I (la + 7) i = nI p ∧ I (la + 7) (i + 1) = nI (p + w.2.2.2.2.length) ∧ cxC I la w.2.2.2.2 p
def cLaws (I : HI) (la : Nat) : Nat → Nat → List Law → Prop
  | _, _, [] => True
  | i, p, w :: L => cLaw I la i p w ∧ I (la + 8) i = nxI w.1 (i + 1) L ∧ cLaws I la (i + 1) (p + w.2.2.2.2.length) L
def cdN : List Law → Nat
  | [] => 0
  | w :: L => w.2.2.2.2.length + cdN L
def lkC (w : Law) : Prop := w.1 < 9 ∧ wfC w.2.2.2.2 0 ∧ ∀ j, w.2.2.2.1 = some j → j < 4
def CL (I : HI) (la : Nat) (L : List Law) : Prop := I la 0 = nI L.length ∧ I la 1 = nI (opN L) ∧ (∀ k, k < 9 → I (la + 9) k = nxI k 0 L) ∧ L.length ≤ 24 ∧ cdN L ≤ 1000 ∧ cLaws I la 0 0 L ∧ ∀ w ∈ L, lkC w
theorem cxC_cg {c : List (Nat × Int32)} : ∀ {p : Nat}, I' (la + 11) = I (la + 11) → cxC I la c p → cxC I' la c p := by
  induction c with
  | nil => intro p _ _; trivial
  | cons q c ih => intro p e h; exact ⟨by rw [e]; exact h.1, ih e h.2⟩
theorem cLaws_cg (h : ∀ a, la + 4 ≤ a → a ≤ la + 11 → I' a = I a) : ∀ (L : List Law) (i p : Nat), cLaws I la i p L → cLaws I' la i p L := by
  intro L
  induction L with
  | nil => intro i p _; trivial
  | cons w L ih =>
    intro i p hl
    obtain ⟨⟨h1, h2, h3, h4, h5, h6⟩, h7, h8⟩ := hl
    exact ⟨⟨by rw [h (la + 4) (by omega) (by omega)]; exact h1, by rw [h (la + 5) (by omega) (by omega)]; exact h2, by rw [h (la + 6) (by omega) (by omega)]; exact h3, by rw [h (la + 7) (by omega) (by omega)]; exact h4, by rw [h (la + 7) (by omega) (by omega)]; exact h5, cxC_cg (h (la + 11) (by omega) (by omega)) h6⟩, by rw [h (la + 8) (by omega) (by omega)]; exact h7, ih _ _ h8⟩
theorem CL.cg {L : List Law} (h : CL I la L) (h0 : ∀ x, x < 2 → I' la x = I la x) (hr : ∀ a, la + 4 ≤ a → a ≤ la + 11 → I' a = I a) : CL I' la L := by
  obtain ⟨h1, h2, h3, h4, h5, h6, h7⟩ := h
  exact ⟨by rw [h0 0 (by decide)]; exact h1, by rw [h0 1 (by decide)]; exact h2, fun k hk => by rw [hr (la + 9) (by omega) (by omega)]; exact h3 k hk, h4, h5, cLaws_cg hr _ _ _ h6, h7⟩
set_option maxRecDepth 100000 in
theorem c_join {c : Nat} (h1 : 4 ≤ c) (h2 : c ≤ 11) (a b : Int32) : Mn l yX2_join cX2_join 3 (some .int) 0 [.int (nI (cOp c)), .int a, .int b] S I J (fun v I' J' => v = some (.int (bothV c a b)) ∧ I' = I ∧ J' = J) := by
  refine Mn.of (by decide) (fun ad => by simp [lg_sl, vv, Value.category]) (fun X P hP hn C => ?_)
  match c, h1, h2 with
  | 4, _, _ =>
    refine V_iload_n C dX2_join_0 rfl ?_
    refine V_swIn C 94 dX2_join_1 (by decide) (by decide) (off := 93) (by decide +kernel) (by decide) ?_
    refine V_iload_n C dX2_join_94 rfl ?_
    refine V_iload_n C dX2_join_95 rfl ?_
    refine V_iadd C dX2_join_96 ?_
    exact V_iret C (Nat.zero_le _) (Nat.zero_le _) dX2_join_97 (hP _ _ _ ⟨rfl, rfl, rfl⟩)
  | 5, _, _ =>
    refine V_iload_n C dX2_join_0 rfl ?_
    refine V_swIn C 98 dX2_join_1 (by decide) (by decide) (off := 97) (by decide +kernel) (by decide) ?_
    refine V_iload_n C dX2_join_98 rfl ?_
    refine V_iload_n C dX2_join_99 rfl ?_
    refine V_isub C dX2_join_100 ?_
    exact V_iret C (Nat.zero_le _) (Nat.zero_le _) dX2_join_101 (hP _ _ _ ⟨rfl, rfl, rfl⟩)
  | 6, _, _ =>
    refine V_iload_n C dX2_join_0 rfl ?_
    refine V_swIn C 102 dX2_join_1 (by decide) (by decide) (off := 101) (by decide +kernel) (by decide) ?_
    refine V_iload_n C dX2_join_102 rfl ?_
    refine V_iload_n C dX2_join_103 rfl ?_
    refine V_imul C dX2_join_104 ?_
    exact V_iret C (Nat.zero_le _) (Nat.zero_le _) dX2_join_105 (hP _ _ _ ⟨rfl, rfl, rfl⟩)
  | 7, _, _ =>
    refine V_iload_n C dX2_join_0 rfl ?_
    refine V_swOut C 106 dX2_join_1 (by decide) (by decide) ?_
    refine V_iload_n C dX2_join_106 rfl ?_
    refine V_if_ne C 114 dX2_join_107 (by decide) (fun h107 => ?_) (fun h107 => ?_)
    · refine V_iload_n C dX2_join_114 rfl ?_
      refine V_iload_n C dX2_join_115 rfl ?_
      refine V_idiv C dX2_join_116 h107 ?_
      exact V_iret C (Nat.zero_le _) (Nat.zero_le _) dX2_join_117 (hP _ _ _ ⟨by first | rw [show bothV 7 a b = _ from if_pos h107] | rw [show bothV 7 a b = _ from if_neg h107], rfl, rfl⟩)
    · refine V_iconst C (v := nI 0) dX2_join_110 (by decide +kernel) ?_
      refine V_goto C 117 dX2_join_111 (by decide) ?_
      exact V_iret C (Nat.zero_le _) (Nat.zero_le _) dX2_join_117 (hP _ _ _ ⟨by first | rw [show bothV 7 a b = _ from if_pos h107] | rw [show bothV 7 a b = _ from if_neg h107], rfl, rfl⟩)
  | 8, _, _ =>
    refine V_iload_n C dX2_join_0 rfl ?_
    refine V_swIn C 72 dX2_join_1 (by decide) (by decide) (off := 71) (by decide +kernel) (by decide) ?_
    refine V_iload_n C dX2_join_72 rfl ?_
    refine V_iload_n C dX2_join_73 rfl ?_
    refine V_icmp_ge C 81 dX2_join_74 (by decide) (fun h74 => ?_) (fun h74 => ?_)
    · refine V_iconst C (v := nI 0) dX2_join_81 (by decide +kernel) ?_
      exact V_iret C (Nat.zero_le _) (Nat.zero_le _) dX2_join_82 (hP _ _ _ ⟨by first | rw [show bothV 8 a b = _ from if_pos h74] | rw [show bothV 8 a b = _ from if_neg h74], rfl, rfl⟩)
    · refine V_iconst C (v := nI 1) dX2_join_77 (by decide +kernel) ?_
      refine V_goto C 82 dX2_join_78 (by decide) ?_
      exact V_iret C (Nat.zero_le _) (Nat.zero_le _) dX2_join_82 (hP _ _ _ ⟨by first | rw [show bothV 8 a b = _ from if_pos h74] | rw [show bothV 8 a b = _ from if_neg h74], rfl, rfl⟩)
  | 9, _, _ =>
    refine V_iload_n C dX2_join_0 rfl ?_
    refine V_swIn C 83 dX2_join_1 (by decide) (by decide) (off := 82) (by decide +kernel) (by decide) ?_
    refine V_iload_n C dX2_join_83 rfl ?_
    refine V_iload_n C dX2_join_84 rfl ?_
    refine V_icmp_ne C 92 dX2_join_85 (by decide) (fun h85 => ?_) (fun h85 => ?_)
    · refine V_iconst C (v := nI 0) dX2_join_92 (by decide +kernel) ?_
      exact V_iret C (Nat.zero_le _) (Nat.zero_le _) dX2_join_93 (hP _ _ _ ⟨by first | rw [show bothV 9 a b = _ from if_pos h85] | rw [show bothV 9 a b = _ from if_neg h85], rfl, rfl⟩)
    · refine V_iconst C (v := nI 1) dX2_join_88 (by decide +kernel) ?_
      refine V_goto C 93 dX2_join_89 (by decide) ?_
      exact V_iret C (Nat.zero_le _) (Nat.zero_le _) dX2_join_93 (hP _ _ _ ⟨by first | rw [show bothV 9 a b = _ from if_pos h85] | rw [show bothV 9 a b = _ from if_neg h85], rfl, rfl⟩)
  | 10, _, _ =>
    refine V_iload_n C dX2_join_0 rfl ?_
    refine V_swIn C 44 dX2_join_1 (by decide) (by decide) (off := 43) (by decide +kernel) (by decide) ?_
    refine V_iload_n C dX2_join_44 rfl ?_
    refine V_if_eq C 56 dX2_join_45 (by decide) (fun h45 => ?_) (fun h45 => ?_)
    · refine V_iconst C (v := nI 0) dX2_join_56 (by decide +kernel) ?_
      exact V_iret C (Nat.zero_le _) (Nat.zero_le _) dX2_join_57 (hP _ _ _ ⟨by first | rw [show bothV 10 a b = _ from if_pos h45] | (rw [show bothV 10 a b = _ from if_neg h45]; first | rw [if_pos h49] | rw [if_neg h49]), rfl, rfl⟩)
    · refine V_iload_n C dX2_join_48 rfl ?_
      refine V_if_eq C 56 dX2_join_49 (by decide) (fun h49 => ?_) (fun h49 => ?_)
      · refine V_iconst C (v := nI 0) dX2_join_56 (by decide +kernel) ?_
        exact V_iret C (Nat.zero_le _) (Nat.zero_le _) dX2_join_57 (hP _ _ _ ⟨by first | rw [show bothV 10 a b = _ from if_pos h45] | (rw [show bothV 10 a b = _ from if_neg h45]; first | rw [if_pos h49] | rw [if_neg h49]), rfl, rfl⟩)
      · refine V_iconst C (v := nI 1) dX2_join_52 (by decide +kernel) ?_
        refine V_goto C 57 dX2_join_53 (by decide) ?_
        exact V_iret C (Nat.zero_le _) (Nat.zero_le _) dX2_join_57 (hP _ _ _ ⟨by first | rw [show bothV 10 a b = _ from if_pos h45] | (rw [show bothV 10 a b = _ from if_neg h45]; first | rw [if_pos h49] | rw [if_neg h49]), rfl, rfl⟩)
  | 11, _, _ =>
    refine V_iload_n C dX2_join_0 rfl ?_
    refine V_swIn C 58 dX2_join_1 (by decide) (by decide) (off := 57) (by decide +kernel) (by decide) ?_
    refine V_iload_n C dX2_join_58 rfl ?_
    refine V_if_ne C 66 dX2_join_59 (by decide) (fun h59 => ?_) (fun h59 => ?_)
    · refine V_iconst C (v := nI 1) dX2_join_66 (by decide +kernel) ?_
      refine V_goto C 71 dX2_join_67 (by decide) ?_
      exact V_iret C (Nat.zero_le _) (Nat.zero_le _) dX2_join_71 (hP _ _ _ ⟨by first | rw [show bothV 11 a b = _ from if_neg h59] | (rw [show bothV 11 a b = _ from if_pos h59]; first | rw [if_pos h63] | rw [if_neg h63]), rfl, rfl⟩)
    · refine V_iload_n C dX2_join_62 rfl ?_
      refine V_if_eq C 70 dX2_join_63 (by decide) (fun h63 => ?_) (fun h63 => ?_)
      · refine V_iconst C (v := nI 0) dX2_join_70 (by decide +kernel) ?_
        exact V_iret C (Nat.zero_le _) (Nat.zero_le _) dX2_join_71 (hP _ _ _ ⟨by first | rw [show bothV 11 a b = _ from if_neg h59] | (rw [show bothV 11 a b = _ from if_pos h59]; first | rw [if_pos h63] | rw [if_neg h63]), rfl, rfl⟩)
      · refine V_iconst C (v := nI 1) dX2_join_66 (by decide +kernel) ?_
        refine V_goto C 71 dX2_join_67 (by decide) ?_
        exact V_iret C (Nat.zero_le _) (Nat.zero_le _) dX2_join_71 (hP _ _ _ ⟨by first | rw [show bothV 11 a b = _ from if_neg h59] | (rw [show bothV 11 a b = _ from if_pos h59]; first | rw [if_pos h63] | rw [if_neg h63]), rfl, rfl⟩)
theorem cOp_rg {c : Nat} (h1 : 4 ≤ c) (h2 : c ≤ 11) : 11 ≤ cOp c ∧ cOp c ≤ 18 := by
  match c, h1, h2 with
  | 4, _, _ => decide
  | 5, _, _ => decide
  | 6, _, _ => decide
  | 7, _, _ => decide
  | 8, _, _ => decide
  | 9, _, _ => decide
  | 10, _, _ => decide
  | 11, _, _ => decide
theorem a31 {n : Nat} (h : n < 2 ^ 31) : nI n &&& nI 31 = nI (n % 32) := pk_andN (m := nI 31) (by omega) 5 (by decide)
theorem s5 {n : Nat} (h : n < 2 ^ 31) : nI n >>> (nI 5 &&& 31) = nI (n / 32) := pk_shrN h (nI 5 &&& 31) 5 (by decide)
set_option maxRecDepth 100000 in
set_option maxHeartbeats 2000000 in
theorem c_valueOf (hL : Ob S 2 la) (hF : Ob S 0 1140) (hla : la + 12 < 1140 ∨ 1150 < la) {i p : Nat} {w : Law} (hi : i < 24) (hw : cLaw I la i p w) (hp : p + w.2.2.2.2.length ≤ 1000) (hf : wfC w.2.2.2.2 0) : Mn l yX2_valueOf cX2_valueOf 8 (some .int) 1 [.ref la, .int (nI i), .ref 1146] S I J (fun v I' J' => v = some (.int (vlC (I 1146) w.2.2.2.2)) ∧ (∃ s, I' = va_up I (la + 12) s) ∧ J' = J) := by
  refine Mn.of (by decide) (fun ad => by simp [lg_sl, vv, Value.category]) (fun X P hP hn C => ?_)
  have l46 : (1146 : Nat) ≠ la + 12 := by omega
  obtain ⟨w1, w2, w3, w4, w5, w6⟩ := hw
  obtain ⟨n, hn'⟩ : ∃ n, n = p + w.2.2.2.2.length := ⟨_, rfl⟩
  rw [← hn'] at hp w5
  have rd : ∀ s a, a ≠ la + 12 → va_up I (la + 12) s a = I a := fun s a h => va_up_ne _ _ h
  have loop : ∀ (c : List (Nat × Int32)) (q t : Nat) (s : Nat → Int32) (x6 x7 : Option Value), q + c.length = n → cxC I la c q → wfC c t → t ≤ 30 → (∀ v, v = (rnC (I 1146) c (t, s)).2 0 → ∀ I', (∃ s, I' = va_up I (la + 12) s) → P (some (.int v)) S I' J) → V X P 0 0 20 [some (.ref la), some (.int (nI i)), some (.ref 1146), some (.int (nI t)), some (.int (nI n)), some (.int (nI q)), x6, x7] [] S (va_up I (la + 12) s) J := by
    intro c
    induction c with
    | nil =>
      intro q t s x6 x7 hq hc hwf h30 hp'
      have hq : q = n := hq
      have ht : t = 1 := hwf
      subst ht
      subst hq
      refine V_iload C dX2_valueOf_20 rfl ?_
      refine V_iload C dX2_valueOf_22 rfl ?_
      refine V_icmp_ge C 165 dX2_valueOf_24 (by decide) (fun h24 => ?_) (fun h24 => absurd (Int32.le_refl _) h24)
      refine V_iload_n C dX2_valueOf_165 rfl ?_
      refine V_if_le C 178 dX2_valueOf_166 (by decide) (fun h166 => absurd h166 (by decide)) (fun h166 => ?_)
      refine V_aload_n C dX2_valueOf_169 rfl ?_
      refine V_getR C fl_X2_36 (ob_K hL) (ob_R hL 11 (la + 12) rfl rfl) rfl dX2_valueOf_170 ?_
      refine V_iconst C (v := nI 0) dX2_valueOf_173 (by decide +kernel) ?_
      refine V_iald C (0) (ob_A hL 11 (la + 12) rfl rfl) (by first | rfl | (simp only [nI_add, pk_mul]; done) | (simp only [nI_add, pk_mul]; congr 1; omega)) (by rw [ob_N hL 11 (la + 12) rfl rfl]; omega) (by rw [ob_N hL 11 (la + 12) rfl rfl]; decide) dX2_valueOf_174 ?_
      refine V_goto C 179 dX2_valueOf_175 (by decide) ?_
      exact V_iret C (Nat.zero_le _) (Nat.zero_le _) dX2_valueOf_179 (hp' _ (by rw [va_up_self]; rfl) _ ⟨s, rfl⟩)
    | cons a c ih =>
      intro q t s x6 x7 hq hc hwf h30 hp'
      rw [List.length_cons] at hq
      obtain ⟨⟨k1, k2, k3⟩, hc2⟩ := hc
      obtain ⟨hok, hw2⟩ := hwf
      have htp := stC_tp (f := I 1146) (p := s) hok
      obtain ⟨⟨o1, o2⟩, o3, o4, o5, o6⟩ := hok
      have key : ∀ (t' : Nat) (s' : Nat → Int32), stC (I 1146) a (t, s) = (t', s') → ∀ x6 x7, V X P 0 0 20 [some (.ref la), some (.int (nI i)), some (.ref 1146), some (.int (nI t')), some (.int (nI n)), some (.int (nI (q + 1))), x6, x7] [] S (va_up I (la + 12) s') J := by
        intro t' s' e x6 x7
        rw [e] at htp
        have et : t' = tpC a t := htp
        refine ih (q + 1) t' s' x6 x7 (by omega) hc2 (by rw [et]; exact hw2) ?_ (fun v hv => hp' v ?_)
        · rw [et]
          unfold tpC
          split
          · have := o3 (by assumption); omega
          · split <;> omega
        · rw [hv]
          show _ = (rnC (I 1146) c (stC (I 1146) a (t, s))).2 0
          rw [e]
      have n24 : ¬ nI n ≤ nI q := nI_ge (by omega) (by omega)
      by_cases e1 : a.1 = 1
      · obtain ⟨m, m1, m2, m3⟩ := k1 e1
        have ht := o3 (by omega)
        have m3 : I (la + 11) q = nI (9 + 32 * m) := m3
        have e31 : nI (9 + 32 * m) &&& nI 31 = nI 9 := by rw [a31 (by omega), show (9 + 32 * m) % 32 = 9 by omega]
        have e5 : nI (9 + 32 * m) >>> (nI 5 &&& 31) = a.2 := by rw [s5 (by omega), m2, show (9 + 32 * m) / 32 = m by omega]
        have es : stC (I 1146) a (t, s) = (t + 1, va_up s t a.2) := by simp only [stC, e1, if_true]
        refine V_iload C dX2_valueOf_20 rfl ?_
        refine V_iload C dX2_valueOf_22 rfl ?_
        refine V_icmp_ge C 165 dX2_valueOf_24 (by decide) (fun h24 => absurd h24 (n24)) (fun h24 => ?_)
        refine V_aload_n C dX2_valueOf_27 rfl ?_
        refine V_getR C fl_X2_33 (ob_K hL) (ob_R hL 10 (la + 11) rfl rfl) rfl dX2_valueOf_28 ?_
        refine V_iload C dX2_valueOf_31 rfl ?_
        refine V_iald C (q) (ob_A hL 10 (la + 11) rfl rfl) (by first | rfl | (simp only [nI_add, pk_mul]; done) | (simp only [nI_add, pk_mul]; congr 1; omega)) (by rw [ob_N hL 10 (la + 11) rfl rfl]; omega) (by rw [ob_N hL 10 (la + 11) rfl rfl]; decide) dX2_valueOf_33 ?_
        rw [rd s (la + 11) (by omega), m3]
        refine V_istore C dX2_valueOf_34 (hn _ (by decide)) ?_
        refine V_iload C dX2_valueOf_36 rfl ?_
        refine V_bipush C (v := nI 31) dX2_valueOf_38 (by decide +kernel) ?_
        refine V_iand C dX2_valueOf_40 ?_
        rw [e31]
        refine V_istore C dX2_valueOf_41 (hn _ (by decide)) ?_
        refine V_iload C dX2_valueOf_43 rfl ?_
        refine V_bipush C (v := nI 9) dX2_valueOf_45 (by decide +kernel) ?_
        refine V_icmp_gt C 86 dX2_valueOf_47 (by decide) (fun h47 => absurd h47 (by decide)) (fun h47 => ?_)
        refine V_iload_n C dX2_valueOf_50 rfl ?_
        refine V_bipush C (v := nI 32) dX2_valueOf_51 (by decide +kernel) ?_
        refine V_icmp_ge C 159 dX2_valueOf_53 (by decide) (fun h53 => absurd h53 (nI_ge (by omega) (by omega))) (fun h53 => ?_)
        refine V_aload_n C dX2_valueOf_56 rfl ?_
        refine V_getR C fl_X2_36 (ob_K hL) (ob_R hL 11 (la + 12) rfl rfl) rfl dX2_valueOf_57 ?_
        refine V_iload_n C dX2_valueOf_60 rfl ?_
        refine V_iload C dX2_valueOf_61 rfl ?_
        refine V_bipush C (v := nI 9) dX2_valueOf_63 (by decide +kernel) ?_
        refine V_icmp_ne C 75 dX2_valueOf_65 (by decide) (fun h65 => absurd (rfl) h65) (fun h65 => ?_)
        refine V_iload C dX2_valueOf_68 rfl ?_
        refine V_iconst C (v := nI 5) dX2_valueOf_70 (by decide +kernel) ?_
        refine V_ishr C dX2_valueOf_71 ?_
        rw [e5]
        refine V_goto C 79 dX2_valueOf_72 (by decide) ?_
        refine V_iast C (t) (ob_A hL 11 (la + 12) rfl rfl) (by first | rfl | (simp only [nI_add, pk_mul]; done) | (simp only [nI_add, pk_mul]; congr 1; omega)) (by rw [ob_N hL 11 (la + 12) rfl rfl]; omega) (by rw [ob_N hL 11 (la + 12) rfl rfl]; decide) dX2_valueOf_79 ?_
        refine V_iincU C dX2_valueOf_80 rfl (hn _ (by decide)) ?_
        refine V_goto C 159 dX2_valueOf_83 (by decide) ?_
        refine V_iincU C dX2_valueOf_159 rfl (hn _ (by decide)) ?_
        refine V_goto C 20 dX2_valueOf_162 (by decide) ?_
        rw [up2_up]
        exact key _ _ es _ _
      · by_cases e2 : a.1 = 2
        · obtain ⟨j, j1, j2, j3⟩ := k2 e2
          have ht := o3 (by omega)
          have j3 : I (la + 11) q = nI j := j3
          have e31 : nI j &&& nI 31 = nI j := by rw [a31 (by omega), show j % 32 = j by omega]
          have es : stC (I 1146) a (t, s) = (t + 1, va_up s t (I 1146 j)) := by
            simp only [stC, e2, j2, nI_clamp (show j < 2 ^ 31 by omega)]
            simp
          have ef : va_up I (la + 12) s 1146 j = I 1146 j := by rw [rd s 1146 l46]
          refine V_iload C dX2_valueOf_20 rfl ?_
          refine V_iload C dX2_valueOf_22 rfl ?_
          refine V_icmp_ge C 165 dX2_valueOf_24 (by decide) (fun h24 => absurd h24 (n24)) (fun h24 => ?_)
          refine V_aload_n C dX2_valueOf_27 rfl ?_
          refine V_getR C fl_X2_33 (ob_K hL) (ob_R hL 10 (la + 11) rfl rfl) rfl dX2_valueOf_28 ?_
          refine V_iload C dX2_valueOf_31 rfl ?_
          refine V_iald C (q) (ob_A hL 10 (la + 11) rfl rfl) (by first | rfl | (simp only [nI_add, pk_mul]; done) | (simp only [nI_add, pk_mul]; congr 1; omega)) (by rw [ob_N hL 10 (la + 11) rfl rfl]; omega) (by rw [ob_N hL 10 (la + 11) rfl rfl]; decide) dX2_valueOf_33 ?_
          rw [rd s (la + 11) (by omega), j3]
          refine V_istore C dX2_valueOf_34 (hn _ (by decide)) ?_
          refine V_iload C dX2_valueOf_36 rfl ?_
          refine V_bipush C (v := nI 31) dX2_valueOf_38 (by decide +kernel) ?_
          refine V_iand C dX2_valueOf_40 ?_
          rw [e31]
          refine V_istore C dX2_valueOf_41 (hn _ (by decide)) ?_
          refine V_iload C dX2_valueOf_43 rfl ?_
          refine V_bipush C (v := nI 9) dX2_valueOf_45 (by decide +kernel) ?_
          refine V_icmp_gt C 86 dX2_valueOf_47 (by decide) (fun h47 => absurd h47 (Int32.not_lt.mpr (nI_le (by omega) (by omega)))) (fun h47 => ?_)
          refine V_iload_n C dX2_valueOf_50 rfl ?_
          refine V_bipush C (v := nI 32) dX2_valueOf_51 (by decide +kernel) ?_
          refine V_icmp_ge C 159 dX2_valueOf_53 (by decide) (fun h53 => absurd h53 (nI_ge (by omega) (by omega))) (fun h53 => ?_)
          refine V_aload_n C dX2_valueOf_56 rfl ?_
          refine V_getR C fl_X2_36 (ob_K hL) (ob_R hL 11 (la + 12) rfl rfl) rfl dX2_valueOf_57 ?_
          refine V_iload_n C dX2_valueOf_60 rfl ?_
          refine V_iload C dX2_valueOf_61 rfl ?_
          refine V_bipush C (v := nI 9) dX2_valueOf_63 (by decide +kernel) ?_
          refine V_icmp_ne C 75 dX2_valueOf_65 (by decide) (fun h65 => ?_) (fun h65 => absurd h65 (fun q => by have := (nI_eq (by omega) (by omega)).mp q; omega))
          refine V_aload_n C dX2_valueOf_75 rfl ?_
          refine V_iload C dX2_valueOf_76 rfl ?_
          refine V_iald C (j) (ob_A hF 5 1146 rfl rfl) (by first | rfl | (simp only [nI_add, pk_mul]; done) | (simp only [nI_add, pk_mul]; congr 1; omega)) (by rw [ob_N hF 5 1146 rfl rfl]; omega) (by rw [ob_N hF 5 1146 rfl rfl]; decide) dX2_valueOf_78 ?_
          rw [ef]
          refine V_iast C (t) (ob_A hL 11 (la + 12) rfl rfl) (by first | rfl | (simp only [nI_add, pk_mul]; done) | (simp only [nI_add, pk_mul]; congr 1; omega)) (by rw [ob_N hL 11 (la + 12) rfl rfl]; omega) (by rw [ob_N hL 11 (la + 12) rfl rfl]; decide) dX2_valueOf_79 ?_
          refine V_iincU C dX2_valueOf_80 rfl (hn _ (by decide)) ?_
          refine V_goto C 159 dX2_valueOf_83 (by decide) ?_
          refine V_iincU C dX2_valueOf_159 rfl (hn _ (by decide)) ?_
          refine V_goto C 20 dX2_valueOf_162 (by decide) ?_
          rw [up2_up]
          exact key _ _ es _ _
        · have hx : I (la + 11) q = nI (cOp a.1) := k3 (by omega)
          by_cases e3 : a.1 = 3
          · have ht := o5 e3
            have hx : I (la + 11) q = nI 10 := by rw [hx, e3]; rfl
            have e31 : nI 10 &&& nI 31 = nI 10 := by decide
            have es : stC (I 1146) a (t, s) = (t, va_up s (t - 1) (if s (t - 1) = 0 then nI 1 else nI 0)) := by
              simp only [stC, e3]
              simp
            have et : nI t - nI 1 = nI (t - 1) := pk_sub ht
            refine V_iload C dX2_valueOf_20 rfl ?_
            refine V_iload C dX2_valueOf_22 rfl ?_
            refine V_icmp_ge C 165 dX2_valueOf_24 (by decide) (fun h24 => absurd h24 (n24)) (fun h24 => ?_)
            refine V_aload_n C dX2_valueOf_27 rfl ?_
            refine V_getR C fl_X2_33 (ob_K hL) (ob_R hL 10 (la + 11) rfl rfl) rfl dX2_valueOf_28 ?_
            refine V_iload C dX2_valueOf_31 rfl ?_
            refine V_iald C (q) (ob_A hL 10 (la + 11) rfl rfl) (by first | rfl | (simp only [nI_add, pk_mul]; done) | (simp only [nI_add, pk_mul]; congr 1; omega)) (by rw [ob_N hL 10 (la + 11) rfl rfl]; omega) (by rw [ob_N hL 10 (la + 11) rfl rfl]; decide) dX2_valueOf_33 ?_
            rw [rd s (la + 11) (by omega), hx]
            refine V_istore C dX2_valueOf_34 (hn _ (by decide)) ?_
            refine V_iload C dX2_valueOf_36 rfl ?_
            refine V_bipush C (v := nI 31) dX2_valueOf_38 (by decide +kernel) ?_
            refine V_iand C dX2_valueOf_40 ?_
            rw [e31]
            refine V_istore C dX2_valueOf_41 (hn _ (by decide)) ?_
            refine V_iload C dX2_valueOf_43 rfl ?_
            refine V_bipush C (v := nI 9) dX2_valueOf_45 (by decide +kernel) ?_
            refine V_icmp_gt C 86 dX2_valueOf_47 (by decide) (fun h47 => ?_) (fun h47 => absurd (by decide) h47)
            refine V_iload C dX2_valueOf_86 rfl ?_
            refine V_bipush C (v := nI 10) dX2_valueOf_88 (by decide +kernel) ?_
            refine V_icmp_ne C 124 dX2_valueOf_90 (by decide) (fun h90 => absurd (rfl) h90) (fun h90 => ?_)
            refine V_iload_n C dX2_valueOf_93 rfl ?_
            refine V_if_le C 159 dX2_valueOf_94 (by decide) (fun h94 => absurd h94 (Int32.not_le.mpr (nI_lt (show 0 < t by omega) (by omega)))) (fun h94 => ?_)
            refine V_aload_n C dX2_valueOf_97 rfl ?_
            refine V_getR C fl_X2_36 (ob_K hL) (ob_R hL 11 (la + 12) rfl rfl) rfl dX2_valueOf_98 ?_
            refine V_iload_n C dX2_valueOf_101 rfl ?_
            refine V_iconst C (v := nI 1) dX2_valueOf_102 (by decide +kernel) ?_
            refine V_isub C dX2_valueOf_103 ?_
            refine V_aload_n C dX2_valueOf_104 rfl ?_
            refine V_getR C fl_X2_36 (ob_K hL) (ob_R hL 11 (la + 12) rfl rfl) rfl dX2_valueOf_105 ?_
            refine V_iload_n C dX2_valueOf_108 rfl ?_
            refine V_iconst C (v := nI 1) dX2_valueOf_109 (by decide +kernel) ?_
            refine V_isub C dX2_valueOf_110 ?_
            refine V_iald C (t - 1) (ob_A hL 11 (la + 12) rfl rfl) et (by rw [ob_N hL 11 (la + 12) rfl rfl]; omega) (by rw [ob_N hL 11 (la + 12) rfl rfl]; decide) dX2_valueOf_111 ?_
            rw [va_up_self]
            refine V_tern_if_ne (vt := nI 1) (vf := nI 0) (pm := 120) C 119 dX2_valueOf_112 (by decide) (fun h112 k => ?_) (fun h112 k => ?_) ?_
            · refine V_iconst C (v := nI 1) dX2_valueOf_115 (by decide +kernel) ?_
              refine V_goto C 120 dX2_valueOf_116 (by decide) ?_
              exact k
            · refine V_iconst C (v := nI 0) dX2_valueOf_119 (by decide +kernel) ?_
              exact k
            refine V_iast C (t - 1) (ob_A hL 11 (la + 12) rfl rfl) et (by rw [ob_N hL 11 (la + 12) rfl rfl]; omega) (by rw [ob_N hL 11 (la + 12) rfl rfl]; decide) dX2_valueOf_120 ?_
            refine V_goto C 159 dX2_valueOf_121 (by decide) ?_
            refine V_iincU C dX2_valueOf_159 rfl (hn _ (by decide)) ?_
            refine V_goto C 20 dX2_valueOf_162 (by decide) ?_
            rw [up2_up]
            exact key _ _ es _ _
          · have ht := o6 (by omega)
            obtain ⟨r1, r2⟩ := cOp_rg (c := a.1) (by omega) o2
            have e31 : nI (cOp a.1) &&& nI 31 = nI (cOp a.1) := by rw [a31 (by omega), Nat.mod_eq_of_lt (by omega)]
            have es : stC (I 1146) a (t, s) = (t - 1, va_up s (t - 2) (bothV a.1 (s (t - 2)) (s (t - 1)))) := by
              simp only [stC, if_neg e1, if_neg e2, if_neg e3]
            obtain ⟨t1, rfl⟩ : ∃ t1, t = t1 + 1 := ⟨t - 1, by omega⟩
            have et : nI t1 - nI 1 = nI (t1 - 1) := pk_sub (by omega)
            rw [show t1 + 1 - 1 = t1 by omega, show t1 + 1 - 2 = t1 - 1 by omega] at es
            have o2' := o2
            refine V_iload C dX2_valueOf_20 rfl ?_
            refine V_iload C dX2_valueOf_22 rfl ?_
            refine V_icmp_ge C 165 dX2_valueOf_24 (by decide) (fun h24 => absurd h24 (n24)) (fun h24 => ?_)
            refine V_aload_n C dX2_valueOf_27 rfl ?_
            refine V_getR C fl_X2_33 (ob_K hL) (ob_R hL 10 (la + 11) rfl rfl) rfl dX2_valueOf_28 ?_
            refine V_iload C dX2_valueOf_31 rfl ?_
            refine V_iald C (q) (ob_A hL 10 (la + 11) rfl rfl) (by first | rfl | (simp only [nI_add, pk_mul]; done) | (simp only [nI_add, pk_mul]; congr 1; omega)) (by rw [ob_N hL 10 (la + 11) rfl rfl]; omega) (by rw [ob_N hL 10 (la + 11) rfl rfl]; decide) dX2_valueOf_33 ?_
            rw [rd s (la + 11) (by omega), hx]
            refine V_istore C dX2_valueOf_34 (hn _ (by decide)) ?_
            refine V_iload C dX2_valueOf_36 rfl ?_
            refine V_bipush C (v := nI 31) dX2_valueOf_38 (by decide +kernel) ?_
            refine V_iand C dX2_valueOf_40 ?_
            rw [e31]
            refine V_istore C dX2_valueOf_41 (hn _ (by decide)) ?_
            refine V_iload C dX2_valueOf_43 rfl ?_
            refine V_bipush C (v := nI 9) dX2_valueOf_45 (by decide +kernel) ?_
            refine V_icmp_gt C 86 dX2_valueOf_47 (by decide) (fun h47 => ?_) (fun h47 => absurd (nI_lt (by omega) (by omega)) h47)
            refine V_iload C dX2_valueOf_86 rfl ?_
            refine V_bipush C (v := nI 10) dX2_valueOf_88 (by decide +kernel) ?_
            refine V_icmp_ne C 124 dX2_valueOf_90 (by decide) (fun h90 => ?_) (fun h90 => absurd h90 (fun q => by have := (nI_eq (by omega) (by omega)).mp q; omega))
            refine V_iload_n C dX2_valueOf_124 rfl ?_
            refine V_iconst C (v := nI 1) dX2_valueOf_125 (by decide +kernel) ?_
            refine V_icmp_le C 159 dX2_valueOf_126 (by decide) (fun h126 => absurd h126 (nI_ge (by omega) (by omega))) (fun h126 => ?_)
            refine V_iincD C dX2_valueOf_129 rfl (hn _ (by decide)) ?_
            refine V_aload_n C dX2_valueOf_132 rfl ?_
            refine V_getR C fl_X2_36 (ob_K hL) (ob_R hL 11 (la + 12) rfl rfl) rfl dX2_valueOf_133 ?_
            refine V_iload_n C dX2_valueOf_136 rfl ?_
            refine V_iconst C (v := nI 1) dX2_valueOf_137 (by decide +kernel) ?_
            refine V_isub C dX2_valueOf_138 ?_
            refine V_iload C dX2_valueOf_139 rfl ?_
            refine V_aload_n C dX2_valueOf_141 rfl ?_
            refine V_getR C fl_X2_36 (ob_K hL) (ob_R hL 11 (la + 12) rfl rfl) rfl dX2_valueOf_142 ?_
            refine V_iload_n C dX2_valueOf_145 rfl ?_
            refine V_iconst C (v := nI 1) dX2_valueOf_146 (by decide +kernel) ?_
            refine V_isub C dX2_valueOf_147 ?_
            refine V_iald C (t1 - 1) (ob_A hL 11 (la + 12) rfl rfl) et (by rw [ob_N hL 11 (la + 12) rfl rfl]; omega) (by rw [ob_N hL 11 (la + 12) rfl rfl]; decide) dX2_valueOf_148 ?_
            refine V_aload_n C dX2_valueOf_149 rfl ?_
            refine V_getR C fl_X2_36 (ob_K hL) (ob_R hL 11 (la + 12) rfl rfl) rfl dX2_valueOf_150 ?_
            refine V_iload_n C dX2_valueOf_153 rfl ?_
            refine V_iald C (t1) (ob_A hL 11 (la + 12) rfl rfl) (by first | rfl | (simp only [nI_add, pk_mul]; done) | (simp only [nI_add, pk_mul]; congr 1; omega)) (by rw [ob_N hL 11 (la + 12) rfl rfl]; omega) (by rw [ob_N hL 11 (la + 12) rfl rfl]; decide) dX2_valueOf_154 ?_
            rw [va_up_self]
            refine V_callS (F := fun _ => True) C (c_join (c := a.1) (by omega) o2' _ _) ms_X2_join ml_X2_60 rfl (by decide) (by decide) (Nat.le_of_ble_eq_true rfl) (fun _ _ => trivial) (fun v _ => clo_T v) rfl dX2_valueOf_155 ?_
            rintro v S' I' J' ⟨hS9, rfl, hI9, hJ9⟩
            obtain rfl := hS9.symm
            obtain rfl := hI9.symm
            obtain rfl := hJ9.symm
            refine V_iast C (t1 - 1) (ob_A hL 11 (la + 12) rfl rfl) et (by rw [ob_N hL 11 (la + 12) rfl rfl]; omega) (by rw [ob_N hL 11 (la + 12) rfl rfl]; decide) dX2_valueOf_158 ?_
            refine V_iincU C dX2_valueOf_159 rfl (hn _ (by decide)) ?_
            refine V_goto C 20 dX2_valueOf_162 (by decide) ?_
            rw [up2_up]
            exact key _ _ es _ _
  have e8 : nI i + nI 1 = nI (i + 1) := nI_add i 1
  refine V_mem (I' := va_up I (la + 12) (I (la + 12))) (J' := J) ?_ rfl ?_
  · funext a
    by_cases e : a = la + 12
    · subst e; rw [va_up_self]
    · rw [va_up_ne _ _ e]
  refine V_iconst C (v := nI 0) dX2_valueOf_0 (by decide +kernel) ?_
  refine V_istore_n C dX2_valueOf_1 (hn _ (by decide)) ?_
  refine V_aload_n C dX2_valueOf_2 rfl ?_
  refine V_getR C fl_X2_21 (ob_K hL) (ob_R hL 6 (la + 7) rfl rfl) rfl dX2_valueOf_3 ?_
  refine V_iload_n C dX2_valueOf_6 rfl ?_
  refine V_iconst C (v := nI 1) dX2_valueOf_7 (by decide +kernel) ?_
  refine V_iadd C dX2_valueOf_8 ?_
  refine V_iald C (i + 1) (ob_A hL 6 (la + 7) rfl rfl) e8 (by rw [ob_N hL 6 (la + 7) rfl rfl]; omega) (by rw [ob_N hL 6 (la + 7) rfl rfl]; decide) dX2_valueOf_9 ?_
  rw [rd _ (la + 7) (by omega), w5]
  refine V_istore C dX2_valueOf_10 (hn _ (by decide)) ?_
  refine V_aload_n C dX2_valueOf_12 rfl ?_
  refine V_getR C fl_X2_21 (ob_K hL) (ob_R hL 6 (la + 7) rfl rfl) rfl dX2_valueOf_13 ?_
  refine V_iload_n C dX2_valueOf_16 rfl ?_
  refine V_iald C (i) (ob_A hL 6 (la + 7) rfl rfl) (by first | rfl | (simp only [nI_add, pk_mul]; done) | (simp only [nI_add, pk_mul]; congr 1; omega)) (by rw [ob_N hL 6 (la + 7) rfl rfl]; omega) (by rw [ob_N hL 6 (la + 7) rfl rfl]; decide) dX2_valueOf_17 ?_
  rw [rd _ (la + 7) (by omega), w4]
  refine V_istore C dX2_valueOf_18 (hn _ (by decide)) ?_
  exact loop w.2.2.2.2 p 0 (I (la + 12)) _ _ hn'.symm w6 hf (by omega) (fun v hv I' hI => hP _ _ _ ⟨by rw [hv, vlC]; exact congrArg (fun z => some (Value.int z)) (rnC_ag (fun _ _ => rfl) w.2.2.2.2 0 _ _ hf (fun _ h => absurd h (Nat.not_lt_zero _))), hI, rfl⟩)
theorem bit_e : ∀ e, e < 16 → ∀ j, j < 4 → ((nI e &&& nI (2 ^ j) = 0) ↔ ¬ ((nI e >>> (nI j &&& 31)) &&& nI 1 = nI 1)) := by decide +kernel
set_option maxRecDepth 100000 in
set_option maxHeartbeats 1000000 in
theorem c_numberFor (hL : Ob S 2 la) (hF : Ob S 0 1140) (hla : la + 12 < 1140 ∨ 1150 < la) {L : List Law} (hC : CL I la L) {k e : Nat} (hk : k < 9) (he : e < 16) : Mn l yX2_numberFor cX2_numberFor 6 (some .int) 2 [.ref la, .int (nI k), .int (nI e), .ref 1146] S I J (fun v I' J' => v = some (.int (lawV L (nI e) k (I 1146))) ∧ (∃ s, I' = va_up I (la + 12) s) ∧ J' = J) := by
  refine Mn.of (by decide) (fun ad => by simp [lg_sl, vv, Value.category]) (fun X P hP hn C => ?_)
  obtain ⟨h1, h2, h3, h4, h5, h6, h7⟩ := hC
  have rd : ∀ s a, a ≠ la + 12 → va_up I (la + 12) s a = I a := fun s a h => va_up_ne _ _ h
  have loop : ∀ (M : List Law) (i p x : Nat) (s : Nat → Int32), cLaws I la i p M → (∀ w ∈ M, lkC w) → i + M.length ≤ 24 → p + cdN M ≤ 1000 → x ≤ i → lawV L (nI e) k (I 1146) = lawV M (nI e) k (I 1146) → V X P 0 0 11 [some (.ref la), some (.int (nI k)), some (.int (nI e)), some (.ref 1146), some (.int (nxI k i M)), some (.int (nI x))] [] S (va_up I (la + 12) s) J := by
    intro M
    induction M with
    | nil =>
      intro i p x s _ _ hi _ hx hv
      have g15 : i ≤ 24 := hi
      by_cases hx24 : 24 ≤ x
      · refine V_iload C dX2_numberFor_11 rfl ?_
        refine V_bipush C (v := nI 24) dX2_numberFor_13 (by decide +kernel) ?_
        refine V_icmp_ge C 79 dX2_numberFor_15 (by decide) (fun h15 => ?_) (fun h15 => absurd (nI_le hx24 (by omega)) h15)
        refine V_iconst C (v := (-1)) dX2_numberFor_79 (by decide +kernel) ?_
        exact V_iret C (Nat.zero_le _) (Nat.zero_le _) dX2_numberFor_80 (hP _ _ _ ⟨by rw [hv]; rfl, ⟨s, rfl⟩, rfl⟩)
      · refine V_iload C dX2_numberFor_11 rfl ?_
        refine V_bipush C (v := nI 24) dX2_numberFor_13 (by decide +kernel) ?_
        refine V_icmp_ge C 79 dX2_numberFor_15 (by decide) (fun h15 => absurd h15 (nI_ge (by omega) (by omega))) (fun h15 => ?_)
        refine V_iload C dX2_numberFor_18 rfl ?_
        refine V_iconst C (v := (-1)) dX2_numberFor_20 (by decide +kernel) ?_
        refine V_icmp_eq C 79 dX2_numberFor_21 (by decide) (fun h21 => ?_) (fun h21 => absurd (rfl) h21)
        refine V_iconst C (v := (-1)) dX2_numberFor_79 (by decide +kernel) ?_
        exact V_iret C (Nat.zero_le _) (Nat.zero_le _) dX2_numberFor_80 (hP _ _ _ ⟨by rw [hv]; rfl, ⟨s, rfl⟩, rfl⟩)
    | cons w M ih =>
      intro i p x s hc hk' hi hp hx hv
      rw [List.length_cons] at hi
      obtain ⟨c1, c2, c3⟩ := hc
      have hp : p + (w.2.2.2.2.length + cdN M) ≤ 1000 := hp
      have hM := fun v hv => hk' v (List.mem_cons_of_mem _ hv)
      by_cases ek : w.1 = k
      · obtain ⟨w1, w2, w3, w4, w5, w6⟩ := id c1
        obtain ⟨q1, q2, q3⟩ := hk' w List.mem_cons_self
        have en : nxI k i (w :: M) = nI i := if_pos ek
        have elv : lawV (w :: M) (nI e) k (I 1146) = if vlC (I 1146) w.2.2.2.2 = 0 then lawV M (nI e) k (I 1146) else numL (nI e) w := if_pos ek
        rw [en]
        rw [elv] at hv
        have c1' : cLaw (va_up I (la + 12) s) la i p w := by
          refine ⟨by rw [rd s _ (by omega)]; exact w1, by rw [rd s _ (by omega)]; exact w2, by rw [rd s _ (by omega)]; exact w3, by rw [rd s _ (by omega)]; exact w4, by rw [rd s _ (by omega)]; exact w5, cxC_cg (rd s _ (by omega)) w6⟩
        have e1146 : va_up I (la + 12) s 1146 = I 1146 := rd s 1146 (by omega)
        have after : ∀ s2, V X P 0 0 31 [some (.ref la), some (.int (nI k)), some (.int (nI e)), some (.ref 1146), some (.int (nI i)), some (.int (nI x))] [.int (vlC (I 1146) w.2.2.2.2)] S (va_up I (la + 12) s2) J := by
          intro s2
          by_cases hv0 : vlC (I 1146) w.2.2.2.2 = 0
          · rw [if_pos hv0] at hv
            have nx := ih (i + 1) _ (x + 1) s2 c3 hM (by omega) (by omega) (by omega) hv
            rw [← ek, ← c2] at nx
            refine V_if_eq C 64 dX2_numberFor_31 (by decide) (fun h31 => ?_) (fun h31 => absurd (hv0) h31)
            refine V_aload_n C dX2_numberFor_64 rfl ?_
            refine V_getR C fl_X2_24 (ob_K hL) (ob_R hL 7 (la + 8) rfl rfl) rfl dX2_numberFor_65 ?_
            refine V_iload C dX2_numberFor_68 rfl ?_
            refine V_iald C (i) (ob_A hL 7 (la + 8) rfl rfl) (by first | rfl | (simp only [nI_add, pk_mul]; done) | (simp only [nI_add, pk_mul]; congr 1; omega)) (by rw [ob_N hL 7 (la + 8) rfl rfl]; omega) (by rw [ob_N hL 7 (la + 8) rfl rfl]; decide) dX2_numberFor_70 ?_
            rw [rd s2 _ (by omega)]
            refine V_istore C dX2_numberFor_71 (hn _ (by decide)) ?_
            refine V_iincU C dX2_numberFor_73 rfl (hn _ (by decide)) ?_
            refine V_goto C 11 dX2_numberFor_76 (by decide) ?_
            rw [← ek]
            exact nx
          · rw [if_neg hv0] at hv
            have lf : numL (nI e) w = if nI e &&& I (la + 6) i = 0 then I (la + 4) i else I (la + 5) i := by
              rw [w1, w2, w3]
              unfold numL obV
              cases ho : w.2.2.2.1 with
              | none =>
                have z : nI e &&& (0 : Int32) = 0 := by rw [show (0 : Int32) = nI 0 from rfl, pk_andN (m := nI 0) (by omega) 0 (by decide), Nat.pow_zero, Nat.mod_one]
                exact (if_pos z).symm
              | some j =>
                have b := bit_e e he j (q3 j ho)
                by_cases g : (nI e >>> (nI j &&& 31)) &&& nI 1 = nI 1
                · dsimp only
                  rw [if_pos g, if_neg (fun q => b.mp q g)]
                · dsimp only
                  rw [if_neg g, if_pos (b.mpr g)]
            refine V_if_eq C 64 dX2_numberFor_31 (by decide) (fun h31 => absurd h31 (hv0)) (fun h31 => ?_)
            refine V_iload_n C dX2_numberFor_34 rfl ?_
            refine V_aload_n C dX2_numberFor_35 rfl ?_
            refine V_getR C fl_X2_18 (ob_K hL) (ob_R hL 5 (la + 6) rfl rfl) rfl dX2_numberFor_36 ?_
            refine V_iload C dX2_numberFor_39 rfl ?_
            refine V_iald C (i) (ob_A hL 5 (la + 6) rfl rfl) (by first | rfl | (simp only [nI_add, pk_mul]; done) | (simp only [nI_add, pk_mul]; congr 1; omega)) (by rw [ob_N hL 5 (la + 6) rfl rfl]; omega) (by rw [ob_N hL 5 (la + 6) rfl rfl]; decide) dX2_numberFor_41 ?_
            rw [rd s2 (la + 6) (by omega)]
            refine V_iand C dX2_numberFor_42 ?_
            refine V_if_eq C 56 dX2_numberFor_43 (by decide) (fun h43 => ?_) (fun h43 => ?_)
            · refine V_aload_n C dX2_numberFor_56 rfl ?_
              refine V_getR C fl_X2_11 (ob_K hL) (ob_R hL 3 (la + 4) rfl rfl) rfl dX2_numberFor_57 ?_
              refine V_iload C dX2_numberFor_60 rfl ?_
              refine V_iald C (i) (ob_A hL 3 (la + 4) rfl rfl) (by first | rfl | (simp only [nI_add, pk_mul]; done) | (simp only [nI_add, pk_mul]; congr 1; omega)) (by rw [ob_N hL 3 (la + 4) rfl rfl]; omega) (by rw [ob_N hL 3 (la + 4) rfl rfl]; decide) dX2_numberFor_62 ?_
              first | rw [rd s2 (la + 4) (by omega)] | skip
              exact V_iret C (Nat.zero_le _) (Nat.zero_le _) dX2_numberFor_63 (hP _ _ _ ⟨by rw [hv, lf]; first | rw [if_pos h43] | rw [if_neg h43], ⟨s2, rfl⟩, rfl⟩)
            · refine V_aload_n C dX2_numberFor_46 rfl ?_
              refine V_getR C fl_X2_15 (ob_K hL) (ob_R hL 4 (la + 5) rfl rfl) rfl dX2_numberFor_47 ?_
              refine V_iload C dX2_numberFor_50 rfl ?_
              refine V_iald C (i) (ob_A hL 4 (la + 5) rfl rfl) (by first | rfl | (simp only [nI_add, pk_mul]; done) | (simp only [nI_add, pk_mul]; congr 1; omega)) (by rw [ob_N hL 4 (la + 5) rfl rfl]; omega) (by rw [ob_N hL 4 (la + 5) rfl rfl]; decide) dX2_numberFor_52 ?_
              rw [rd s2 (la + 5) (by omega)]
              refine V_goto C 63 dX2_numberFor_53 (by decide) ?_
              first | rw [rd s2 (la + 4) (by omega)] | skip
              exact V_iret C (Nat.zero_le _) (Nat.zero_le _) dX2_numberFor_63 (hP _ _ _ ⟨by rw [hv, lf]; first | rw [if_pos h43] | rw [if_neg h43], ⟨s2, rfl⟩, rfl⟩)
        refine V_iload C dX2_numberFor_11 rfl ?_
        refine V_bipush C (v := nI 24) dX2_numberFor_13 (by decide +kernel) ?_
        refine V_icmp_ge C 79 dX2_numberFor_15 (by decide) (fun h15 => absurd h15 (nI_ge (by omega) (by omega))) (fun h15 => ?_)
        refine V_iload C dX2_numberFor_18 rfl ?_
        refine V_iconst C (v := (-1)) dX2_numberFor_20 (by decide +kernel) ?_
        refine V_icmp_eq C 79 dX2_numberFor_21 (by decide) (fun h21 => absurd h21 (fun q => nI_pos (n := i) (by omega) (by rw [q]; decide))) (fun h21 => ?_)
        refine V_aload_n C dX2_numberFor_24 rfl ?_
        refine V_iload C dX2_numberFor_25 rfl ?_
        refine V_aload_n C dX2_numberFor_27 rfl ?_
        refine V_callV (F := fun _ => True) C (c_valueOf hL hF hla (i := i) (p := p) (w := w) (by omega) c1' (by omega) q2) mi_X2_valueOf ml_X2_56 rfl (ob_K hL) (by decide) (by decide) (by decide) (Nat.le_of_ble_eq_true rfl) (fun _ _ => trivial) (fun v _ => clo_T v) rfl dX2_numberFor_28 ?_
        rintro v S' I2 J2 ⟨hS9, rfl, ⟨s2, hI9⟩, hJ9⟩
        obtain rfl := hS9.symm
        obtain rfl := hJ9.symm
        rw [va_up_up] at hI9
        subst hI9
        rw [e1146]
        exact after _
      · have en : nxI k i (w :: M) = nxI k (i + 1) M := if_neg ek
        have elv : lawV (w :: M) (nI e) k (I 1146) = lawV M (nI e) k (I 1146) := if_neg ek
        rw [en]
        exact ih (i + 1) _ x s c3 hM (by omega) (by omega) (by omega) (hv.trans elv)
  refine V_mem (I' := va_up I (la + 12) (I (la + 12))) (J' := J) ?_ rfl ?_
  · funext a
    by_cases e : a = la + 12
    · subst e; rw [va_up_self]
    · rw [va_up_ne _ _ e]
  refine V_aload_n C dX2_numberFor_0 rfl ?_
  refine V_getR C fl_X2_27 (ob_K hL) (ob_R hL 8 (la + 9) rfl rfl) rfl dX2_numberFor_1 ?_
  refine V_iload_n C dX2_numberFor_4 rfl ?_
  refine V_iald C (k) (ob_A hL 8 (la + 9) rfl rfl) (by first | rfl | (simp only [nI_add, pk_mul]; done) | (simp only [nI_add, pk_mul]; congr 1; omega)) (by rw [ob_N hL 8 (la + 9) rfl rfl]; omega) (by rw [ob_N hL 8 (la + 9) rfl rfl]; decide) dX2_numberFor_5 ?_
  rw [rd _ (la + 9) (by omega), h3 k hk]
  refine V_istore C dX2_numberFor_6 (hn _ (by decide)) ?_
  refine V_iconst C (v := nI 0) dX2_numberFor_8 (by decide +kernel) ?_
  refine V_istore C dX2_numberFor_9 (hn _ (by decide)) ?_
  exact loop L 0 0 0 _ h6 h7 (by omega) (by omega) (Nat.le_refl _) rfl
theorem nxI_n {k : Nat} {g : Int32} {f : Nat → Int32} : ∀ (L : List Law) (i : Nat), i + L.length ≤ 24 → nxI k i L = -1 → lawV L g k f = -1 := by
  intro L
  induction L with
  | nil => intro i _ _; rfl
  | cons w L ih =>
    intro i hi h
    rw [List.length_cons] at hi
    unfold nxI at h
    by_cases e : w.1 = k
    · rw [if_pos e] at h
      exact absurd (show nI i < 0 by rw [h]; decide) (nI_pos (by omega))
    · rw [if_neg e] at h
      rw [lawV, if_neg e]
      exact ih _ (by omega) h
set_option maxRecDepth 100000 in
theorem c_hasNone (hL : Ob S 2 la) {L : List Law} (hC : CL I la L) {k : Nat} (hk : k < 9) : Mn l yX2_hasNone cX2_hasNone 2 (some .boolean) 0 [.ref la, .int (nI k)] S I J (fun v I' J' => v = some (.int (bI (nxI k 0 L = -1))) ∧ I' = I ∧ J' = J) := by
  refine Mn.of (by decide) (fun ad => by simp [lg_sl, vv, Value.category]) (fun X P hP hn C => ?_)
  have e := hC.2.2.1 k hk
  refine V_aload_n C dX2_hasNone_0 rfl ?_
  refine V_getR C fl_X2_27 (ob_K hL) (ob_R hL 8 (la + 9) rfl rfl) rfl dX2_hasNone_1 ?_
  refine V_iload_n C dX2_hasNone_4 rfl ?_
  refine V_iald C (k) (ob_A hL 8 (la + 9) rfl rfl) (by first | rfl | (simp only [nI_add, pk_mul]; done) | (simp only [nI_add, pk_mul]; congr 1; omega)) (by rw [ob_N hL 8 (la + 9) rfl rfl]; omega) (by rw [ob_N hL 8 (la + 9) rfl rfl]; decide) dX2_hasNone_5 ?_
  refine V_iconst C (v := (-1)) dX2_hasNone_6 (by decide +kernel) ?_
  refine V_icmp_ne C 14 dX2_hasNone_7 (by decide) (fun h7 => ?_) (fun h7 => ?_)
  · refine V_iconst C (v := nI 0) dX2_hasNone_14 (by decide +kernel) ?_
    exact V_zret C (by first | exact Or.inl rfl | exact Or.inr rfl | (simp only [bI]; split <;> first | exact Or.inl rfl | exact Or.inr rfl) | assumption) (Nat.zero_le _) (Nat.zero_le _) dX2_hasNone_15 (hP _ _ _ ⟨by first | (rw [bI_f (fun q => h7 (e.trans q))]; rfl) | (rw [bI_t (e.symm.trans h7)]; rfl), rfl, rfl⟩)
  · refine V_iconst C (v := nI 1) dX2_hasNone_10 (by decide +kernel) ?_
    refine V_goto C 15 dX2_hasNone_11 (by decide) ?_
    exact V_zret C (by first | exact Or.inl rfl | exact Or.inr rfl | (simp only [bI]; split <;> first | exact Or.inl rfl | exact Or.inr rfl) | assumption) (Nat.zero_le _) (Nat.zero_le _) dX2_hasNone_15 (hP _ _ _ ⟨by first | (rw [bI_f (fun q => h7 (e.trans q))]; rfl) | (rw [bI_t (e.symm.trans h7)]; rfl), rfl, rfl⟩)
set_option maxRecDepth 100000 in
theorem c_howManyEnds (hL : Ob S 2 la) {L : List Law} (hC : CL I la L) : Mn l yX2_howManyEnds cX2_howManyEnds 1 (some .int) 0 [.ref la] S I J (fun v I' J' => v = some (.int (nI 1 <<< (nI (opN L) &&& 31))) ∧ I' = I ∧ J' = J) := by
  refine Mn.of (by decide) (fun ad => by simp [lg_sl, vv, Value.category]) (fun X P hP hn C => ?_)
  refine V_iconst C (v := nI 1) dX2_howManyEnds_0 (by decide +kernel) ?_
  refine V_aload_n C dX2_howManyEnds_1 rfl ?_
  refine V_getI C fl_X2_46 (ob_K hL) rfl dX2_howManyEnds_2 ?_
  refine V_ishl C dX2_howManyEnds_5 ?_
  exact V_iret C (Nat.zero_le _) (Nat.zero_le _) dX2_howManyEnds_6 (hP _ _ _ ⟨by rw [hC.2.1], rfl, rfl⟩)
end C5
