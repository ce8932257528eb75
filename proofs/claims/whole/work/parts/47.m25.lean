/-! the reference reads an E -/
section M25
variable {l : Launch} {S : HS} {I I' : HI} {J J' : HJ} {z : SV}
abbrev Cds : Type := List (Nat × Int32)
abbrev PR : Type := Except Int32 (Cds × Nat)
abbrev isSP (K : List Tok) (a : Nat) (c : Nat) : Prop := (tk K a).1 = 3 ∧ (tk K a).2.2.1 = (nI c).toInt64
abbrev isWP (K : List Tok) (a : Nat) (w : Nat) : Prop := (tk K a).1 = 1 ∧ (tk K a).2.2.1 = wdV.getD w 0
def errP (K : List Tok) (a w : Nat) : Int32 := nI (w + 16 * (tk K a).2.1)
def selP (p q : Nat → Prop) [DecidablePred p] [DecidablePred q] (x y : Nat) (a : Nat) : Option Nat := if p a then some x else if q a then some y else none
def binL (sel : Nat → Option Nat) (sub : Nat → PR) : Nat → Cds → Nat → PR
  | 0, c, a => .ok (c, a)
  | n + 1, c, a => match sel a with
    | none => .ok (c, a)
    | some op => match sub (a + 1) with
      | .error e => .error e
      | .ok (c', a') => binL sel sub n (c ++ c' ++ [(op, 0)]) a'
def binP (n : Nat) (sel : Nat → Option Nat) (sub : Nat → PR) (a : Nat) : PR := match sub a with
  | .error e => .error e
  | .ok (c, a') => binL sel sub (n - a') c a'
def tstP (sel : Nat → Option Nat) (sub : Nat → PR) (a : Nat) : PR := match sub a with
  | .error e => .error e
  | .ok (c, a') => match sel a' with
    | none => .ok (c, a')
    | some op => match sub (a' + 1) with
      | .error e => .error e
      | .ok (c2, a2) => .ok (c ++ c2 ++ [(op, 0)], a2)
def proP (K : List Tok) (sub : Nat → PR) : Nat → PR := binP K.length (selP (fun a => isSP K a 42) (fun a => isSP K a 47) 6 7) sub
def sumP (K : List Tok) (sub : Nat → PR) : Nat → PR := binP K.length (selP (fun a => isSP K a 43) (fun a => isSP K a 45) 4 5) (proP K sub)
def tesP (K : List Tok) (sub : Nat → PR) : Nat → PR := tstP (selP (fun a => isSP K a 60) (fun a => isSP K a 61) 8 9) (sumP K sub)
def allP (K : List Tok) (sub : Nat → PR) : Nat → PR := binP K.length (selP (fun a => isWP K a 11) (fun a => isWP K a 12) 10 11) (tesP K sub)
/-- the last of n words from w on that the token is, counted from w0 -/
def fwN (K : List Tok) (a w : Nat) : Nat → Int32
  | 0 => -1
  | n + 1 => if isWP K a (w + n) then nI n else fwN K a w n
/-- f levels may be opened -/
def parP (K : List Tok) : Nat → Nat → PR
  | 0, a => if fwN K a 14 9 < 0 ∧ ¬ (tk K a).1 = 2 ∧ ¬ isSP K a 40 ∧ ¬ isWP K a 13 then .error (errP K a 1) else .error (errP K a 5)
  | f + 1, a => if fwN K a 14 9 < 0 ∧ ¬ (tk K a).1 = 2 ∧ ¬ isSP K a 40 ∧ ¬ isWP K a 13 then .error (errP K a 1)
    else if isWP K a 13 then (match parP K f (a + 1) with
      | .error e => .error e
      | .ok (c, a') => .ok (c ++ [(3, 0)], a'))
    else if isSP K a 40 then (match allP K (parP K f) (a + 1) with
      | .error e => .error e
      | .ok (c, a') => if isSP K a' 41 then .ok (c, a' + 1) else .error (errP K a' 1))
    else if (tk K a).1 = 2 then .ok ([(1, (tk K a).2.2.1.toInt32)], a + 1)
    else .ok ([(2, fwN K a 14 9)], a + 1)
/-- tokens and words lie in the reference -/
def EV (I : HI) (J : HJ) (K : List Tok) : Prop := tkG I J K ∧ wfK 1000 K ∧ K.length ≤ 1001 ∧ ∀ i, i < 23 → J 1010 i = wdV.getD i 0
def PSt (I : HI) (nx a q : Nat) (f : Int32) : Prop := I 1000 7 = nI a ∧ I 1000 8 = f ∧ I 1000 11 = nI nx ∧ I 1000 19 = nI q ∧ nx < 2
def PFr (nx q : Nat) (I I' : HI) : Prop := (∀ c, c ≠ 7 → c ≠ 8 → c ≠ 19 → I' 1000 c = I 1000 c) ∧ (∀ a, a ≠ 1000 → a ≠ 1021 → a ≠ 1022 → I' a = I a) ∧ ∀ i, (i < 1100 * nx + q ∨ 1100 * nx + 1100 ≤ i) → I' 1021 i = I 1021 i ∧ I' 1022 i = I 1022 i
theorem PFr.re {nx q : Nat} : PFr nx q I I := ⟨fun _ _ _ _ => rfl, fun _ _ _ _ => rfl, fun _ _ => ⟨rfl, rfl⟩⟩
theorem PFr.tr {nx q q2 : Nat} {I2 : HI} (h : PFr nx q I I2) (hq : q ≤ q2) (g : PFr nx q2 I2 I') : PFr nx q I I' := ⟨fun c h1 h2 h3 => (g.1 c h1 h2 h3).trans (h.1 c h1 h2 h3), fun a h1 h2 h3 => (g.2.1 a h1 h2 h3).trans (h.2.1 a h1 h2 h3), fun i hi => ⟨(g.2.2 i (by omega)).1.trans (h.2.2 i hi).1, (g.2.2 i (by omega)).2.trans (h.2.2 i hi).2⟩⟩
theorem PFr.o {nx q c : Nat} {v : Int32} (h : c = 7 ∨ c = 8 ∨ c = 19) : PFr nx q I (up2 I 1000 c v) := ⟨fun x h1 h2 h3 => o_ne (by omega), fun a h1 _ _ => up2_ne _ _ _ h1, fun _ _ => ⟨rfl, rfl⟩⟩
theorem EV.fr {nx q : Nat} {K : List Tok} (h : EV I J K) (f : PFr nx q I I') : EV I' J K := ⟨fun i hi => by rw [f.2.1 1005 (by decide) (by decide) (by decide), f.2.1 1006 (by decide) (by decide) (by decide)]; exact h.1 i hi, h.2⟩
def mtP (I : HI) : Cds → Nat → Prop
  | [], _ => True
  | c :: l, p => I 1021 p = nI c.1 ∧ I 1022 p = c.2 ∧ mtP I l (p + 1)
theorem mtP_app : ∀ (c c' : Cds) (p : Nat), mtP I c p → mtP I c' (p + c.length) → mtP I (c ++ c') p := by
  intro c
  induction c with
  | nil => intro c' p _ h; exact h
  | cons x c ih =>
    intro c' p h h'
    refine ⟨h.1, h.2.1, ih c' (p + 1) h.2.2 ?_⟩
    rw [List.length_cons] at h'
    rw [show p + 1 + c.length = p + (c.length + 1) by omega]
    exact h'
theorem mtP_cg : ∀ (c : Cds) (p : Nat), (∀ i, p ≤ i → i < p + c.length → I' 1021 i = I 1021 i ∧ I' 1022 i = I 1022 i) → mtP I c p → mtP I' c p := by
  intro c
  induction c with
  | nil => intro p _ _; trivial
  | cons x c ih =>
    intro p h hm
    rw [List.length_cons] at h
    obtain ⟨h1, h2⟩ := h p (Nat.le_refl _) (by omega)
    exact ⟨h1.trans hm.1, h2.trans hm.2.1, ih (p + 1) (fun i g1 g2 => h i (by omega) (by omega)) hm.2.2⟩
/-- what a reader of an E leaves -/
def PPost (nx : Nat) (K : List Tok) (a q : Nat) (I I' : HI) (r : PR) : Prop := match r with
  | .error e => 0 < e ∧ ∃ a' q', a ≤ a' ∧ a' < K.length ∧ q ≤ q' ∧ a + q' ≤ a' + q ∧ PSt I' nx a' q' e ∧ PFr nx q I I'
  | .ok (c, a') => a < a' ∧ a' < K.length ∧ a + c.length ≤ a' ∧ PSt I' nx a' (q + c.length) 0 ∧ mtP I' c (1100 * nx + q) ∧ PFr nx q I I'
/-- a method that reads from the token a on as 'sub' says -/
def MP (y : MethodName) (cc : ByteArray) (nL n d : Nat) (S : HS) (J : HJ) (K : List Tok) (nx : Nat) (sub : Nat → PR) : Prop := ∀ (l : Launch) (I : HI) (a q : Nat), EV I J K → PSt I nx a q 0 → a < K.length → q ≤ a → Mn l y cc nL none n [.ref 1000, .int (nI d)] S I J (fun v I' J' => v = none ∧ PPost nx K a q I I' (sub a) ∧ J' = J)
theorem EV.at {K : List Tok} (h : EV I J K) {a : Nat} (ha : a < K.length) : I 1005 a = nI (tk K a).1 ∧ I 1006 a = nI (tk K a).2.1 ∧ ((tk K a).1 ≠ 0 → J 1007 a = (tk K a).2.2.1) ∧ (tk K a).2.1 ≤ 1000 ∧ (tk K a).1 ≤ 4 ∧ ((tk K a).1 ≠ 0 → a + 1 < K.length) ∧ a < 1001 := by
  obtain ⟨h1, h2, h3⟩ := h.1 a ha
  obtain ⟨g1, g2, g3⟩ := wfK_at K a h.2.1 ha
  exact ⟨h1, h2, h3, g1, g2, g3, Nat.lt_of_lt_of_le ha h.2.2.1⟩
theorem errP_pos {K : List Tok} {a w : Nat} (h : (tk K a).2.1 ≤ 1000) (h0 : 0 < w) (hw : w < 16) : 0 < errP K a w ∧ ¬ errP K a w = 0 := by
  have h1 : nI 0 < errP K a w := nI_lt (by omega) (by omega)
  exact ⟨h1, fun e => nI_ne0 (n := w + 16 * (tk K a).2.1) (by omega) (by omega) e⟩
set_option maxRecDepth 100000 in
theorem m_wrongF (hM : Ob S 7 1000) (w : Int32) (hf : ¬ I 1000 8 = 0) : Mn l yX7_wrong cX7_wrong 2 none 0 [.ref 1000, .int w] S I J (fun v I' J' => v = none ∧ I' = I ∧ J' = J) := by
  refine Mn.of (by decide) (fun ad => by simp [lg_sl, vv, Value.category]) (fun X P hP hn C => ?_)
  refine V_aload_n C dX7_wrong_0 rfl ?_
  refine V_getI C fl_X7_219 (ob_K hM) rfl dX7_wrong_1 ?_
  refine V_if_ne C 25 dX7_wrong_4 (by decide) (fun h4 => ?_) (fun h4 => absurd h4 (hf))
  exact V_vret C (Nat.zero_le _) (Nat.zero_le _) dX7_wrong_25 (hP _ _ _ ⟨rfl, rfl, rfl⟩)
set_option maxRecDepth 100000 in
theorem m_wrong (hM : Ob S 7 1000) {K : List Tok} {nx a q w : Nat} (hE : EV I J K) (hT : PSt I nx a q 0) (ha : a < K.length) : Mn l yX7_wrong cX7_wrong 2 none 0 [.ref 1000, .int (nI w)] S I J (fun v I' J' => v = none ∧ I' = up2 I 1000 8 (errP K a w) ∧ J' = J) := by
  refine Mn.of (by decide) (fun ad => by simp [lg_sl, vv, Value.category]) (fun X P hP hn C => ?_)
  obtain ⟨e1, e2, e3, e4, e5, e6, e7⟩ := hE.at ha
  refine V_aload_n C dX7_wrong_0 rfl ?_
  refine V_getI C fl_X7_219 (ob_K hM) rfl dX7_wrong_1 ?_
  refine V_if_ne C 25 dX7_wrong_4 (by decide) (fun h4 => absurd (hT.2.1) h4) (fun h4 => ?_)
  refine V_aload_n C dX7_wrong_7 rfl ?_
  refine V_iload_n C dX7_wrong_8 rfl ?_
  refine V_bipush C (v := nI 16) dX7_wrong_9 (by decide +kernel) ?_
  refine V_aload_n C dX7_wrong_11 rfl ?_
  refine V_getR C fl_X7_27 (ob_K hM) (ob_R hM 5 1006 rfl rfl) rfl dX7_wrong_12 ?_
  refine V_aload_n C dX7_wrong_15 rfl ?_
  refine V_getI C fl_X7_216 (ob_K hM) rfl dX7_wrong_16 ?_
  refine V_iald C (a) (ob_A hM 5 1006 rfl rfl) hT.1 (by rw [ob_N hM 5 1006 rfl rfl]; omega) (by rw [ob_N hM 5 1006 rfl rfl]; decide) dX7_wrong_19 ?_
  refine V_imul C dX7_wrong_20 ?_
  refine V_iadd C dX7_wrong_21 ?_
  refine V_putI C fl_X7_219 (ob_K hM) rfl rfl dX7_wrong_22 ?_
  exact V_vret C (Nat.zero_le _) (Nat.zero_le _) dX7_wrong_25 (hP _ _ _ ⟨rfl, by rw [e2, pk_mul, nI_add]; rfl, rfl⟩)
set_option maxRecDepth 100000 in
theorem m_isSign (hM : Ob S 7 1000) {K : List Tok} {nx a q c : Nat} {f : Int32} (hE : EV I J K) (hT : PSt I nx a q f) (ha : a < K.length) : Mn l yX7_isSign cX7_isSign 2 (some .boolean) 0 [.ref 1000, .int (nI c)] S I J (fun v I' J' => v = some (.int (bI (f = 0 ∧ isSP K a c))) ∧ I' = I ∧ J' = J) := by
  refine Mn.of (by decide) (fun ad => by simp [lg_sl, vv, Value.category]) (fun X P hP hn C => ?_)
  obtain ⟨e1, e2, e3, e4, e5, e6, e7⟩ := hE.at ha
  have ef := hT.2.1
  have e3' : (tk K a).1 = 3 → J 1007 a = (tk K a).2.2.1 := fun h => e3 (by omega)
  refine V_aload_n C dX7_isSign_0 rfl ?_
  refine V_getI C fl_X7_219 (ob_K hM) rfl dX7_isSign_1 ?_
  rw [ef]
  refine V_if_ne C 39 dX7_isSign_4 (by decide) (fun h4 => ?_) (fun h4 => ?_)
  · refine V_iconst C (v := nI 0) dX7_isSign_39 (by decide +kernel) ?_
    exact V_zret C (by first | exact Or.inl rfl | exact Or.inr rfl | (simp only [bI]; split <;> first | exact Or.inl rfl | exact Or.inr rfl) | assumption) (Nat.zero_le _) (Nat.zero_le _) dX7_isSign_40 (hP _ _ _ ⟨by first | (rw [bI_f (fun q => h4 q.1)]; rfl) | (rw [bI_f (fun q => h17 (by rw [q.2.1]))]; rfl) | (rw [bI_f (fun q => h32 (by rw [e3' q.2.1, q.2.2]; exact (lg_cmp_eq _ _).mpr rfl))]; rfl) | (rw [bI_t ⟨h4, (nI_eq (by omega) (by omega)).mp h17, by rw [← e3' ((nI_eq (by omega) (by omega)).mp h17)]; exact (lg_cmp_eq _ _).mp h32⟩]; rfl), rfl, rfl⟩)
  · refine V_aload_n C dX7_isSign_7 rfl ?_
    refine V_getR C fl_X7_24 (ob_K hM) (ob_R hM 4 1005 rfl rfl) rfl dX7_isSign_8 ?_
    refine V_aload_n C dX7_isSign_11 rfl ?_
    refine V_getI C fl_X7_216 (ob_K hM) rfl dX7_isSign_12 ?_
    refine V_iald C (a) (ob_A hM 4 1005 rfl rfl) hT.1 (by rw [ob_N hM 4 1005 rfl rfl]; omega) (by rw [ob_N hM 4 1005 rfl rfl]; decide) dX7_isSign_15 ?_
    refine V_iconst C (v := nI 3) dX7_isSign_16 (by decide +kernel) ?_
    rw [e1]
    refine V_icmp_ne C 39 dX7_isSign_17 (by decide) (fun h17 => ?_) (fun h17 => ?_)
    · refine V_iconst C (v := nI 0) dX7_isSign_39 (by decide +kernel) ?_
      exact V_zret C (by first | exact Or.inl rfl | exact Or.inr rfl | (simp only [bI]; split <;> first | exact Or.inl rfl | exact Or.inr rfl) | assumption) (Nat.zero_le _) (Nat.zero_le _) dX7_isSign_40 (hP _ _ _ ⟨by first | (rw [bI_f (fun q => h4 q.1)]; rfl) | (rw [bI_f (fun q => h17 (by rw [q.2.1]))]; rfl) | (rw [bI_f (fun q => h32 (by rw [e3' q.2.1, q.2.2]; exact (lg_cmp_eq _ _).mpr rfl))]; rfl) | (rw [bI_t ⟨h4, (nI_eq (by omega) (by omega)).mp h17, by rw [← e3' ((nI_eq (by omega) (by omega)).mp h17)]; exact (lg_cmp_eq _ _).mp h32⟩]; rfl), rfl, rfl⟩)
    · refine V_aload_n C dX7_isSign_20 rfl ?_
      refine V_getR C fl_X7_30 (ob_K hM) (ob_R hM 6 1007 rfl rfl) rfl dX7_isSign_21 ?_
      refine V_aload_n C dX7_isSign_24 rfl ?_
      refine V_getI C fl_X7_216 (ob_K hM) rfl dX7_isSign_25 ?_
      refine V_lald C (a) (ob_A hM 6 1007 rfl rfl) hT.1 (by rw [ob_N hM 6 1007 rfl rfl]; omega) (by rw [ob_N hM 6 1007 rfl rfl]; decide) dX7_isSign_28 ?_
      refine V_iload_n C dX7_isSign_29 rfl ?_
      refine V_i2l C dX7_isSign_30 ?_
      refine V_lcmp C dX7_isSign_31 ?_
      refine V_if_ne C 39 dX7_isSign_32 (by decide) (fun h32 => ?_) (fun h32 => ?_)
      · refine V_iconst C (v := nI 0) dX7_isSign_39 (by decide +kernel) ?_
        exact V_zret C (by first | exact Or.inl rfl | exact Or.inr rfl | (simp only [bI]; split <;> first | exact Or.inl rfl | exact Or.inr rfl) | assumption) (Nat.zero_le _) (Nat.zero_le _) dX7_isSign_40 (hP _ _ _ ⟨by first | (rw [bI_f (fun q => h4 q.1)]; rfl) | (rw [bI_f (fun q => h17 (by rw [q.2.1]))]; rfl) | (rw [bI_f (fun q => h32 (by rw [e3' q.2.1, q.2.2]; exact (lg_cmp_eq _ _).mpr rfl))]; rfl) | (rw [bI_t ⟨h4, (nI_eq (by omega) (by omega)).mp h17, by rw [← e3' ((nI_eq (by omega) (by omega)).mp h17)]; exact (lg_cmp_eq _ _).mp h32⟩]; rfl), rfl, rfl⟩)
      · refine V_iconst C (v := nI 1) dX7_isSign_35 (by decide +kernel) ?_
        refine V_goto C 40 dX7_isSign_36 (by decide) ?_
        exact V_zret C (by first | exact Or.inl rfl | exact Or.inr rfl | (simp only [bI]; split <;> first | exact Or.inl rfl | exact Or.inr rfl) | assumption) (Nat.zero_le _) (Nat.zero_le _) dX7_isSign_40 (hP _ _ _ ⟨by first | (rw [bI_f (fun q => h4 q.1)]; rfl) | (rw [bI_f (fun q => h17 (by rw [q.2.1]))]; rfl) | (rw [bI_f (fun q => h32 (by rw [e3' q.2.1, q.2.2]; exact (lg_cmp_eq _ _).mpr rfl))]; rfl) | (rw [bI_t ⟨h4, (nI_eq (by omega) (by omega)).mp h17, by rw [← e3' ((nI_eq (by omega) (by omega)).mp h17)]; exact (lg_cmp_eq _ _).mp h32⟩]; rfl), rfl, rfl⟩)
set_option maxRecDepth 100000 in
theorem m_isWord (hM : Ob S 7 1000) {K : List Tok} {nx a q w : Nat} {f : Int32} (hw : w < 23) (hE : EV I J K) (hT : PSt I nx a q f) (ha : a < K.length) : Mn l yX7_isWord cX7_isWord 2 (some .boolean) 0 [.ref 1000, .int (nI w)] S I J (fun v I' J' => v = some (.int (bI (f = 0 ∧ isWP K a w))) ∧ I' = I ∧ J' = J) := by
  refine Mn.of (by decide) (fun ad => by simp [lg_sl, vv, Value.category]) (fun X P hP hn C => ?_)
  obtain ⟨e1, e2, e3, e4, e5, e6, e7⟩ := hE.at ha
  have ef := hT.2.1
  have ew := hE.2.2.2 w hw
  have e3' : (tk K a).1 = 1 → J 1007 a = (tk K a).2.2.1 := fun h => e3 (by omega)
  refine V_aload_n C dX7_isWord_0 rfl ?_
  refine V_getI C fl_X7_219 (ob_K hM) rfl dX7_isWord_1 ?_
  rw [ef]
  refine V_if_ne C 43 dX7_isWord_4 (by decide) (fun h4 => ?_) (fun h4 => ?_)
  · refine V_iconst C (v := nI 0) dX7_isWord_43 (by decide +kernel) ?_
    exact V_zret C (by first | exact Or.inl rfl | exact Or.inr rfl | (simp only [bI]; split <;> first | exact Or.inl rfl | exact Or.inr rfl) | assumption) (Nat.zero_le _) (Nat.zero_le _) dX7_isWord_44 (hP _ _ _ ⟨by first | (rw [bI_f (fun q => h4 q.1)]; rfl) | (rw [bI_f (fun q => h17 (by rw [q.2.1]))]; rfl) | (rw [bI_f (fun q => h36 (by rw [e3' q.2.1, q.2.2]; exact (lg_cmp_eq _ _).mpr rfl))]; rfl) | (rw [bI_t ⟨h4, (nI_eq (by omega) (by omega)).mp h17, by rw [← e3' ((nI_eq (by omega) (by omega)).mp h17)]; exact (lg_cmp_eq _ _).mp h36⟩]; rfl), rfl, rfl⟩)
  · refine V_aload_n C dX7_isWord_7 rfl ?_
    refine V_getR C fl_X7_24 (ob_K hM) (ob_R hM 4 1005 rfl rfl) rfl dX7_isWord_8 ?_
    refine V_aload_n C dX7_isWord_11 rfl ?_
    refine V_getI C fl_X7_216 (ob_K hM) rfl dX7_isWord_12 ?_
    refine V_iald C (a) (ob_A hM 4 1005 rfl rfl) hT.1 (by rw [ob_N hM 4 1005 rfl rfl]; omega) (by rw [ob_N hM 4 1005 rfl rfl]; decide) dX7_isWord_15 ?_
    refine V_iconst C (v := nI 1) dX7_isWord_16 (by decide +kernel) ?_
    rw [e1]
    refine V_icmp_ne C 43 dX7_isWord_17 (by decide) (fun h17 => ?_) (fun h17 => ?_)
    · refine V_iconst C (v := nI 0) dX7_isWord_43 (by decide +kernel) ?_
      exact V_zret C (by first | exact Or.inl rfl | exact Or.inr rfl | (simp only [bI]; split <;> first | exact Or.inl rfl | exact Or.inr rfl) | assumption) (Nat.zero_le _) (Nat.zero_le _) dX7_isWord_44 (hP _ _ _ ⟨by first | (rw [bI_f (fun q => h4 q.1)]; rfl) | (rw [bI_f (fun q => h17 (by rw [q.2.1]))]; rfl) | (rw [bI_f (fun q => h36 (by rw [e3' q.2.1, q.2.2]; exact (lg_cmp_eq _ _).mpr rfl))]; rfl) | (rw [bI_t ⟨h4, (nI_eq (by omega) (by omega)).mp h17, by rw [← e3' ((nI_eq (by omega) (by omega)).mp h17)]; exact (lg_cmp_eq _ _).mp h36⟩]; rfl), rfl, rfl⟩)
    · refine V_aload_n C dX7_isWord_20 rfl ?_
      refine V_getR C fl_X7_30 (ob_K hM) (ob_R hM 6 1007 rfl rfl) rfl dX7_isWord_21 ?_
      refine V_aload_n C dX7_isWord_24 rfl ?_
      refine V_getI C fl_X7_216 (ob_K hM) rfl dX7_isWord_25 ?_
      refine V_lald C (a) (ob_A hM 6 1007 rfl rfl) hT.1 (by rw [ob_N hM 6 1007 rfl rfl]; omega) (by rw [ob_N hM 6 1007 rfl rfl]; decide) dX7_isWord_28 ?_
      refine V_aload_n C dX7_isWord_29 rfl ?_
      refine V_getR C fl_X7_80 (ob_K hM) (ob_R hM 9 1010 rfl rfl) rfl dX7_isWord_30 ?_
      refine V_iload_n C dX7_isWord_33 rfl ?_
      refine V_lald C (w) (ob_A hM 9 1010 rfl rfl) (by first | rfl | (simp only [nI_add, pk_mul]; done) | (simp only [nI_add, pk_mul]; congr 1; omega)) (by rw [ob_N hM 9 1010 rfl rfl]; omega) (by rw [ob_N hM 9 1010 rfl rfl]; decide) dX7_isWord_34 ?_
      rw [ew]
      refine V_lcmp C dX7_isWord_35 ?_
      refine V_if_ne C 43 dX7_isWord_36 (by decide) (fun h36 => ?_) (fun h36 => ?_)
      · refine V_iconst C (v := nI 0) dX7_isWord_43 (by decide +kernel) ?_
        exact V_zret C (by first | exact Or.inl rfl | exact Or.inr rfl | (simp only [bI]; split <;> first | exact Or.inl rfl | exact Or.inr rfl) | assumption) (Nat.zero_le _) (Nat.zero_le _) dX7_isWord_44 (hP _ _ _ ⟨by first | (rw [bI_f (fun q => h4 q.1)]; rfl) | (rw [bI_f (fun q => h17 (by rw [q.2.1]))]; rfl) | (rw [bI_f (fun q => h36 (by rw [e3' q.2.1, q.2.2]; exact (lg_cmp_eq _ _).mpr rfl))]; rfl) | (rw [bI_t ⟨h4, (nI_eq (by omega) (by omega)).mp h17, by rw [← e3' ((nI_eq (by omega) (by omega)).mp h17)]; exact (lg_cmp_eq _ _).mp h36⟩]; rfl), rfl, rfl⟩)
      · refine V_iconst C (v := nI 1) dX7_isWord_39 (by decide +kernel) ?_
        refine V_goto C 44 dX7_isWord_40 (by decide) ?_
        exact V_zret C (by first | exact Or.inl rfl | exact Or.inr rfl | (simp only [bI]; split <;> first | exact Or.inl rfl | exact Or.inr rfl) | assumption) (Nat.zero_le _) (Nat.zero_le _) dX7_isWord_44 (hP _ _ _ ⟨by first | (rw [bI_f (fun q => h4 q.1)]; rfl) | (rw [bI_f (fun q => h17 (by rw [q.2.1]))]; rfl) | (rw [bI_f (fun q => h36 (by rw [e3' q.2.1, q.2.2]; exact (lg_cmp_eq _ _).mpr rfl))]; rfl) | (rw [bI_t ⟨h4, (nI_eq (by omega) (by omega)).mp h17, by rw [← e3' ((nI_eq (by omega) (by omega)).mp h17)]; exact (lg_cmp_eq _ _).mp h36⟩]; rfl), rfl, rfl⟩)
theorem up_same {I : HI} {c : Nat} {v : Int32} (h : I 1000 c = v) : up2 I 1000 c v = I := by
  funext x
  by_cases e : x = 1000
  · subst e
    rw [up2_row]
    funext y
    by_cases e2 : y = c
    · subst e2; rw [va_up_self, h]
    · rw [va_up_ne _ _ e2]
  · rw [up2_ne _ _ _ e]
set_option maxRecDepth 100000 in
theorem m_takeSign (hM : Ob S 7 1000) {K : List Tok} {nx a q c : Nat} (hE : EV I J K) (hT : PSt I nx a q 0) (ha : a < K.length) : Mn l yX7_takeSign cX7_takeSign 2 none 1 [.ref 1000, .int (nI c)] S I J (fun v I' J' => v = none ∧ I' = (if isSP K a c then up2 I 1000 7 (nI (a + 1)) else up2 I 1000 8 (errP K a 1)) ∧ J' = J) := by
  refine Mn.of (by decide) (fun ad => by simp [lg_sl, vv, Value.category]) (fun X P hP hn C => ?_)
  have e7 : I 1000 7 + nI 1 = nI (a + 1) := by rw [hT.1, nI_add]
  refine V_aload_n C dX7_takeSign_0 rfl ?_
  refine V_iload_n C dX7_takeSign_1 rfl ?_
  refine V_callV (F := fun _ => True) C (m_isSign hM (c := c) hE hT ha) mi_X7_isSign ml_X7_222 rfl (ob_K hM) (by decide) (by decide) (by decide) (Nat.le_of_ble_eq_true rfl) (fun _ _ => trivial) (fun v _ => clo_T v) rfl dX7_takeSign_2 ?_
  rintro v S' I' J' ⟨hS, rfl, hI, hJ⟩
  obtain rfl := hS.symm
  obtain rfl := hI.symm
  obtain rfl := hJ.symm
  refine V_if_eq C 21 dX7_takeSign_5 (by decide) (fun h5 => ?_) (fun h5 => ?_)
  · refine V_aload_n C dX7_takeSign_21 rfl ?_
    refine V_iconst C (v := nI 1) dX7_takeSign_22 (by decide +kernel) ?_
    refine V_callV (F := fun _ => True) C (m_wrong hM hE hT ha) mi_X7_wrong ml_X7_225 rfl (ob_K hM) (by decide) (by decide) (by decide) (Nat.le_of_ble_eq_true rfl) (fun _ _ => trivial) (fun v _ => clo_T v) rfl dX7_takeSign_23 ?_
    rintro v S' I' J' ⟨hS, rfl, hI, hJ⟩
    obtain rfl := hS.symm
    obtain rfl := hI.symm
    obtain rfl := hJ.symm
    exact V_vret C (Nat.zero_le _) (Nat.zero_le _) dX7_takeSign_26 (hP _ _ _ ⟨rfl, by first | rw [if_neg (fun q => bI_0.mp h5 ⟨rfl, q⟩)] | (rw [if_pos (Decidable.not_not.mp (fun q => h5 (bI_0.mpr q))).2, e7]), rfl⟩)
  · refine V_aload_n C dX7_takeSign_8 rfl ?_
    refine V_dup C dX7_takeSign_9 rfl ?_
    refine V_getI C fl_X7_216 (ob_K hM) rfl dX7_takeSign_10 ?_
    refine V_iconst C (v := nI 1) dX7_takeSign_13 (by decide +kernel) ?_
    refine V_iadd C dX7_takeSign_14 ?_
    refine V_putI C fl_X7_216 (ob_K hM) rfl rfl dX7_takeSign_15 ?_
    refine V_goto C 26 dX7_takeSign_18 (by decide) ?_
    exact V_vret C (Nat.zero_le _) (Nat.zero_le _) dX7_takeSign_26 (hP _ _ _ ⟨rfl, by first | rw [if_neg (fun q => bI_0.mp h5 ⟨rfl, q⟩)] | (rw [if_pos (Decidable.not_not.mp (fun q => h5 (bI_0.mpr q))).2, e7]), rfl⟩)
set_option maxRecDepth 100000 in
theorem m_takeSignF (hM : Ob S 7 1000) {K : List Tok} {nx a q c : Nat} {f : Int32} (hf : ¬ f = 0) (hE : EV I J K) (hT : PSt I nx a q f) (ha : a < K.length) : Mn l yX7_takeSign cX7_takeSign 2 none 1 [.ref 1000, .int (nI c)] S I J (fun v I' J' => v = none ∧ I' = I ∧ J' = J) := by
  refine Mn.of (by decide) (fun ad => by simp [lg_sl, vv, Value.category]) (fun X P hP hn C => ?_)
  refine V_aload_n C dX7_takeSign_0 rfl ?_
  refine V_iload_n C dX7_takeSign_1 rfl ?_
  refine V_callV (F := fun _ => True) C (m_isSign hM (c := c) hE hT ha) mi_X7_isSign ml_X7_222 rfl (ob_K hM) (by decide) (by decide) (by decide) (Nat.le_of_ble_eq_true rfl) (fun _ _ => trivial) (fun v _ => clo_T v) rfl dX7_takeSign_2 ?_
  rintro v S' I' J' ⟨hS, rfl, hI, hJ⟩
  obtain rfl := hS.symm
  obtain rfl := hI.symm
  obtain rfl := hJ.symm
  refine V_if_eq C 21 dX7_takeSign_5 (by decide) (fun h5 => ?_) (fun h5 => absurd (bI_f (fun q => hf q.1)) h5)
  refine V_aload_n C dX7_takeSign_21 rfl ?_
  refine V_iconst C (v := nI 1) dX7_takeSign_22 (by decide +kernel) ?_
  refine V_callV (F := fun _ => True) C (m_wrongF hM _ (by rw [hT.2.1]; exact hf)) mi_X7_wrong ml_X7_225 rfl (ob_K hM) (by decide) (by decide) (by decide) (Nat.le_of_ble_eq_true rfl) (fun _ _ => trivial) (fun v _ => clo_T v) rfl dX7_takeSign_23 ?_
  rintro v S' I' J' ⟨hS, rfl, hI, hJ⟩
  obtain rfl := hS.symm
  obtain rfl := hI.symm
  obtain rfl := hJ.symm
  exact V_vret C (Nat.zero_le _) (Nat.zero_le _) dX7_takeSign_26 (hP _ _ _ ⟨rfl, rfl, rfl⟩)
set_option maxRecDepth 100000 in
theorem m_hasSign (hM : Ob S 7 1000) {K : List Tok} {nx a q c : Nat} {f : Int32} (hE : EV I J K) (hT : PSt I nx a q f) (ha : a < K.length) : Mn l yX7_hasSign cX7_hasSign 3 (some .boolean) 1 [.ref 1000, .int (nI c)] S I J (fun v I' J' => v = some (.int (bI (f = 0 ∧ isSP K a c))) ∧ I' = (if f = 0 ∧ isSP K a c then up2 I 1000 7 (nI (a + 1)) else I) ∧ J' = J) := by
  refine Mn.of (by decide) (fun ad => by simp [lg_sl, vv, Value.category]) (fun X P hP hn C => ?_)
  have e7 : I 1000 7 + nI 1 = nI (a + 1) := by rw [hT.1, nI_add]
  have e70 : I 1000 7 + nI 0 = nI a := by rw [hT.1, nI_add]; rfl
  refine V_aload_n C dX7_hasSign_0 rfl ?_
  refine V_iload_n C dX7_hasSign_1 rfl ?_
  refine V_callV (F := fun _ => True) C (m_isSign hM (c := c) hE hT ha) mi_X7_isSign ml_X7_222 rfl (ob_K hM) (by decide) (by decide) (by decide) (Nat.le_of_ble_eq_true rfl) (fun _ _ => trivial) (fun v _ => clo_T v) rfl dX7_hasSign_2 ?_
  rintro v S' I' J' ⟨hS, rfl, hI, hJ⟩
  obtain rfl := hS.symm
  obtain rfl := hI.symm
  obtain rfl := hJ.symm
  refine V_istore_n C dX7_hasSign_5 (hn _ (by decide)) ?_
  refine V_aload_n C dX7_hasSign_6 rfl ?_
  refine V_dup C dX7_hasSign_7 rfl ?_
  refine V_getI C fl_X7_216 (ob_K hM) rfl dX7_hasSign_8 ?_
  refine V_iload_n C dX7_hasSign_11 rfl ?_
  refine V_if_eq C 19 dX7_hasSign_12 (by decide) (fun h12 => ?_) (fun h12 => ?_)
  · refine V_iconst C (v := nI 0) dX7_hasSign_19 (by decide +kernel) ?_
    refine V_iadd C dX7_hasSign_20 ?_
    refine V_putI C fl_X7_216 (ob_K hM) rfl rfl dX7_hasSign_21 ?_
    refine V_iload_n C dX7_hasSign_24 rfl ?_
    exact V_zret C (by first | exact Or.inl rfl | exact Or.inr rfl | (simp only [bI]; split <;> first | exact Or.inl rfl | exact Or.inr rfl) | assumption) (Nat.zero_le _) (Nat.zero_le _) dX7_hasSign_25 (hP _ _ _ ⟨rfl, by first | rw [if_neg (bI_0.mp h12), e70, up_same hT.1] | rw [if_pos (Decidable.not_not.mp (fun q => h12 (bI_0.mpr q))), e7], rfl⟩)
  · refine V_iconst C (v := nI 1) dX7_hasSign_15 (by decide +kernel) ?_
    refine V_goto C 20 dX7_hasSign_16 (by decide) ?_
    refine V_iadd C dX7_hasSign_20 ?_
    refine V_putI C fl_X7_216 (ob_K hM) rfl rfl dX7_hasSign_21 ?_
    refine V_iload_n C dX7_hasSign_24 rfl ?_
    exact V_zret C (by first | exact Or.inl rfl | exact Or.inr rfl | (simp only [bI]; split <;> first | exact Or.inl rfl | exact Or.inr rfl) | assumption) (Nat.zero_le _) (Nat.zero_le _) dX7_hasSign_25 (hP _ _ _ ⟨rfl, by first | rw [if_neg (bI_0.mp h12), e70, up_same hT.1] | rw [if_pos (Decidable.not_not.mp (fun q => h12 (bI_0.mpr q))), e7], rfl⟩)
set_option maxRecDepth 100000 in
theorem m_hasWord (hM : Ob S 7 1000) {K : List Tok} {nx a q w : Nat} {f : Int32} (hw : w < 23) (hE : EV I J K) (hT : PSt I nx a q f) (ha : a < K.length) : Mn l yX7_hasWord cX7_hasWord 3 (some .boolean) 1 [.ref 1000, .int (nI w)] S I J (fun v I' J' => v = some (.int (bI (f = 0 ∧ isWP K a w))) ∧ I' = (if f = 0 ∧ isWP K a w then up2 I 1000 7 (nI (a + 1)) else I) ∧ J' = J) := by
  refine Mn.of (by decide) (fun ad => by simp [lg_sl, vv, Value.category]) (fun X P hP hn C => ?_)
  have e7 : I 1000 7 + nI 1 = nI (a + 1) := by rw [hT.1, nI_add]
  have e70 : I 1000 7 + nI 0 = nI a := by rw [hT.1, nI_add]; rfl
  refine V_aload_n C dX7_hasWord_0 rfl ?_
  refine V_iload_n C dX7_hasWord_1 rfl ?_
  refine V_callV (F := fun _ => True) C (m_isWord hM (w := w) hw hE hT ha) mi_X7_isWord ml_X7_228 rfl (ob_K hM) (by decide) (by decide) (by decide) (Nat.le_of_ble_eq_true rfl) (fun _ _ => trivial) (fun v _ => clo_T v) rfl dX7_hasWord_2 ?_
  rintro v S' I' J' ⟨hS, rfl, hI, hJ⟩
  obtain rfl := hS.symm
  obtain rfl := hI.symm
  obtain rfl := hJ.symm
  refine V_istore_n C dX7_hasWord_5 (hn _ (by decide)) ?_
  refine V_aload_n C dX7_hasWord_6 rfl ?_
  refine V_dup C dX7_hasWord_7 rfl ?_
  refine V_getI C fl_X7_216 (ob_K hM) rfl dX7_hasWord_8 ?_
  refine V_iload_n C dX7_hasWord_11 rfl ?_
  refine V_if_eq C 19 dX7_hasWord_12 (by decide) (fun h12 => ?_) (fun h12 => ?_)
  · refine V_iconst C (v := nI 0) dX7_hasWord_19 (by decide +kernel) ?_
    refine V_iadd C dX7_hasWord_20 ?_
    refine V_putI C fl_X7_216 (ob_K hM) rfl rfl dX7_hasWord_21 ?_
    refine V_iload_n C dX7_hasWord_24 rfl ?_
    exact V_zret C (by first | exact Or.inl rfl | exact Or.inr rfl | (simp only [bI]; split <;> first | exact Or.inl rfl | exact Or.inr rfl) | assumption) (Nat.zero_le _) (Nat.zero_le _) dX7_hasWord_25 (hP _ _ _ ⟨rfl, by first | rw [if_neg (bI_0.mp h12), e70, up_same hT.1] | rw [if_pos (Decidable.not_not.mp (fun q => h12 (bI_0.mpr q))), e7], rfl⟩)
  · refine V_iconst C (v := nI 1) dX7_hasWord_15 (by decide +kernel) ?_
    refine V_goto C 20 dX7_hasWord_16 (by decide) ?_
    refine V_iadd C dX7_hasWord_20 ?_
    refine V_putI C fl_X7_216 (ob_K hM) rfl rfl dX7_hasWord_21 ?_
    refine V_iload_n C dX7_hasWord_24 rfl ?_
    exact V_zret C (by first | exact Or.inl rfl | exact Or.inr rfl | (simp only [bI]; split <;> first | exact Or.inl rfl | exact Or.inr rfl) | assumption) (Nat.zero_le _) (Nat.zero_le _) dX7_hasWord_25 (hP _ _ _ ⟨rfl, by first | rw [if_neg (bI_0.mp h12), e70, up_same hT.1] | rw [if_pos (Decidable.not_not.mp (fun q => h12 (bI_0.mpr q))), e7], rfl⟩)
/-- codes behind codes -/
def emI (I : HI) (nx q : Nat) (c v : Int32) : HI := up2 (up2 (up2 I 1021 (1100 * nx + q) c) 1022 (1100 * nx + q) v) 1000 19 (nI (q + 1))
set_option maxRecDepth 100000 in
theorem m_emit (hM : Ob S 7 1000) {nx a q : Nat} {f : Int32} (hT : PSt I nx a q f) (hq : q < 1100) (c v : Int32) : Mn l yX7_emit cX7_emit 3 none 0 [.ref 1000, .int c, .int v] S I J (fun r I' J' => r = none ∧ I' = emI I nx q c v ∧ J' = J) := by
  refine Mn.of (by decide) (fun ad => by simp [lg_sl, vv, Value.category]) (fun X P hP hn C => ?_)
  obtain ⟨s1, s2, s3, s4, s5⟩ := hT
  have e1 : nI 1100 * I 1000 11 + I 1000 19 = nI (1100 * nx + q) := by rw [s3, s4, pk_mul, nI_add]
  have e2 : I 1000 19 + nI 1 = nI (q + 1) := by rw [s4, nI_add]
  refine V_aload_n C dX7_emit_0 rfl ?_
  refine V_getR C fl_X7_104 (ob_K hM) (ob_R hM 20 1021 rfl rfl) rfl dX7_emit_1 ?_
  refine V_sipush C (v := nI 1100) dX7_emit_4 (by decide +kernel) ?_
  refine V_aload_n C dX7_emit_7 rfl ?_
  refine V_getI C fl_X7_234 (ob_K hM) rfl dX7_emit_8 ?_
  refine V_imul C dX7_emit_11 ?_
  refine V_aload_n C dX7_emit_12 rfl ?_
  refine V_getI C fl_X7_237 (ob_K hM) rfl dX7_emit_13 ?_
  refine V_iadd C dX7_emit_16 ?_
  refine V_iload_n C dX7_emit_17 rfl ?_
  refine V_iast C (1100 * nx + q) (ob_A hM 20 1021 rfl rfl) e1 (by rw [ob_N hM 20 1021 rfl rfl]; omega) (by rw [ob_N hM 20 1021 rfl rfl]; decide) dX7_emit_18 ?_
  refine V_aload_n C dX7_emit_19 rfl ?_
  refine V_getR C fl_X7_107 (ob_K hM) (ob_R hM 21 1022 rfl rfl) rfl dX7_emit_20 ?_
  refine V_sipush C (v := nI 1100) dX7_emit_23 (by decide +kernel) ?_
  refine V_aload_n C dX7_emit_26 rfl ?_
  refine V_getI C fl_X7_234 (ob_K hM) rfl dX7_emit_27 ?_
  refine V_imul C dX7_emit_30 ?_
  refine V_aload_n C dX7_emit_31 rfl ?_
  refine V_getI C fl_X7_237 (ob_K hM) rfl dX7_emit_32 ?_
  refine V_iadd C dX7_emit_35 ?_
  refine V_iload_n C dX7_emit_36 rfl ?_
  refine V_iast C (1100 * nx + q) (ob_A hM 21 1022 rfl rfl) e1 (by rw [ob_N hM 21 1022 rfl rfl]; omega) (by rw [ob_N hM 21 1022 rfl rfl]; decide) dX7_emit_37 ?_
  refine V_aload_n C dX7_emit_38 rfl ?_
  refine V_dup C dX7_emit_39 rfl ?_
  refine V_getI C fl_X7_237 (ob_K hM) rfl dX7_emit_40 ?_
  refine V_iconst C (v := nI 1) dX7_emit_43 (by decide +kernel) ?_
  refine V_iadd C dX7_emit_44 ?_
  refine V_putI C fl_X7_237 (ob_K hM) rfl rfl dX7_emit_45 ?_
  exact V_vret C (Nat.zero_le _) (Nat.zero_le _) dX7_emit_48 (hP _ _ _ ⟨rfl, by show up2 (up2 (up2 I 1021 (1100 * nx + q) c) 1022 (1100 * nx + q) v) 1000 19 (I 1000 19 + nI 1) = _; rw [e2]; rfl, rfl⟩)
theorem emI_st {nx a q : Nat} {f c v : Int32} (h : PSt I nx a q f) : PSt (emI I nx q c v) nx a (q + 1) f := ⟨(o_ne (by decide)).trans h.1, (o_ne (by decide)).trans h.2.1, (o_ne (by decide)).trans h.2.2.1, o_at, h.2.2.2.2⟩
theorem emI_fr {nx q : Nat} {c v : Int32} (hq : q < 1100) : PFr nx q I (emI I nx q c v) := ⟨fun x _ _ h => o_ne h, fun a h1 h2 h3 => by unfold emI; rw [up2_ne _ _ _ h1, up2_ne _ _ _ h3, up2_ne _ _ _ h2], fun i hi => ⟨by show va_up (I 1021) (1100 * nx + q) c i = _; rw [va_up_ne _ _ (by omega)], by show va_up (I 1022) (1100 * nx + q) v i = _; rw [va_up_ne _ _ (by omega)]⟩⟩
theorem emI_mt {nx q : Nat} {c : Nat} {v : Int32} : mtP (emI I nx q (nI c) v) [(c, v)] (1100 * nx + q) := ⟨by show va_up (I 1021) (1100 * nx + q) (nI c) _ = _; rw [va_up_self], by show va_up (I 1022) (1100 * nx + q) v _ = _; rw [va_up_self], trivial⟩
theorem st_at {nx a q : Nat} {f : Int32} {b : Nat} (h : PSt I nx a q f) : PSt (up2 I 1000 7 (nI b)) nx b q f := ⟨o_at, (o_ne (by decide)).trans h.2.1, (o_ne (by decide)).trans h.2.2.1, (o_ne (by decide)).trans h.2.2.2.1, h.2.2.2.2⟩
theorem st_f {nx a q : Nat} {f g : Int32} (h : PSt I nx a q f) : PSt (up2 I 1000 8 g) nx a q g := ⟨(o_ne (by decide)).trans h.1, o_at, (o_ne (by decide)).trans h.2.2.1, (o_ne (by decide)).trans h.2.2.2.1, h.2.2.2.2⟩
theorem pos_ne {e : Int32} (h : 0 < e) : ¬ e = 0 := fun q => by rw [q] at h; exact absurd h (by decide)
theorem selP_s {p q : Nat → Prop} [DecidablePred p] [DecidablePred q] {x y a : Nat} (h : ¬ (¬ p a ∧ ¬ q a)) : selP p q x y a = some (if p a then x else y) := by
  unfold selP
  by_cases h1 : p a
  · rw [if_pos h1, if_pos h1]
  · rw [if_neg h1, if_neg h1, if_pos (Decidable.not_not.mp (fun h2 => h ⟨h1, h2⟩))]
theorem selP_n {p q : Nat → Prop} [DecidablePred p] [DecidablePred q] {x y a : Nat} (h1 : ¬ p a) (h2 : ¬ q a) : selP p q x y a = none := by
  unfold selP
  rw [if_neg h1, if_neg h2]
set_option maxRecDepth 100000 in
set_option maxHeartbeats 1000000 in
theorem m_products (hM : Ob S 7 1000) {K : List Tok} {nx d n : Nat} {sub : Nat → PR} (hsub : MP yX7_takePart cX7_takePart 4 n d S J K nx sub) : MP yX7_products cX7_products 3 (n + 1) d S J K nx (binP K.length (selP (fun a => isSP K a 42) (fun a => isSP K a 47) 6 7) sub) := by
  intro l I a q hE hT ha hqa
  refine Mn.of (by decide) (fun ad => by simp [lg_sl, vv, Value.category]) (fun X P hP hn C => ?_)
  obtain ⟨sel, hsel⟩ : ∃ sel, sel = selP (fun a => isSP K a 42) (fun a => isSP K a 47) 6 7 := ⟨_, rfl⟩
  rw [← hsel] at hP
  have rF : (rmk n).frames + 1 ≤ (rmk (n + 1)).frames ∧ 8 + (4 + 11) + (rmk n).locals ≤ (rmk (n + 1)).locals := ⟨Nat.le_refl _, by show 8 + (4 + 11) + 60 * n ≤ 60 * (n + 1); omega⟩
  have rL : ∀ k, k ≤ 3 → (rmk 0).frames + 1 ≤ (rmk (n + 1)).frames ∧ 8 + (k + 11) + (rmk 0).locals ≤ (rmk (n + 1)).locals := fun k hk => ⟨by show 0 + 1 ≤ n + 1; omega, by show 8 + (k + 11) + 60 * 0 ≤ 60 * (n + 1); omega⟩
  -- out of it with a fault
  have bad : ∀ (In : HI) (a' q' : Nat) (e : Int32) (x2 : Option Value), EV In J K → 0 < e → a ≤ a' → a' < K.length → q ≤ q' → a + q' ≤ a' + q → PSt In nx a' q' e → PFr nx q I In → binP K.length sel sub a = .error e → V X P 0 0 5 [some (.ref 1000), some (.int (nI d)), x2] [] S In J := by
    intro In a' q' e x2 hEn he h1 h2 h3 h4 h5 h6 h7
    refine V_aload_n C dX7_products_5 rfl ?_
    refine V_bipush C (v := nI 42) dX7_products_6 (by decide +kernel) ?_
    refine V_callV (F := fun _ => True) C (m_isSign hM (c := 42)  hEn h5 h2) mi_X7_isSign ml_X7_222 rfl (ob_K hM) (by decide) (rL _ (by decide)) ⟨Nat.le_refl 0, Nat.le_refl 0⟩ (Nat.le_of_ble_eq_true rfl) (fun _ _ => trivial) (fun v _ => clo_T v) rfl dX7_products_8 ?_
    rintro v S' I' J' ⟨hS, rfl, hI, hJ⟩
    obtain rfl := hS.symm
    obtain rfl := hI.symm
    obtain rfl := hJ.symm
    refine V_if_ne C 23 dX7_products_11 (by decide) (fun h11 => absurd (bI_f (fun r => pos_ne he r.1)) h11) (fun h11 => ?_)
    refine V_aload_n C dX7_products_14 rfl ?_
    refine V_bipush C (v := nI 47) dX7_products_15 (by decide +kernel) ?_
    refine V_callV (F := fun _ => True) C (m_isSign hM (c := 47)  hEn h5 h2) mi_X7_isSign ml_X7_222 rfl (ob_K hM) (by decide) (rL _ (by decide)) ⟨Nat.le_refl 0, Nat.le_refl 0⟩ (Nat.le_of_ble_eq_true rfl) (fun _ _ => trivial) (fun v _ => clo_T v) rfl dX7_products_17 ?_
    rintro v S' I' J' ⟨hS, rfl, hI, hJ⟩
    obtain rfl := hS.symm
    obtain rfl := hI.symm
    obtain rfl := hJ.symm
    refine V_if_eq C 64 dX7_products_20 (by decide) (fun h20 => ?_) (fun h20 => absurd (bI_f (fun r => pos_ne he r.1)) h20)
    exact V_vret C (Nat.zero_le _) (Nat.zero_le _) dX7_products_64 (hP _ _ _ ⟨rfl, by rw [h7]; exact ⟨he, a', q', h1, h2, h3, h4, h5, h6⟩, rfl⟩)
  have loop : ∀ (m : Nat) (In : HI) (c : Cds) (a' : Nat) (x2 : Option Value), K.length ≤ a' + m → EV In J K → a < a' → a' < K.length → a + c.length ≤ a' → PSt In nx a' (q + c.length) 0 → mtP In c (1100 * nx + q) → PFr nx q I In → binP K.length sel sub a = binL sel sub m c a' → V X P 0 0 5 [some (.ref 1000), some (.int (nI d)), x2] [] S In J := by
    intro m
    induction m with
    | zero => intro In c a' x2 h0 _ _ h2; omega
    | succ m ih =>
      intro In c a' x2 h0 hEn h1 h2 h3 h5 h6 h7 h8
      obtain ⟨-, -, -, -, -, e6, e7⟩ := hEn.at h2
      by_cases hs : ¬ isSP K a' 42 ∧ ¬ isSP K a' 47
      · have es : sel a' = none := by rw [hsel]; exact selP_n (p := fun a => isSP K a 42) (q := fun a => isSP K a 47) hs.1 hs.2
        rw [binL, es] at h8
        refine V_aload_n C dX7_products_5 rfl ?_
        refine V_bipush C (v := nI 42) dX7_products_6 (by decide +kernel) ?_
        refine V_callV (F := fun _ => True) C (m_isSign hM (c := 42)  hEn h5 h2) mi_X7_isSign ml_X7_222 rfl (ob_K hM) (by decide) (rL _ (by decide)) ⟨Nat.le_refl 0, Nat.le_refl 0⟩ (Nat.le_of_ble_eq_true rfl) (fun _ _ => trivial) (fun v _ => clo_T v) rfl dX7_products_8 ?_
        rintro v S' I' J' ⟨hS, rfl, hI, hJ⟩
        obtain rfl := hS.symm
        obtain rfl := hI.symm
        obtain rfl := hJ.symm
        refine V_if_ne C 23 dX7_products_11 (by decide) (fun h11 => absurd (bI_f (fun r => hs.1 r.2)) h11) (fun h11 => ?_)
        refine V_aload_n C dX7_products_14 rfl ?_
        refine V_bipush C (v := nI 47) dX7_products_15 (by decide +kernel) ?_
        refine V_callV (F := fun _ => True) C (m_isSign hM (c := 47)  hEn h5 h2) mi_X7_isSign ml_X7_222 rfl (ob_K hM) (by decide) (rL _ (by decide)) ⟨Nat.le_refl 0, Nat.le_refl 0⟩ (Nat.le_of_ble_eq_true rfl) (fun _ _ => trivial) (fun v _ => clo_T v) rfl dX7_products_17 ?_
        rintro v S' I' J' ⟨hS, rfl, hI, hJ⟩
        obtain rfl := hS.symm
        obtain rfl := hI.symm
        obtain rfl := hJ.symm
        refine V_if_eq C 64 dX7_products_20 (by decide) (fun h20 => ?_) (fun h20 => absurd (bI_f (fun r => hs.2 r.2)) h20)
        exact V_vret C (Nat.zero_le _) (Nat.zero_le _) dX7_products_64 (hP _ _ _ ⟨rfl, by rw [h8]; exact ⟨h1, h2, h3, h5, h6, h7⟩, rfl⟩)
      · have hlt : a' + 1 < K.length := e6 (by
          by_cases g : isSP K a' 42
          · rw [g.1]; decide
          · rw [(Decidable.not_not.mp (fun h => hs ⟨g, h⟩)).1]; decide)
        have es : sel a' = some (if isSP K a' 42 then 6 else 7) := by rw [hsel]; exact selP_s (p := fun a => isSP K a 42) (q := fun a => isSP K a 47) hs
        rw [binL, es] at h8
        have e77 : In 1000 7 + nI 1 = nI (a' + 1) := by rw [h5.1, nI_add]
        have hS2 : PSt (up2 In 1000 7 (nI (a' + 1))) nx (a' + 1) (q + c.length) 0 := st_at h5
        have f2 : PFr nx q I (up2 In 1000 7 (nI (a' + 1))) := h7.tr (Nat.le_refl _) (PFr.o (Or.inl rfl))
        have hE2 := hE.fr f2
        have rest : V X P 0 0 23 [some (.ref 1000), some (.int (nI d)), x2] [] S In J := by
          obtain ⟨b, hb⟩ : ∃ b, b = bI ((0 : Int32) = 0 ∧ isSP K a' 42) := ⟨_, rfl⟩
          have ev : (if b = 0 then nI 7 else nI 6) = nI (if isSP K a' 42 then 6 else 7) := by
            rw [hb]
            by_cases g : isSP K a' 42
            · rw [if_pos g, if_neg (by rw [bI_0]; exact fun r => r ⟨rfl, g⟩)]
            · rw [if_neg g, if_pos (bI_0.mpr (fun r => g r.2))]
          obtain ⟨op, hop⟩ : ∃ op, op = (if isSP K a' 42 then 6 else 7) := ⟨_, rfl⟩
          rw [← hop] at ev h8
          have after : ∀ (I2 : HI), PPost nx K (a' + 1) (q + c.length) (up2 In 1000 7 (nI (a' + 1))) I2 (sub (a' + 1)) → V X P 0 0 45 [some (.ref 1000), some (.int (nI d)), some (.int b)] [] S I2 J := by
            intro I2 hp
            cases hr : sub (a' + 1) with
            | error e =>
              rw [hr] at hp h8
              obtain ⟨he, a2, q2, p1, p2, p3, p4, p5, p6⟩ := hp
              have hq2 : q2 < 1100 := by have := hE.2.2.1; omega
              have f3 := f2.tr (by omega) p6
              have f4 := f3.tr (by omega) (emI_fr (c := nI op) (v := nI 0) hq2)
              have nx2 := bad _ a2 (q2 + 1) e (some (.int b)) (hE.fr f4) he (by omega) p2 (by omega) (by omega) (emI_st (c := nI op) (v := nI 0) p5) f4 h8
              refine V_aload_n C dX7_products_45 rfl ?_
              refine V_iload_n C dX7_products_46 rfl ?_
              refine V_tern_if_eq (vt := nI 7) (vf := nI 6) (pm := 57) C 55 dX7_products_47 (by decide) (fun h47 k => ?_) (fun h47 k => ?_) ?_
              · refine V_bipush C (v := nI 7) dX7_products_55 (by decide +kernel) ?_
                exact k
              · refine V_bipush C (v := nI 6) dX7_products_50 (by decide +kernel) ?_
                refine V_goto C 57 dX7_products_52 (by decide) ?_
                exact k
              rw [ev]
              refine V_iconst C (v := nI 0) dX7_products_57 (by decide +kernel) ?_
              refine V_callV (F := fun _ => True) C (m_emit hM p5 hq2 _ _) mi_X7_emit ml_X7_269 rfl (ob_K hM) (by decide) (rL _ (by decide)) ⟨Nat.le_refl 0, Nat.le_refl 0⟩ (Nat.le_of_ble_eq_true rfl) (fun _ _ => trivial) (fun v _ => clo_T v) rfl dX7_products_58 ?_
              rintro v S' I' J' ⟨hS, rfl, hI, hJ⟩
              obtain rfl := hS.symm
              obtain rfl := hI.symm
              obtain rfl := hJ.symm
              refine V_goto C 5 dX7_products_61 (by decide) ?_
              exact nx2
            | ok r =>
              obtain ⟨c2, a2⟩ := r
              rw [hr] at hp h8
              obtain ⟨p1, p2, p3, p4, p5, p6⟩ := hp
              have hq2 : q + c.length + c2.length < 1100 := by have := hE.2.2.1; omega
              have f3 := f2.tr (by omega) p6
              have f4 := f3.tr (by omega) (emI_fr (c := nI op) (v := nI 0) hq2)
              have el : (c ++ c2 ++ [(op, (0 : Int32))]).length = c.length + c2.length + 1 := by simp only [List.length_append, List.length_cons, List.length_nil]
              have mt1 : mtP (emI I2 nx (q + c.length + c2.length) (nI op) (nI 0)) (c ++ c2) (1100 * nx + q) := mtP_cg _ _ (fun i g1 g2 => by rw [List.length_append] at g2; exact (emI_fr (I := I2) (nx := nx) (c := nI op) (v := nI 0) hq2).2.2 i (Or.inl (by omega))) (mtP_app _ _ _ (mtP_cg _ _ (fun i g1 g2 => (p6.2.2 i (Or.inl (by omega))).imp (fun h => h.trans (by rfl)) (fun h => h.trans (by rfl))) h6) (by rw [show 1100 * nx + q + c.length = 1100 * nx + (q + c.length) by omega]; exact p5))
              have mt2 : mtP (emI I2 nx (q + c.length + c2.length) (nI op) (nI 0)) (c ++ c2 ++ [(op, 0)]) (1100 * nx + q) := mtP_app _ _ _ mt1 (by rw [List.length_append, show 1100 * nx + q + (c.length + c2.length) = 1100 * nx + (q + c.length + c2.length) by omega]; exact emI_mt)
              have nx2 := ih (emI I2 nx (q + c.length + c2.length) (nI op) (nI 0)) (c ++ c2 ++ [(op, 0)]) a2 (some (.int b)) (by omega) (hE.fr f4) (by omega) p2 (by rw [el]; omega) (by rw [el, show q + (c.length + c2.length + 1) = q + c.length + c2.length + 1 by omega]; exact emI_st p4) mt2 f4 h8
              refine V_aload_n C dX7_products_45 rfl ?_
              refine V_iload_n C dX7_products_46 rfl ?_
              refine V_tern_if_eq (vt := nI 7) (vf := nI 6) (pm := 57) C 55 dX7_products_47 (by decide) (fun h47 k => ?_) (fun h47 k => ?_) ?_
              · refine V_bipush C (v := nI 7) dX7_products_55 (by decide +kernel) ?_
                exact k
              · refine V_bipush C (v := nI 6) dX7_products_50 (by decide +kernel) ?_
                refine V_goto C 57 dX7_products_52 (by decide) ?_
                exact k
              rw [ev]
              refine V_iconst C (v := nI 0) dX7_products_57 (by decide +kernel) ?_
              refine V_callV (F := fun _ => True) C (m_emit hM p4 hq2 _ _) mi_X7_emit ml_X7_269 rfl (ob_K hM) (by decide) (rL _ (by decide)) ⟨Nat.le_refl 0, Nat.le_refl 0⟩ (Nat.le_of_ble_eq_true rfl) (fun _ _ => trivial) (fun v _ => clo_T v) rfl dX7_products_58 ?_
              rintro v S' I' J' ⟨hS, rfl, hI, hJ⟩
              obtain rfl := hS.symm
              obtain rfl := hI.symm
              obtain rfl := hJ.symm
              refine V_goto C 5 dX7_products_61 (by decide) ?_
              exact nx2
          refine V_aload_n C dX7_products_23 rfl ?_
          refine V_bipush C (v := nI 42) dX7_products_24 (by decide +kernel) ?_
          refine V_callV (F := fun _ => True) C (m_isSign hM (c := 42)  hEn h5 h2) mi_X7_isSign ml_X7_222 rfl (ob_K hM) (by decide) (rL _ (by decide)) ⟨Nat.le_refl 0, Nat.le_refl 0⟩ (Nat.le_of_ble_eq_true rfl) (fun _ _ => trivial) (fun v _ => clo_T v) rfl dX7_products_26 ?_
          rintro v S' I' J' ⟨hS, rfl, hI, hJ⟩
          obtain rfl := hS.symm
          obtain rfl := hI.symm
          obtain rfl := hJ.symm
          rw [← hb]
          refine V_istore_n C dX7_products_29 (hn _ (by decide)) ?_
          refine V_aload_n C dX7_products_30 rfl ?_
          refine V_dup C dX7_products_31 rfl ?_
          refine V_getI C fl_X7_216 (ob_K hM) rfl dX7_products_32 ?_
          refine V_iconst C (v := nI 1) dX7_products_35 (by decide +kernel) ?_
          refine V_iadd C dX7_products_36 ?_
          refine V_putI C fl_X7_216 (ob_K hM) rfl rfl dX7_products_37 ?_
          rw [e77]
          refine V_aload_n C dX7_products_40 rfl ?_
          refine V_iload_n C dX7_products_41 rfl ?_
          refine V_callV (F := fun _ => True) C (hsub _ _ (a' + 1) (q + c.length) hE2 hS2 hlt (by omega)) mi_X7_takePart ml_X7_288 rfl (ob_K hM) (by decide) rF ⟨Nat.le_refl 0, Nat.le_refl 0⟩ (Nat.le_of_ble_eq_true rfl) (fun _ _ => trivial) (fun v _ => clo_T v) rfl dX7_products_42 ?_
          rintro v S' I2 J2 ⟨hS, rfl, hp, hJ⟩
          obtain rfl := hS.symm
          obtain rfl := hJ.symm
          exact after _ hp
        by_cases g : isSP K a' 42
        · refine V_aload_n C dX7_products_5 rfl ?_
          refine V_bipush C (v := nI 42) dX7_products_6 (by decide +kernel) ?_
          refine V_callV (F := fun _ => True) C (m_isSign hM (c := 42)  hEn h5 h2) mi_X7_isSign ml_X7_222 rfl (ob_K hM) (by decide) (rL _ (by decide)) ⟨Nat.le_refl 0, Nat.le_refl 0⟩ (Nat.le_of_ble_eq_true rfl) (fun _ _ => trivial) (fun v _ => clo_T v) rfl dX7_products_8 ?_
          rintro v S' I' J' ⟨hS, rfl, hI, hJ⟩
          obtain rfl := hS.symm
          obtain rfl := hI.symm
          obtain rfl := hJ.symm
          refine V_if_ne C 23 dX7_products_11 (by decide) (fun h11 => ?_) (fun h11 => absurd h11 (by rw [bI_0]; exact fun r => r ⟨rfl, g⟩))
          exact rest
        · have g2 := Decidable.not_not.mp (fun h => hs ⟨g, h⟩)
          refine V_aload_n C dX7_products_5 rfl ?_
          refine V_bipush C (v := nI 42) dX7_products_6 (by decide +kernel) ?_
          refine V_callV (F := fun _ => True) C (m_isSign hM (c := 42)  hEn h5 h2) mi_X7_isSign ml_X7_222 rfl (ob_K hM) (by decide) (rL _ (by decide)) ⟨Nat.le_refl 0, Nat.le_refl 0⟩ (Nat.le_of_ble_eq_true rfl) (fun _ _ => trivial) (fun v _ => clo_T v) rfl dX7_products_8 ?_
          rintro v S' I' J' ⟨hS, rfl, hI, hJ⟩
          obtain rfl := hS.symm
          obtain rfl := hI.symm
          obtain rfl := hJ.symm
          refine V_if_ne C 23 dX7_products_11 (by decide) (fun h11 => absurd (bI_f (fun r => g r.2)) h11) (fun h11 => ?_)
          refine V_aload_n C dX7_products_14 rfl ?_
          refine V_bipush C (v := nI 47) dX7_products_15 (by decide +kernel) ?_
          refine V_callV (F := fun _ => True) C (m_isSign hM (c := 47)  hEn h5 h2) mi_X7_isSign ml_X7_222 rfl (ob_K hM) (by decide) (rL _ (by decide)) ⟨Nat.le_refl 0, Nat.le_refl 0⟩ (Nat.le_of_ble_eq_true rfl) (fun _ _ => trivial) (fun v _ => clo_T v) rfl dX7_products_17 ?_
          rintro v S' I' J' ⟨hS, rfl, hI, hJ⟩
          obtain rfl := hS.symm
          obtain rfl := hI.symm
          obtain rfl := hJ.symm
          refine V_if_eq C 64 dX7_products_20 (by decide) (fun h20 => absurd h20 (by rw [bI_0]; exact fun r => r ⟨rfl, g2⟩)) (fun h20 => ?_)
          exact rest
  have after : ∀ (I2 : HI), PPost nx K a q I I2 (sub a) → V X P 0 0 5 [some (.ref 1000), some (.int (nI d)), none] [] S I2 J := by
    intro I2 hp
    cases hr : sub a with
    | error e =>
      rw [hr] at hp
      obtain ⟨he, a2, q2, p1, p2, p3, p4, p5, p6⟩ := hp
      exact bad I2 a2 q2 e none (hE.fr p6) he p1 p2 p3 p4 p5 p6 (by rw [binP, hr])
    | ok r =>
      obtain ⟨c2, a2⟩ := r
      rw [hr] at hp
      obtain ⟨p1, p2, p3, p4, p5, p6⟩ := hp
      exact loop (K.length - a2) I2 c2 a2 none (by omega) (hE.fr p6) p1 p2 p3 p4 p5 p6 (by rw [binP, hr])
  refine V_aload_n C dX7_products_0 rfl ?_
  refine V_iload_n C dX7_products_1 rfl ?_
  refine V_callV (F := fun _ => True) C (hsub _ I a q hE hT ha hqa) mi_X7_takePart ml_X7_288 rfl (ob_K hM) (by decide) rF ⟨Nat.le_refl 0, Nat.le_refl 0⟩ (Nat.le_of_ble_eq_true rfl) (fun _ _ => trivial) (fun v _ => clo_T v) rfl dX7_products_2 ?_
  rintro v S' I2 J2 ⟨hS, rfl, hp, hJ⟩
  obtain rfl := hS.symm
  obtain rfl := hJ.symm
  exact after _ hp
set_option maxRecDepth 100000 in
set_option maxHeartbeats 1000000 in
theorem m_sums (hM : Ob S 7 1000) {K : List Tok} {nx d n : Nat} {sub : Nat → PR} (hsub : MP yX7_products cX7_products 3 n d S J K nx sub) : MP yX7_sums cX7_sums 3 (n + 1) d S J K nx (binP K.length (selP (fun a => isSP K a 43) (fun a => isSP K a 45) 4 5) sub) := by
  intro l I a q hE hT ha hqa
  refine Mn.of (by decide) (fun ad => by simp [lg_sl, vv, Value.category]) (fun X P hP hn C => ?_)
  obtain ⟨sel, hsel⟩ : ∃ sel, sel = selP (fun a => isSP K a 43) (fun a => isSP K a 45) 4 5 := ⟨_, rfl⟩
  rw [← hsel] at hP
  have rF : (rmk n).frames + 1 ≤ (rmk (n + 1)).frames ∧ 8 + (3 + 11) + (rmk n).locals ≤ (rmk (n + 1)).locals := ⟨Nat.le_refl _, by show 8 + (3 + 11) + 60 * n ≤ 60 * (n + 1); omega⟩
  have rL : ∀ k, k ≤ 3 → (rmk 0).frames + 1 ≤ (rmk (n + 1)).frames ∧ 8 + (k + 11) + (rmk 0).locals ≤ (rmk (n + 1)).locals := fun k hk => ⟨by show 0 + 1 ≤ n + 1; omega, by show 8 + (k + 11) + 60 * 0 ≤ 60 * (n + 1); omega⟩
  -- out of it with a fault
  have bad : ∀ (In : HI) (a' q' : Nat) (e : Int32) (x2 : Option Value), EV In J K → 0 < e → a ≤ a' → a' < K.length → q ≤ q' → a + q' ≤ a' + q → PSt In nx a' q' e → PFr nx q I In → binP K.length sel sub a = .error e → V X P 0 0 5 [some (.ref 1000), some (.int (nI d)), x2] [] S In J := by
    intro In a' q' e x2 hEn he h1 h2 h3 h4 h5 h6 h7
    refine V_aload_n C dX7_sums_5 rfl ?_
    refine V_bipush C (v := nI 43) dX7_sums_6 (by decide +kernel) ?_
    refine V_callV (F := fun _ => True) C (m_isSign hM (c := 43)  hEn h5 h2) mi_X7_isSign ml_X7_222 rfl (ob_K hM) (by decide) (rL _ (by decide)) ⟨Nat.le_refl 0, Nat.le_refl 0⟩ (Nat.le_of_ble_eq_true rfl) (fun _ _ => trivial) (fun v _ => clo_T v) rfl dX7_sums_8 ?_
    rintro v S' I' J' ⟨hS, rfl, hI, hJ⟩
    obtain rfl := hS.symm
    obtain rfl := hI.symm
    obtain rfl := hJ.symm
    refine V_if_ne C 23 dX7_sums_11 (by decide) (fun h11 => absurd (bI_f (fun r => pos_ne he r.1)) h11) (fun h11 => ?_)
    refine V_aload_n C dX7_sums_14 rfl ?_
    refine V_bipush C (v := nI 45) dX7_sums_15 (by decide +kernel) ?_
    refine V_callV (F := fun _ => True) C (m_isSign hM (c := 45)  hEn h5 h2) mi_X7_isSign ml_X7_222 rfl (ob_K hM) (by decide) (rL _ (by decide)) ⟨Nat.le_refl 0, Nat.le_refl 0⟩ (Nat.le_of_ble_eq_true rfl) (fun _ _ => trivial) (fun v _ => clo_T v) rfl dX7_sums_17 ?_
    rintro v S' I' J' ⟨hS, rfl, hI, hJ⟩
    obtain rfl := hS.symm
    obtain rfl := hI.symm
    obtain rfl := hJ.symm
    refine V_if_eq C 62 dX7_sums_20 (by decide) (fun h20 => ?_) (fun h20 => absurd (bI_f (fun r => pos_ne he r.1)) h20)
    exact V_vret C (Nat.zero_le _) (Nat.zero_le _) dX7_sums_62 (hP _ _ _ ⟨rfl, by rw [h7]; exact ⟨he, a', q', h1, h2, h3, h4, h5, h6⟩, rfl⟩)
  have loop : ∀ (m : Nat) (In : HI) (c : Cds) (a' : Nat) (x2 : Option Value), K.length ≤ a' + m → EV In J K → a < a' → a' < K.length → a + c.length ≤ a' → PSt In nx a' (q + c.length) 0 → mtP In c (1100 * nx + q) → PFr nx q I In → binP K.length sel sub a = binL sel sub m c a' → V X P 0 0 5 [some (.ref 1000), some (.int (nI d)), x2] [] S In J := by
    intro m
    induction m with
    | zero => intro In c a' x2 h0 _ _ h2; omega
    | succ m ih =>
      intro In c a' x2 h0 hEn h1 h2 h3 h5 h6 h7 h8
      obtain ⟨-, -, -, -, -, e6, e7⟩ := hEn.at h2
      by_cases hs : ¬ isSP K a' 43 ∧ ¬ isSP K a' 45
      · have es : sel a' = none := by rw [hsel]; exact selP_n (p := fun a => isSP K a 43) (q := fun a => isSP K a 45) hs.1 hs.2
        rw [binL, es] at h8
        refine V_aload_n C dX7_sums_5 rfl ?_
        refine V_bipush C (v := nI 43) dX7_sums_6 (by decide +kernel) ?_
        refine V_callV (F := fun _ => True) C (m_isSign hM (c := 43)  hEn h5 h2) mi_X7_isSign ml_X7_222 rfl (ob_K hM) (by decide) (rL _ (by decide)) ⟨Nat.le_refl 0, Nat.le_refl 0⟩ (Nat.le_of_ble_eq_true rfl) (fun _ _ => trivial) (fun v _ => clo_T v) rfl dX7_sums_8 ?_
        rintro v S' I' J' ⟨hS, rfl, hI, hJ⟩
        obtain rfl := hS.symm
        obtain rfl := hI.symm
        obtain rfl := hJ.symm
        refine V_if_ne C 23 dX7_sums_11 (by decide) (fun h11 => absurd (bI_f (fun r => hs.1 r.2)) h11) (fun h11 => ?_)
        refine V_aload_n C dX7_sums_14 rfl ?_
        refine V_bipush C (v := nI 45) dX7_sums_15 (by decide +kernel) ?_
        refine V_callV (F := fun _ => True) C (m_isSign hM (c := 45)  hEn h5 h2) mi_X7_isSign ml_X7_222 rfl (ob_K hM) (by decide) (rL _ (by decide)) ⟨Nat.le_refl 0, Nat.le_refl 0⟩ (Nat.le_of_ble_eq_true rfl) (fun _ _ => trivial) (fun v _ => clo_T v) rfl dX7_sums_17 ?_
        rintro v S' I' J' ⟨hS, rfl, hI, hJ⟩
        obtain rfl := hS.symm
        obtain rfl := hI.symm
        obtain rfl := hJ.symm
        refine V_if_eq C 62 dX7_sums_20 (by decide) (fun h20 => ?_) (fun h20 => absurd (bI_f (fun r => hs.2 r.2)) h20)
        exact V_vret C (Nat.zero_le _) (Nat.zero_le _) dX7_sums_62 (hP _ _ _ ⟨rfl, by rw [h8]; exact ⟨h1, h2, h3, h5, h6, h7⟩, rfl⟩)
      · have hlt : a' + 1 < K.length := e6 (by
          by_cases g : isSP K a' 43
          · rw [g.1]; decide
          · rw [(Decidable.not_not.mp (fun h => hs ⟨g, h⟩)).1]; decide)
        have es : sel a' = some (if isSP K a' 43 then 4 else 5) := by rw [hsel]; exact selP_s (p := fun a => isSP K a 43) (q := fun a => isSP K a 45) hs
        rw [binL, es] at h8
        have e77 : In 1000 7 + nI 1 = nI (a' + 1) := by rw [h5.1, nI_add]
        have hS2 : PSt (up2 In 1000 7 (nI (a' + 1))) nx (a' + 1) (q + c.length) 0 := st_at h5
        have f2 : PFr nx q I (up2 In 1000 7 (nI (a' + 1))) := h7.tr (Nat.le_refl _) (PFr.o (Or.inl rfl))
        have hE2 := hE.fr f2
        have rest : V X P 0 0 23 [some (.ref 1000), some (.int (nI d)), x2] [] S In J := by
          obtain ⟨b, hb⟩ : ∃ b, b = bI ((0 : Int32) = 0 ∧ isSP K a' 43) := ⟨_, rfl⟩
          have ev : (if b = 0 then nI 5 else nI 4) = nI (if isSP K a' 43 then 4 else 5) := by
            rw [hb]
            by_cases g : isSP K a' 43
            · rw [if_pos g, if_neg (by rw [bI_0]; exact fun r => r ⟨rfl, g⟩)]
            · rw [if_neg g, if_pos (bI_0.mpr (fun r => g r.2))]
          obtain ⟨op, hop⟩ : ∃ op, op = (if isSP K a' 43 then 4 else 5) := ⟨_, rfl⟩
          rw [← hop] at ev h8
          have after : ∀ (I2 : HI), PPost nx K (a' + 1) (q + c.length) (up2 In 1000 7 (nI (a' + 1))) I2 (sub (a' + 1)) → V X P 0 0 45 [some (.ref 1000), some (.int (nI d)), some (.int b)] [] S I2 J := by
            intro I2 hp
            cases hr : sub (a' + 1) with
            | error e =>
              rw [hr] at hp h8
              obtain ⟨he, a2, q2, p1, p2, p3, p4, p5, p6⟩ := hp
              have hq2 : q2 < 1100 := by have := hE.2.2.1; omega
              have f3 := f2.tr (by omega) p6
              have f4 := f3.tr (by omega) (emI_fr (c := nI op) (v := nI 0) hq2)
              have nx2 := bad _ a2 (q2 + 1) e (some (.int b)) (hE.fr f4) he (by omega) p2 (by omega) (by omega) (emI_st (c := nI op) (v := nI 0) p5) f4 h8
              refine V_aload_n C dX7_sums_45 rfl ?_
              refine V_iload_n C dX7_sums_46 rfl ?_
              refine V_tern_if_eq (vt := nI 5) (vf := nI 4) (pm := 55) C 54 dX7_sums_47 (by decide) (fun h47 k => ?_) (fun h47 k => ?_) ?_
              · refine V_iconst C (v := nI 5) dX7_sums_54 (by decide +kernel) ?_
                exact k
              · refine V_iconst C (v := nI 4) dX7_sums_50 (by decide +kernel) ?_
                refine V_goto C 55 dX7_sums_51 (by decide) ?_
                exact k
              rw [ev]
              refine V_iconst C (v := nI 0) dX7_sums_55 (by decide +kernel) ?_
              refine V_callV (F := fun _ => True) C (m_emit hM p5 hq2 _ _) mi_X7_emit ml_X7_269 rfl (ob_K hM) (by decide) (rL _ (by decide)) ⟨Nat.le_refl 0, Nat.le_refl 0⟩ (Nat.le_of_ble_eq_true rfl) (fun _ _ => trivial) (fun v _ => clo_T v) rfl dX7_sums_56 ?_
              rintro v S' I' J' ⟨hS, rfl, hI, hJ⟩
              obtain rfl := hS.symm
              obtain rfl := hI.symm
              obtain rfl := hJ.symm
              refine V_goto C 5 dX7_sums_59 (by decide) ?_
              exact nx2
            | ok r =>
              obtain ⟨c2, a2⟩ := r
              rw [hr] at hp h8
              obtain ⟨p1, p2, p3, p4, p5, p6⟩ := hp
              have hq2 : q + c.length + c2.length < 1100 := by have := hE.2.2.1; omega
              have f3 := f2.tr (by omega) p6
              have f4 := f3.tr (by omega) (emI_fr (c := nI op) (v := nI 0) hq2)
              have el : (c ++ c2 ++ [(op, (0 : Int32))]).length = c.length + c2.length + 1 := by simp only [List.length_append, List.length_cons, List.length_nil]
              have mt1 : mtP (emI I2 nx (q + c.length + c2.length) (nI op) (nI 0)) (c ++ c2) (1100 * nx + q) := mtP_cg _ _ (fun i g1 g2 => by rw [List.length_append] at g2; exact (emI_fr (I := I2) (nx := nx) (c := nI op) (v := nI 0) hq2).2.2 i (Or.inl (by omega))) (mtP_app _ _ _ (mtP_cg _ _ (fun i g1 g2 => (p6.2.2 i (Or.inl (by omega))).imp (fun h => h.trans (by rfl)) (fun h => h.trans (by rfl))) h6) (by rw [show 1100 * nx + q + c.length = 1100 * nx + (q + c.length) by omega]; exact p5))
              have mt2 : mtP (emI I2 nx (q + c.length + c2.length) (nI op) (nI 0)) (c ++ c2 ++ [(op, 0)]) (1100 * nx + q) := mtP_app _ _ _ mt1 (by rw [List.length_append, show 1100 * nx + q + (c.length + c2.length) = 1100 * nx + (q + c.length + c2.length) by omega]; exact emI_mt)
              have nx2 := ih (emI I2 nx (q + c.length + c2.length) (nI op) (nI 0)) (c ++ c2 ++ [(op, 0)]) a2 (some (.int b)) (by omega) (hE.fr f4) (by omega) p2 (by rw [el]; omega) (by rw [el, show q + (c.length + c2.length + 1) = q + c.length + c2.length + 1 by omega]; exact emI_st p4) mt2 f4 h8
              refine V_aload_n C dX7_sums_45 rfl ?_
              refine V_iload_n C dX7_sums_46 rfl ?_
              refine V_tern_if_eq (vt := nI 5) (vf := nI 4) (pm := 55) C 54 dX7_sums_47 (by decide) (fun h47 k => ?_) (fun h47 k => ?_) ?_
              · refine V_iconst C (v := nI 5) dX7_sums_54 (by decide +kernel) ?_
                exact k
              · refine V_iconst C (v := nI 4) dX7_sums_50 (by decide +kernel) ?_
                refine V_goto C 55 dX7_sums_51 (by decide) ?_
                exact k
              rw [ev]
              refine V_iconst C (v := nI 0) dX7_sums_55 (by decide +kernel) ?_
              refine V_callV (F := fun _ => True) C (m_emit hM p4 hq2 _ _) mi_X7_emit ml_X7_269 rfl (ob_K hM) (by decide) (rL _ (by decide)) ⟨Nat.le_refl 0, Nat.le_refl 0⟩ (Nat.le_of_ble_eq_true rfl) (fun _ _ => trivial) (fun v _ => clo_T v) rfl dX7_sums_56 ?_
              rintro v S' I' J' ⟨hS, rfl, hI, hJ⟩
              obtain rfl := hS.symm
              obtain rfl := hI.symm
              obtain rfl := hJ.symm
              refine V_goto C 5 dX7_sums_59 (by decide) ?_
              exact nx2
          refine V_aload_n C dX7_sums_23 rfl ?_
          refine V_bipush C (v := nI 43) dX7_sums_24 (by decide +kernel) ?_
          refine V_callV (F := fun _ => True) C (m_isSign hM (c := 43)  hEn h5 h2) mi_X7_isSign ml_X7_222 rfl (ob_K hM) (by decide) (rL _ (by decide)) ⟨Nat.le_refl 0, Nat.le_refl 0⟩ (Nat.le_of_ble_eq_true rfl) (fun _ _ => trivial) (fun v _ => clo_T v) rfl dX7_sums_26 ?_
          rintro v S' I' J' ⟨hS, rfl, hI, hJ⟩
          obtain rfl := hS.symm
          obtain rfl := hI.symm
          obtain rfl := hJ.symm
          rw [← hb]
          refine V_istore_n C dX7_sums_29 (hn _ (by decide)) ?_
          refine V_aload_n C dX7_sums_30 rfl ?_
          refine V_dup C dX7_sums_31 rfl ?_
          refine V_getI C fl_X7_216 (ob_K hM) rfl dX7_sums_32 ?_
          refine V_iconst C (v := nI 1) dX7_sums_35 (by decide +kernel) ?_
          refine V_iadd C dX7_sums_36 ?_
          refine V_putI C fl_X7_216 (ob_K hM) rfl rfl dX7_sums_37 ?_
          rw [e77]
          refine V_aload_n C dX7_sums_40 rfl ?_
          refine V_iload_n C dX7_sums_41 rfl ?_
          refine V_callV (F := fun _ => True) C (hsub _ _ (a' + 1) (q + c.length) hE2 hS2 hlt (by omega)) mi_X7_products ml_X7_285 rfl (ob_K hM) (by decide) rF ⟨Nat.le_refl 0, Nat.le_refl 0⟩ (Nat.le_of_ble_eq_true rfl) (fun _ _ => trivial) (fun v _ => clo_T v) rfl dX7_sums_42 ?_
          rintro v S' I2 J2 ⟨hS, rfl, hp, hJ⟩
          obtain rfl := hS.symm
          obtain rfl := hJ.symm
          exact after _ hp
        by_cases g : isSP K a' 43
        · refine V_aload_n C dX7_sums_5 rfl ?_
          refine V_bipush C (v := nI 43) dX7_sums_6 (by decide +kernel) ?_
          refine V_callV (F := fun _ => True) C (m_isSign hM (c := 43)  hEn h5 h2) mi_X7_isSign ml_X7_222 rfl (ob_K hM) (by decide) (rL _ (by decide)) ⟨Nat.le_refl 0, Nat.le_refl 0⟩ (Nat.le_of_ble_eq_true rfl) (fun _ _ => trivial) (fun v _ => clo_T v) rfl dX7_sums_8 ?_
          rintro v S' I' J' ⟨hS, rfl, hI, hJ⟩
          obtain rfl := hS.symm
          obtain rfl := hI.symm
          obtain rfl := hJ.symm
          refine V_if_ne C 23 dX7_sums_11 (by decide) (fun h11 => ?_) (fun h11 => absurd h11 (by rw [bI_0]; exact fun r => r ⟨rfl, g⟩))
          exact rest
        · have g2 := Decidable.not_not.mp (fun h => hs ⟨g, h⟩)
          refine V_aload_n C dX7_sums_5 rfl ?_
          refine V_bipush C (v := nI 43) dX7_sums_6 (by decide +kernel) ?_
          refine V_callV (F := fun _ => True) C (m_isSign hM (c := 43)  hEn h5 h2) mi_X7_isSign ml_X7_222 rfl (ob_K hM) (by decide) (rL _ (by decide)) ⟨Nat.le_refl 0, Nat.le_refl 0⟩ (Nat.le_of_ble_eq_true rfl) (fun _ _ => trivial) (fun v _ => clo_T v) rfl dX7_sums_8 ?_
          rintro v S' I' J' ⟨hS, rfl, hI, hJ⟩
          obtain rfl := hS.symm
          obtain rfl := hI.symm
          obtain rfl := hJ.symm
          refine V_if_ne C 23 dX7_sums_11 (by decide) (fun h11 => absurd (bI_f (fun r => g r.2)) h11) (fun h11 => ?_)
          refine V_aload_n C dX7_sums_14 rfl ?_
          refine V_bipush C (v := nI 45) dX7_sums_15 (by decide +kernel) ?_
          refine V_callV (F := fun _ => True) C (m_isSign hM (c := 45)  hEn h5 h2) mi_X7_isSign ml_X7_222 rfl (ob_K hM) (by decide) (rL _ (by decide)) ⟨Nat.le_refl 0, Nat.le_refl 0⟩ (Nat.le_of_ble_eq_true rfl) (fun _ _ => trivial) (fun v _ => clo_T v) rfl dX7_sums_17 ?_
          rintro v S' I' J' ⟨hS, rfl, hI, hJ⟩
          obtain rfl := hS.symm
          obtain rfl := hI.symm
          obtain rfl := hJ.symm
          refine V_if_eq C 62 dX7_sums_20 (by decide) (fun h20 => absurd h20 (by rw [bI_0]; exact fun r => r ⟨rfl, g2⟩)) (fun h20 => ?_)
          exact rest
  have after : ∀ (I2 : HI), PPost nx K a q I I2 (sub a) → V X P 0 0 5 [some (.ref 1000), some (.int (nI d)), none] [] S I2 J := by
    intro I2 hp
    cases hr : sub a with
    | error e =>
      rw [hr] at hp
      obtain ⟨he, a2, q2, p1, p2, p3, p4, p5, p6⟩ := hp
      exact bad I2 a2 q2 e none (hE.fr p6) he p1 p2 p3 p4 p5 p6 (by rw [binP, hr])
    | ok r =>
      obtain ⟨c2, a2⟩ := r
      rw [hr] at hp
      obtain ⟨p1, p2, p3, p4, p5, p6⟩ := hp
      exact loop (K.length - a2) I2 c2 a2 none (by omega) (hE.fr p6) p1 p2 p3 p4 p5 p6 (by rw [binP, hr])
  refine V_aload_n C dX7_sums_0 rfl ?_
  refine V_iload_n C dX7_sums_1 rfl ?_
  refine V_callV (F := fun _ => True) C (hsub _ I a q hE hT ha hqa) mi_X7_products ml_X7_285 rfl (ob_K hM) (by decide) rF ⟨Nat.le_refl 0, Nat.le_refl 0⟩ (Nat.le_of_ble_eq_true rfl) (fun _ _ => trivial) (fun v _ => clo_T v) rfl dX7_sums_2 ?_
  rintro v S' I2 J2 ⟨hS, rfl, hp, hJ⟩
  obtain rfl := hS.symm
  obtain rfl := hJ.symm
  exact after _ hp
set_option maxRecDepth 100000 in
set_option maxHeartbeats 1000000 in
theorem m_all (hM : Ob S 7 1000) {K : List Tok} {nx d n : Nat} {sub : Nat → PR} (hsub : MP yX7_test cX7_test 3 n d S J K nx sub) : MP yX7_all cX7_all 3 (n + 1) d S J K nx (binP K.length (selP (fun a => isWP K a 11) (fun a => isWP K a 12) 10 11) sub) := by
  intro l I a q hE hT ha hqa
  refine Mn.of (by decide) (fun ad => by simp [lg_sl, vv, Value.category]) (fun X P hP hn C => ?_)
  obtain ⟨sel, hsel⟩ : ∃ sel, sel = selP (fun a => isWP K a 11) (fun a => isWP K a 12) 10 11 := ⟨_, rfl⟩
  rw [← hsel] at hP
  have rF : (rmk n).frames + 1 ≤ (rmk (n + 1)).frames ∧ 8 + (3 + 11) + (rmk n).locals ≤ (rmk (n + 1)).locals := ⟨Nat.le_refl _, by show 8 + (3 + 11) + 60 * n ≤ 60 * (n + 1); omega⟩
  have rL : ∀ k, k ≤ 3 → (rmk 0).frames + 1 ≤ (rmk (n + 1)).frames ∧ 8 + (k + 11) + (rmk 0).locals ≤ (rmk (n + 1)).locals := fun k hk => ⟨by show 0 + 1 ≤ n + 1; omega, by show 8 + (k + 11) + 60 * 0 ≤ 60 * (n + 1); omega⟩
  -- out of it with a fault
  have bad : ∀ (In : HI) (a' q' : Nat) (e : Int32) (x2 : Option Value), EV In J K → 0 < e → a ≤ a' → a' < K.length → q ≤ q' → a + q' ≤ a' + q → PSt In nx a' q' e → PFr nx q I In → binP K.length sel sub a = .error e → V X P 0 0 5 [some (.ref 1000), some (.int (nI d)), x2] [] S In J := by
    intro In a' q' e x2 hEn he h1 h2 h3 h4 h5 h6 h7
    refine V_aload_n C dX7_all_5 rfl ?_
    refine V_bipush C (v := nI 11) dX7_all_6 (by decide +kernel) ?_
    refine V_callV (F := fun _ => True) C (m_isWord hM (w := 11) (by omega) hEn h5 h2) mi_X7_isWord ml_X7_228 rfl (ob_K hM) (by decide) (rL _ (by decide)) ⟨Nat.le_refl 0, Nat.le_refl 0⟩ (Nat.le_of_ble_eq_true rfl) (fun _ _ => trivial) (fun v _ => clo_T v) rfl dX7_all_8 ?_
    rintro v S' I' J' ⟨hS, rfl, hI, hJ⟩
    obtain rfl := hS.symm
    obtain rfl := hI.symm
    obtain rfl := hJ.symm
    refine V_if_ne C 23 dX7_all_11 (by decide) (fun h11 => absurd (bI_f (fun r => pos_ne he r.1)) h11) (fun h11 => ?_)
    refine V_aload_n C dX7_all_14 rfl ?_
    refine V_bipush C (v := nI 12) dX7_all_15 (by decide +kernel) ?_
    refine V_callV (F := fun _ => True) C (m_isWord hM (w := 12) (by omega) hEn h5 h2) mi_X7_isWord ml_X7_228 rfl (ob_K hM) (by decide) (rL _ (by decide)) ⟨Nat.le_refl 0, Nat.le_refl 0⟩ (Nat.le_of_ble_eq_true rfl) (fun _ _ => trivial) (fun v _ => clo_T v) rfl dX7_all_17 ?_
    rintro v S' I' J' ⟨hS, rfl, hI, hJ⟩
    obtain rfl := hS.symm
    obtain rfl := hI.symm
    obtain rfl := hJ.symm
    refine V_if_eq C 64 dX7_all_20 (by decide) (fun h20 => ?_) (fun h20 => absurd (bI_f (fun r => pos_ne he r.1)) h20)
    exact V_vret C (Nat.zero_le _) (Nat.zero_le _) dX7_all_64 (hP _ _ _ ⟨rfl, by rw [h7]; exact ⟨he, a', q', h1, h2, h3, h4, h5, h6⟩, rfl⟩)
  have loop : ∀ (m : Nat) (In : HI) (c : Cds) (a' : Nat) (x2 : Option Value), K.length ≤ a' + m → EV In J K → a < a' → a' < K.length → a + c.length ≤ a' → PSt In nx a' (q + c.length) 0 → mtP In c (1100 * nx + q) → PFr nx q I In → binP K.length sel sub a = binL sel sub m c a' → V X P 0 0 5 [some (.ref 1000), some (.int (nI d)), x2] [] S In J := by
    intro m
    induction m with
    | zero => intro In c a' x2 h0 _ _ h2; omega
    | succ m ih =>
      intro In c a' x2 h0 hEn h1 h2 h3 h5 h6 h7 h8
      obtain ⟨-, -, -, -, -, e6, e7⟩ := hEn.at h2
      by_cases hs : ¬ isWP K a' 11 ∧ ¬ isWP K a' 12
      · have es : sel a' = none := by rw [hsel]; exact selP_n (p := fun a => isWP K a 11) (q := fun a => isWP K a 12) hs.1 hs.2
        rw [binL, es] at h8
        refine V_aload_n C dX7_all_5 rfl ?_
        refine V_bipush C (v := nI 11) dX7_all_6 (by decide +kernel) ?_
        refine V_callV (F := fun _ => True) C (m_isWord hM (w := 11) (by omega) hEn h5 h2) mi_X7_isWord ml_X7_228 rfl (ob_K hM) (by decide) (rL _ (by decide)) ⟨Nat.le_refl 0, Nat.le_refl 0⟩ (Nat.le_of_ble_eq_true rfl) (fun _ _ => trivial) (fun v _ => clo_T v) rfl dX7_all_8 ?_
        rintro v S' I' J' ⟨hS, rfl, hI, hJ⟩
        obtain rfl := hS.symm
        obtain rfl := hI.symm
        obtain rfl := hJ.symm
        refine V_if_ne C 23 dX7_all_11 (by decide) (fun h11 => absurd (bI_f (fun r => hs.1 r.2)) h11) (fun h11 => ?_)
        refine V_aload_n C dX7_all_14 rfl ?_
        refine V_bipush C (v := nI 12) dX7_all_15 (by decide +kernel) ?_
        refine V_callV (F := fun _ => True) C (m_isWord hM (w := 12) (by omega) hEn h5 h2) mi_X7_isWord ml_X7_228 rfl (ob_K hM) (by decide) (rL _ (by decide)) ⟨Nat.le_refl 0, Nat.le_refl 0⟩ (Nat.le_of_ble_eq_true rfl) (fun _ _ => trivial) (fun v _ => clo_T v) rfl dX7_all_17 ?_
        rintro v S' I' J' ⟨hS, rfl, hI, hJ⟩
        obtain rfl := hS.symm
        obtain rfl := hI.symm
        obtain rfl := hJ.symm
        refine V_if_eq C 64 dX7_all_20 (by decide) (fun h20 => ?_) (fun h20 => absurd (bI_f (fun r => hs.2 r.2)) h20)
        exact V_vret C (Nat.zero_le _) (Nat.zero_le _) dX7_all_64 (hP _ _ _ ⟨rfl, by rw [h8]; exact ⟨h1, h2, h3, h5, h6, h7⟩, rfl⟩)
      · have hlt : a' + 1 < K.length := e6 (by
          by_cases g : isWP K a' 11
          · rw [g.1]; decide
          · rw [(Decidable.not_not.mp (fun h => hs ⟨g, h⟩)).1]; decide)
        have es : sel a' = some (if isWP K a' 11 then 10 else 11) := by rw [hsel]; exact selP_s (p := fun a => isWP K a 11) (q := fun a => isWP K a 12) hs
        rw [binL, es] at h8
        have e77 : In 1000 7 + nI 1 = nI (a' + 1) := by rw [h5.1, nI_add]
        have hS2 : PSt (up2 In 1000 7 (nI (a' + 1))) nx (a' + 1) (q + c.length) 0 := st_at h5
        have f2 : PFr nx q I (up2 In 1000 7 (nI (a' + 1))) := h7.tr (Nat.le_refl _) (PFr.o (Or.inl rfl))
        have hE2 := hE.fr f2
        have rest : V X P 0 0 23 [some (.ref 1000), some (.int (nI d)), x2] [] S In J := by
          obtain ⟨b, hb⟩ : ∃ b, b = bI ((0 : Int32) = 0 ∧ isWP K a' 11) := ⟨_, rfl⟩
          have ev : (if b = 0 then nI 11 else nI 10) = nI (if isWP K a' 11 then 10 else 11) := by
            rw [hb]
            by_cases g : isWP K a' 11
            · rw [if_pos g, if_neg (by rw [bI_0]; exact fun r => r ⟨rfl, g⟩)]
            · rw [if_neg g, if_pos (bI_0.mpr (fun r => g r.2))]
          obtain ⟨op, hop⟩ : ∃ op, op = (if isWP K a' 11 then 10 else 11) := ⟨_, rfl⟩
          rw [← hop] at ev h8
          have after : ∀ (I2 : HI), PPost nx K (a' + 1) (q + c.length) (up2 In 1000 7 (nI (a' + 1))) I2 (sub (a' + 1)) → V X P 0 0 45 [some (.ref 1000), some (.int (nI d)), some (.int b)] [] S I2 J := by
            intro I2 hp
            cases hr : sub (a' + 1) with
            | error e =>
              rw [hr] at hp h8
              obtain ⟨he, a2, q2, p1, p2, p3, p4, p5, p6⟩ := hp
              have hq2 : q2 < 1100 := by have := hE.2.2.1; omega
              have f3 := f2.tr (by omega) p6
              have f4 := f3.tr (by omega) (emI_fr (c := nI op) (v := nI 0) hq2)
              have nx2 := bad _ a2 (q2 + 1) e (some (.int b)) (hE.fr f4) he (by omega) p2 (by omega) (by omega) (emI_st (c := nI op) (v := nI 0) p5) f4 h8
              refine V_aload_n C dX7_all_45 rfl ?_
              refine V_iload_n C dX7_all_46 rfl ?_
              refine V_tern_if_eq (vt := nI 11) (vf := nI 10) (pm := 57) C 55 dX7_all_47 (by decide) (fun h47 k => ?_) (fun h47 k => ?_) ?_
              · refine V_bipush C (v := nI 11) dX7_all_55 (by decide +kernel) ?_
                exact k
              · refine V_bipush C (v := nI 10) dX7_all_50 (by decide +kernel) ?_
                refine V_goto C 57 dX7_all_52 (by decide) ?_
                exact k
              rw [ev]
              refine V_iconst C (v := nI 0) dX7_all_57 (by decide +kernel) ?_
              refine V_callV (F := fun _ => True) C (m_emit hM p5 hq2 _ _) mi_X7_emit ml_X7_269 rfl (ob_K hM) (by decide) (rL _ (by decide)) ⟨Nat.le_refl 0, Nat.le_refl 0⟩ (Nat.le_of_ble_eq_true rfl) (fun _ _ => trivial) (fun v _ => clo_T v) rfl dX7_all_58 ?_
              rintro v S' I' J' ⟨hS, rfl, hI, hJ⟩
              obtain rfl := hS.symm
              obtain rfl := hI.symm
              obtain rfl := hJ.symm
              refine V_goto C 5 dX7_all_61 (by decide) ?_
              exact nx2
            | ok r =>
              obtain ⟨c2, a2⟩ := r
              rw [hr] at hp h8
              obtain ⟨p1, p2, p3, p4, p5, p6⟩ := hp
              have hq2 : q + c.length + c2.length < 1100 := by have := hE.2.2.1; omega
              have f3 := f2.tr (by omega) p6
              have f4 := f3.tr (by omega) (emI_fr (c := nI op) (v := nI 0) hq2)
              have el : (c ++ c2 ++ [(op, (0 : Int32))]).length = c.length + c2.length + 1 := by simp only [List.length_append, List.length_cons, List.length_nil]
              have mt1 : mtP (emI I2 nx (q + c.length + c2.length) (nI op) (nI 0)) (c ++ c2) (1100 * nx + q) := mtP_cg _ _ (fun i g1 g2 => by rw [List.length_append] at g2; exact (emI_fr (I := I2) (nx := nx) (c := nI op) (v := nI 0) hq2).2.2 i (Or.inl (by omega))) (mtP_app _ _ _ (mtP_cg _ _ (fun i g1 g2 => (p6.2.2 i (Or.inl (by omega))).imp (fun h => h.trans (by rfl)) (fun h => h.trans (by rfl))) h6) (by rw [show 1100 * nx + q + c.length = 1100 * nx + (q + c.length) by omega]; exact p5))
              have mt2 : mtP (emI I2 nx (q + c.length + c2.length) (nI op) (nI 0)) (c ++ c2 ++ [(op, 0)]) (1100 * nx + q) := mtP_app _ _ _ mt1 (by rw [List.length_append, show 1100 * nx + q + (c.length + c2.length) = 1100 * nx + (q + c.length + c2.length) by omega]; exact emI_mt)
              have nx2 := ih (emI I2 nx (q + c.length + c2.length) (nI op) (nI 0)) (c ++ c2 ++ [(op, 0)]) a2 (some (.int b)) (by omega) (hE.fr f4) (by omega) p2 (by rw [el]; omega) (by rw [el, show q + (c.length + c2.length + 1) = q + c.length + c2.length + 1 by omega]; exact emI_st p4) mt2 f4 h8
              refine V_aload_n C dX7_all_45 rfl ?_
              refine V_iload_n C dX7_all_46 rfl ?_
              refine V_tern_if_eq (vt := nI 11) (vf := nI 10) (pm := 57) C 55 dX7_all_47 (by decide) (fun h47 k => ?_) (fun h47 k => ?_) ?_
              · refine V_bipush C (v := nI 11) dX7_all_55 (by decide +kernel) ?_
                exact k
              · refine V_bipush C (v := nI 10) dX7_all_50 (by decide +kernel) ?_
                refine V_goto C 57 dX7_all_52 (by decide) ?_
                exact k
              rw [ev]
              refine V_iconst C (v := nI 0) dX7_all_57 (by decide +kernel) ?_
              refine V_callV (F := fun _ => True) C (m_emit hM p4 hq2 _ _) mi_X7_emit ml_X7_269 rfl (ob_K hM) (by decide) (rL _ (by decide)) ⟨Nat.le_refl 0, Nat.le_refl 0⟩ (Nat.le_of_ble_eq_true rfl) (fun _ _ => trivial) (fun v _ => clo_T v) rfl dX7_all_58 ?_
              rintro v S' I' J' ⟨hS, rfl, hI, hJ⟩
              obtain rfl := hS.symm
              obtain rfl := hI.symm
              obtain rfl := hJ.symm
              refine V_goto C 5 dX7_all_61 (by decide) ?_
              exact nx2
          refine V_aload_n C dX7_all_23 rfl ?_
          refine V_bipush C (v := nI 11) dX7_all_24 (by decide +kernel) ?_
          refine V_callV (F := fun _ => True) C (m_isWord hM (w := 11) (by omega) hEn h5 h2) mi_X7_isWord ml_X7_228 rfl (ob_K hM) (by decide) (rL _ (by decide)) ⟨Nat.le_refl 0, Nat.le_refl 0⟩ (Nat.le_of_ble_eq_true rfl) (fun _ _ => trivial) (fun v _ => clo_T v) rfl dX7_all_26 ?_
          rintro v S' I' J' ⟨hS, rfl, hI, hJ⟩
          obtain rfl := hS.symm
          obtain rfl := hI.symm
          obtain rfl := hJ.symm
          rw [← hb]
          refine V_istore_n C dX7_all_29 (hn _ (by decide)) ?_
          refine V_aload_n C dX7_all_30 rfl ?_
          refine V_dup C dX7_all_31 rfl ?_
          refine V_getI C fl_X7_216 (ob_K hM) rfl dX7_all_32 ?_
          refine V_iconst C (v := nI 1) dX7_all_35 (by decide +kernel) ?_
          refine V_iadd C dX7_all_36 ?_
          refine V_putI C fl_X7_216 (ob_K hM) rfl rfl dX7_all_37 ?_
          rw [e77]
          refine V_aload_n C dX7_all_40 rfl ?_
          refine V_iload_n C dX7_all_41 rfl ?_
          refine V_callV (F := fun _ => True) C (hsub _ _ (a' + 1) (q + c.length) hE2 hS2 hlt (by omega)) mi_X7_test ml_X7_276 rfl (ob_K hM) (by decide) rF ⟨Nat.le_refl 0, Nat.le_refl 0⟩ (Nat.le_of_ble_eq_true rfl) (fun _ _ => trivial) (fun v _ => clo_T v) rfl dX7_all_42 ?_
          rintro v S' I2 J2 ⟨hS, rfl, hp, hJ⟩
          obtain rfl := hS.symm
          obtain rfl := hJ.symm
          exact after _ hp
        by_cases g : isWP K a' 11
        · refine V_aload_n C dX7_all_5 rfl ?_
          refine V_bipush C (v := nI 11) dX7_all_6 (by decide +kernel) ?_
          refine V_callV (F := fun _ => True) C (m_isWord hM (w := 11) (by omega) hEn h5 h2) mi_X7_isWord ml_X7_228 rfl (ob_K hM) (by decide) (rL _ (by decide)) ⟨Nat.le_refl 0, Nat.le_refl 0⟩ (Nat.le_of_ble_eq_true rfl) (fun _ _ => trivial) (fun v _ => clo_T v) rfl dX7_all_8 ?_
          rintro v S' I' J' ⟨hS, rfl, hI, hJ⟩
          obtain rfl := hS.symm
          obtain rfl := hI.symm
          obtain rfl := hJ.symm
          refine V_if_ne C 23 dX7_all_11 (by decide) (fun h11 => ?_) (fun h11 => absurd h11 (by rw [bI_0]; exact fun r => r ⟨rfl, g⟩))
          exact rest
        · have g2 := Decidable.not_not.mp (fun h => hs ⟨g, h⟩)
          refine V_aload_n C dX7_all_5 rfl ?_
          refine V_bipush C (v := nI 11) dX7_all_6 (by decide +kernel) ?_
          refine V_callV (F := fun _ => True) C (m_isWord hM (w := 11) (by omega) hEn h5 h2) mi_X7_isWord ml_X7_228 rfl (ob_K hM) (by decide) (rL _ (by decide)) ⟨Nat.le_refl 0, Nat.le_refl 0⟩ (Nat.le_of_ble_eq_true rfl) (fun _ _ => trivial) (fun v _ => clo_T v) rfl dX7_all_8 ?_
          rintro v S' I' J' ⟨hS, rfl, hI, hJ⟩
          obtain rfl := hS.symm
          obtain rfl := hI.symm
          obtain rfl := hJ.symm
          refine V_if_ne C 23 dX7_all_11 (by decide) (fun h11 => absurd (bI_f (fun r => g r.2)) h11) (fun h11 => ?_)
          refine V_aload_n C dX7_all_14 rfl ?_
          refine V_bipush C (v := nI 12) dX7_all_15 (by decide +kernel) ?_
          refine V_callV (F := fun _ => True) C (m_isWord hM (w := 12) (by omega) hEn h5 h2) mi_X7_isWord ml_X7_228 rfl (ob_K hM) (by decide) (rL _ (by decide)) ⟨Nat.le_refl 0, Nat.le_refl 0⟩ (Nat.le_of_ble_eq_true rfl) (fun _ _ => trivial) (fun v _ => clo_T v) rfl dX7_all_17 ?_
          rintro v S' I' J' ⟨hS, rfl, hI, hJ⟩
          obtain rfl := hS.symm
          obtain rfl := hI.symm
          obtain rfl := hJ.symm
          refine V_if_eq C 64 dX7_all_20 (by decide) (fun h20 => absurd h20 (by rw [bI_0]; exact fun r => r ⟨rfl, g2⟩)) (fun h20 => ?_)
          exact rest
  have after : ∀ (I2 : HI), PPost nx K a q I I2 (sub a) → V X P 0 0 5 [some (.ref 1000), some (.int (nI d)), none] [] S I2 J := by
    intro I2 hp
    cases hr : sub a with
    | error e =>
      rw [hr] at hp
      obtain ⟨he, a2, q2, p1, p2, p3, p4, p5, p6⟩ := hp
      exact bad I2 a2 q2 e none (hE.fr p6) he p1 p2 p3 p4 p5 p6 (by rw [binP, hr])
    | ok r =>
      obtain ⟨c2, a2⟩ := r
      rw [hr] at hp
      obtain ⟨p1, p2, p3, p4, p5, p6⟩ := hp
      exact loop (K.length - a2) I2 c2 a2 none (by omega) (hE.fr p6) p1 p2 p3 p4 p5 p6 (by rw [binP, hr])
  refine V_aload_n C dX7_all_0 rfl ?_
  refine V_iload_n C dX7_all_1 rfl ?_
  refine V_callV (F := fun _ => True) C (hsub _ I a q hE hT ha hqa) mi_X7_test ml_X7_276 rfl (ob_K hM) (by decide) rF ⟨Nat.le_refl 0, Nat.le_refl 0⟩ (Nat.le_of_ble_eq_true rfl) (fun _ _ => trivial) (fun v _ => clo_T v) rfl dX7_all_2 ?_
  rintro v S' I2 J2 ⟨hS, rfl, hp, hJ⟩
  obtain rfl := hS.symm
  obtain rfl := hJ.symm
  exact after _ hp
end M25
