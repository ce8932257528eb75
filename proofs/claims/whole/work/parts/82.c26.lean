/-! constructors of the tape, the reader, the laws -/
theorem ka_L : Cond.arrayClass .long ∈ gtb := by decide +kernel
theorem ka_Z : Cond.arrayClass .boolean ∈ gtb := by decide +kernel
section C26
variable {l : Launch} {S S0 S' S2 : HS} {I I0 I' I2 : HI} {J J0 J' J2 : HJ} {a x n ci : Nat}
/-- an object of class ci at a is being made: the rows below n are there, those from n on are free -/
def Bd (ci a : Nat) (S0 : HS) (I0 : HI) (J0 : HJ) (n : Nat) (S : HS) (I : HI) (J : HJ) : Prop := ObN S ci a n ∧ wfS S ∧ (∀ c, a + 1 + n ≤ c → c < a + 1 + nf ci → S.1 c = 0) ∧ MkF a (a + 1 + nf ci) S0 I0 J0 S I J ∧ (I a = I0 a ∧ J a = J0 a ∧ ∀ y, arrOf ci y = none → S.2.2 a y = S0.2.2 a y) ∧ ∀ y p, y < n → arrOf ci y = some p → I (a + 1 + y) = (fun _ => 0) ∧ (¬ (ci = 7 ∧ y = 9) → J (a + 1 + y) = fun _ => 0)
theorem Bd.z (hK : S.1 a = ci + 1) (hw : wfS S) (hf : ∀ c, a < c → c < a + 1 + nf ci → S.1 c = 0) : Bd ci a S I J 0 S I J := ⟨⟨hK, fun x _ _ hx _ => absurd hx (by omega)⟩, hw, fun c h1 h2 => hf c (by omega) h2, MkF.re, ⟨rfl, rfl, fun _ _ => rfl⟩, fun y _ hy => absurd hy (by omega)⟩
theorem Bd.skip {m : Nat} (h : Bd ci a S0 I0 J0 n S I J) (hnm : n ≤ m) (ha : ∀ x, n ≤ x → x < m → arrOf ci x = none) : Bd ci a S0 I0 J0 m S I J := by
  obtain ⟨h1, h2, h3, h4, h5, h6⟩ := h
  refine ⟨h1.skip ha, h2, fun c q1 q2 => h3 c (by omega) q2, h4, h5, fun y p hy hp => ?_⟩
  rcases Nat.lt_or_ge y n with g | g
  · exact h6 y p g hp
  · rw [ha y g hy] at hp; cases hp
theorem Bd.row {kd ln : Nat} (h : Bd ci a S0 I0 J0 x S I J) (ha : arrOf ci x = some (kd, ln)) (hx : x < nf ci) (hkd : kd ≠ 0) : Bd ci a S0 I0 J0 (x + 1) (rowS S a x kd ln) (nwI I (a + 1 + x)) (nwJ J (a + 1 + x)) := by
  obtain ⟨h1, h2, h3, h4, h5, h6⟩ := h
  refine ⟨h1.row ha, h2.row hkd, fun c q1 q2 => by rw [rowS_1n (by omega)]; exact h3 c (by omega) q2, h4.tr (MkF.row (Nat.le_refl _) (by omega)), ⟨(va_up_ne _ _ (by omega)).trans h5.1, (va_up_ne _ _ (by omega)).trans h5.2.1, fun y hy => (rowS_rx (fun e => by rw [e, ha] at hy; cases hy)).trans (h5.2.2 y hy)⟩, fun y p hy hp => ?_⟩
  by_cases e : y = x
  · subst e; exact ⟨va_up_self _ _ _, fun _ => va_up_self _ _ _⟩
  · obtain ⟨g1, g2⟩ := h6 y p (by omega) hp
    exact ⟨(va_up_ne _ _ (by omega)).trans g1, fun q => (va_up_ne _ _ (by omega)).trans (g2 q)⟩
theorem Bd.ob (h : Bd ci a S0 I0 J0 n S I J) (ha : ∀ x, n ≤ x → arrOf ci x = none) : Ob S ci a := h.1.ob ha
section RL
variable {X : VX} {cc : ByteArray} {y : MethodName} {ret : Option FieldType} {rm : Room} {post : Option Value → HS → HI → HJ → Prop} {nc ns pc : Nat} {lv : List (Option Value)}
theorem V_bd (C : Cx X cc y ret rm) {ix kd ln : Nat} {i : Int32} (h : Bd ci a S0 I0 J0 x S I J) (ha : arrOf ci x = some (kd, ln)) (hx : x < nf ci) (hkd : kd ≠ 0) (hlv : ∀ v, some v ∈ lv → v = .ref a) (hF : ∀ c, a < c → c < a + 1 + nf ci → ¬ xF X c)
    (hnew : ∀ k : Nat, S.1 k = 0 → wfS S → ¬ xF X k → (∀ v, some v ∈ lv → clo (fun c => c ≠ k) v) → (∀ v, v ∈ [Value.ref a] → clo (fun c => c ≠ k) v) → V X post (nc + 1) (ns + ln) (pc + 2) lv [.ref k, .ref a] (nwS S k kd ln) (nwI I k) (nwJ J k) → V X post nc ns pc lv [.int i, .ref a] S I J)
    (hf : FL y.cls ix ci x) (ht : isRt (tyc ci x) = true) (hfin : (Tc ci x).2.2.2 = true) (hnm : y.name = "<init>") (hdc : (Tc ci x).1 = y.cls) (hd2 : decode cc (pc + 2) = .ok (.putfield ix, 3))
    (kk : ∀ S' I' J', Bd ci a S0 I0 J0 (x + 1) S' I' J' → (∀ c, c ≠ a + 1 + x → J' c = J c) → V X post (nc + 1) (ns + ln) (pc + 2 + 3) lv [] S' I' J') : V X post nc ns pc lv [.int i, .ref a] S I J := by
  have b1 := h.row ha hx hkd
  obtain ⟨h1, h2, h3, h4, h5, h6⟩ := h
  refine hnew (a + 1 + x) (h3 _ (by omega) (by omega)) h2 (hF _ (by omega) (by omega)) (fun v hv => by rw [hlv v hv]; show a ≠ a + 1 + x; omega) (fun v hv => by rw [List.mem_singleton] at hv; rw [hv]; show a ≠ a + 1 + x; omega) ?_
  refine V_putFR C hf (S := nwS S (a + 1 + x) kd ln) ?_ ht hfin hnm hdc hd2 (kk _ _ _ b1 (fun c hc => va_up_ne _ _ hc))
  exact (va_up_ne _ _ (by omega)).trans h1.1
theorem V_bdI (C : Cx X cc y ret rm) {ix ln : Nat} {i : Int32} (h : Bd ci a S0 I0 J0 x S I J) (ha : arrOf ci x = some (10, ln)) (hx : x < nf ci) (hlv : ∀ v, some v ∈ lv → v = .ref a) (hF : ∀ c, a < c → c < a + 1 + nf ci → ¬ xF X c) (hi : i = nI ln) (hn : ln ≤ 100000) (hc : nc + 1 ≤ rm.cells) (hs : ns + ln ≤ rm.slots) (hd : decode cc pc = .ok (.newarray .int, 2)) (hf : FL y.cls ix ci x) (ht : isRt (tyc ci x) = true) (hfin : (Tc ci x).2.2.2 = true) (hnm : y.name = "<init>") (hdc : (Tc ci x).1 = y.cls) (hd2 : decode cc (pc + 2) = .ok (.putfield ix, 3)) (kk : ∀ S' I' J', Bd ci a S0 I0 J0 (x + 1) S' I' J' → (∀ c, c ≠ a + 1 + x → J' c = J c) → V X post (nc + 1) (ns + ln) (pc + 2 + 3) lv [] S' I' J') : V X post nc ns pc lv [.int i, .ref a] S I J :=
  V_bd C h ha hx (by decide) hlv hF (fun k q1 q2 q3 q4 q5 q6 => V_newI C k ka_I hi hn q1 q2 q3 q4 q5 hc hs hd q6) hf ht hfin hnm hdc hd2 kk
theorem V_bdC (C : Cx X cc y ret rm) {ix ln : Nat} {i : Int32} (h : Bd ci a S0 I0 J0 x S I J) (ha : arrOf ci x = some (9, ln)) (hx : x < nf ci) (hlv : ∀ v, some v ∈ lv → v = .ref a) (hF : ∀ c, a < c → c < a + 1 + nf ci → ¬ xF X c) (hi : i = nI ln) (hn : ln ≤ 100000) (hc : nc + 1 ≤ rm.cells) (hs : ns + ln ≤ rm.slots) (hd : decode cc pc = .ok (.newarray .char, 2)) (hf : FL y.cls ix ci x) (ht : isRt (tyc ci x) = true) (hfin : (Tc ci x).2.2.2 = true) (hnm : y.name = "<init>") (hdc : (Tc ci x).1 = y.cls) (hd2 : decode cc (pc + 2) = .ok (.putfield ix, 3)) (kk : ∀ S' I' J', Bd ci a S0 I0 J0 (x + 1) S' I' J' → (∀ c, c ≠ a + 1 + x → J' c = J c) → V X post (nc + 1) (ns + ln) (pc + 2 + 3) lv [] S' I' J') : V X post nc ns pc lv [.int i, .ref a] S I J :=
  V_bd C h ha hx (by decide) hlv hF (fun k q1 q2 q3 q4 q5 q6 => V_newC C k ka_C hi hn q1 q2 q3 q4 q5 hc hs hd q6) hf ht hfin hnm hdc hd2 kk
theorem V_bdL (C : Cx X cc y ret rm) {ix ln : Nat} {i : Int32} (h : Bd ci a S0 I0 J0 x S I J) (ha : arrOf ci x = some (11, ln)) (hx : x < nf ci) (hlv : ∀ v, some v ∈ lv → v = .ref a) (hF : ∀ c, a < c → c < a + 1 + nf ci → ¬ xF X c) (hi : i = nI ln) (hn : ln ≤ 100000) (hc : nc + 1 ≤ rm.cells) (hs : ns + ln ≤ rm.slots) (hd : decode cc pc = .ok (.newarray .long, 2)) (hf : FL y.cls ix ci x) (ht : isRt (tyc ci x) = true) (hfin : (Tc ci x).2.2.2 = true) (hnm : y.name = "<init>") (hdc : (Tc ci x).1 = y.cls) (hd2 : decode cc (pc + 2) = .ok (.putfield ix, 3)) (kk : ∀ S' I' J', Bd ci a S0 I0 J0 (x + 1) S' I' J' → (∀ c, c ≠ a + 1 + x → J' c = J c) → V X post (nc + 1) (ns + ln) (pc + 2 + 3) lv [] S' I' J') : V X post nc ns pc lv [.int i, .ref a] S I J :=
  V_bd C h ha hx (by decide) hlv hF (fun k q1 q2 q3 q4 q5 q6 => V_newL C k ka_L hi hn q1 q2 q3 q4 q5 hc hs hd q6) hf ht hfin hnm hdc hd2 kk
theorem V_bdZ (C : Cx X cc y ret rm) {ix ln : Nat} {i : Int32} (h : Bd ci a S0 I0 J0 x S I J) (ha : arrOf ci x = some (12, ln)) (hx : x < nf ci) (hlv : ∀ v, some v ∈ lv → v = .ref a) (hF : ∀ c, a < c → c < a + 1 + nf ci → ¬ xF X c) (hi : i = nI ln) (hn : ln ≤ 100000) (hc : nc + 1 ≤ rm.cells) (hs : ns + ln ≤ rm.slots) (hd : decode cc pc = .ok (.newarray .boolean, 2)) (hf : FL y.cls ix ci x) (ht : isRt (tyc ci x) = true) (hfin : (Tc ci x).2.2.2 = true) (hnm : y.name = "<init>") (hdc : (Tc ci x).1 = y.cls) (hd2 : decode cc (pc + 2) = .ok (.putfield ix, 3)) (kk : ∀ S' I' J', Bd ci a S0 I0 J0 (x + 1) S' I' J' → (∀ c, c ≠ a + 1 + x → J' c = J c) → V X post (nc + 1) (ns + ln) (pc + 2 + 3) lv [] S' I' J') : V X post nc ns pc lv [.int i, .ref a] S I J :=
  V_bd C h ha hx (by decide) hlv hF (fun k q1 q2 q3 q4 q5 q6 => V_newZ C k ka_Z hi hn q1 q2 q3 q4 q5 hc hs hd q6) hf ht hfin hnm hdc hd2 kk
end RL
theorem lv_a1 : ∀ v, some v ∈ lvs 1 [Value.ref a] → v = .ref a := by
  intro v hv
  have hv : some v ∈ [some (Value.ref a)] := hv
  rw [List.mem_singleton] at hv
  exact Option.some.inj hv
theorem arr_no {n : Nat} (h : (∀ x, x < 52 → n ≤ x → arrOf ci x = none)) : ∀ x, n ≤ x → arrOf ci x = none := by
  intro x hx
  rcases Nat.lt_or_ge x 52 with g | g
  · exact h x g hx
  · cases e : arrOf ci x with
    | none => rfl
    | some p => have := arr_le (kd := p.1) (ln := p.2) e; omega
set_option maxRecDepth 100000 in
theorem c_tapeInit (hK : S.1 a = 6) (hf : ∀ c, a < c → c < a + 3 → S.1 c = 0) (hw : wfS S) (ha : a + 3 ≤ 5000) : Mt l yX5_init cX5_init 1 none (rmc 1 1 1000) (fun c => ¬ (a < c ∧ c < a + 3)) [.ref a] S I J (fun v S' I' J' => v = none ∧ Bd 5 a S I J 2 S' I' J') := by
  refine Mt.of (by decide) (fun ad => by simp [lg_sl, vv, Value.category]) (fun c hc => by show ¬ (a < c ∧ c < a + 3); omega) (fun X hX hN hF C => ?_)
  have nF : ∀ c, a < c → c < a + 1 + nf 5 → ¬ xF X c := fun c h1 h2 => by rw [hF]; exact fun q => q ⟨h1, h2⟩
  have b0 : Bd 5 a S I J 1 S I J := (Bd.z hK hw hf).skip (by omega) (fun x _ hx => by match x, hx with | 0, _ => rfl)
  refine V_aload_n C dX5_init_0 rfl ?_
  refine V_objInit C ml_X5_3 (by decide) (by decide) dX5_init_1 ?_
  refine V_aload_n C dX5_init_4 rfl ?_
  refine V_sipush C (v := nI 1000) dX5_init_5 rfl ?_
  refine V_bdC C b0 (ln := 1000) rfl (by decide) lv_a1 nF rfl (by omega) (by decide) (by decide) dX5_init_8 fl_X5_9 rfl rfl rfl rfl dX5_init_10 (fun S1 I1 J1 b1 _ => ?_)
  exact V_vret C (by decide) (by decide) dX5_init_13 ⟨rfl, b1⟩
set_option maxRecDepth 100000 in
theorem c_readerInit {t w : Nat} (hK : S.1 a = 5) : Mt l yX4_init cX4_init 3 none (rmc 1 0 0) (fun _ => True) [.ref a, .ref t, .ref w] S I J (fun v S' I' J' => v = none ∧ S' = (S.1, S.2.1, up2 (up2 S.2.2 a 0 (some t)) a 1 (some w)) ∧ I' = I ∧ J' = J) := by
  refine Mt.of (by decide) (fun ad => by simp [lg_sl, vv, Value.category]) (fun c hc => trivial) (fun X hX hN hF C => ?_)
  refine V_aload_n C dX4_init_0 rfl ?_
  refine V_objInit C ml_X4_3 (by decide) (by decide) dX4_init_1 ?_
  refine V_aload_n C dX4_init_4 rfl ?_
  refine V_aload_n C dX4_init_5 rfl ?_
  refine V_putFR C fl_X4_9 hK rfl rfl rfl rfl dX4_init_6 ?_
  refine V_aload_n C dX4_init_9 rfl ?_
  refine V_aload_n C dX4_init_10 rfl ?_
  refine V_putR C fl_X4_15 (S := (S.1, S.2.1, up2 S.2.2 a 0 (some t))) hK rfl rfl dX4_init_11 ?_
  exact V_vret C (by decide) (by decide) dX4_init_14 ⟨rfl, rfl, rfl, rfl⟩
set_option maxRecDepth 100000 in
set_option maxHeartbeats 1000000 in
theorem c_lawsClear (hL : Ob S 2 a) : Mn l yX2_clear cX2_clear 2 none 0 [.ref a] S I J (fun v I' J' => v = none ∧ (∀ c, c ≠ a → c ≠ a + 9 → c ≠ a + 10 → I' c = I c) ∧ (I' a 0 = nI 0 ∧ I' a 1 = nI 0 ∧ I' a 2 = nI 0) ∧ (∀ k, k < 9 → I' (a + 9) k = -1 ∧ I' (a + 10) k = -1) ∧ J' = J) := by
  refine Mn.of (by decide) (fun ad => by simp [lg_sl, vv, Value.category]) (fun X P hP hn C => ?_)
  have loop : ∀ (c x : Nat) (In : HI), x + c = 9 → (∀ c, c ≠ a → c ≠ a + 9 → c ≠ a + 10 → In c = I c) → (In a 0 = nI 0 ∧ In a 1 = nI 0 ∧ In a 2 = nI 0) → (∀ k, k < x → In (a + 9) k = -1 ∧ In (a + 10) k = -1) → V X P 0 0 17 [some (.ref a), some (.int (nI x))] [] S In J := by
    intro c
    induction c with
    | zero =>
      intro x In hx f0 f1 f2
      have hx : x = 9 := hx
      subst hx
      refine V_iload_n C dX2_clear_17 rfl ?_
      refine V_bipush C (v := nI 9) dX2_clear_18 (by decide +kernel) ?_
      refine V_icmp_ge C 43 dX2_clear_20 (by decide) (fun h20 => ?_) (fun h20 => absurd (Int32.le_refl _) h20)
      exact V_vret C (Nat.zero_le _) (Nat.zero_le _) dX2_clear_43 (hP _ _ _ ⟨rfl, f0, f1, f2, rfl⟩)
    | succ c ih =>
      intro x In hx f0 f1 f2
      have nx := ih (x + 1) (up2 (up2 In (a + 9) x (-1)) (a + 10) x (-1)) (by omega) (fun c h1 h2 h3 => by rw [up2_ne _ _ _ h3, up2_ne _ _ _ h2]; exact f0 c h1 h2 h3) (by rw [up2_ne _ _ _ (by omega), up2_ne _ _ _ (by omega)]; exact f1) (fun k hk => by
        rw [up2_ne _ _ _ (show a + 9 ≠ a + 10 by omega), up2_row, up2_row, up2_ne _ _ _ (show a + 10 ≠ a + 9 by omega)]
        by_cases e : k = x
        · subst e; rw [va_up_self, va_up_self]; exact ⟨rfl, rfl⟩
        · rw [va_up_ne _ _ e, va_up_ne _ _ e]; exact f2 k (by omega))
      refine V_iload_n C dX2_clear_17 rfl ?_
      refine V_bipush C (v := nI 9) dX2_clear_18 (by decide +kernel) ?_
      refine V_icmp_ge C 43 dX2_clear_20 (by decide) (fun h20 => absurd h20 (nI_ge (by omega) (by omega))) (fun h20 => ?_)
      refine V_aload_n C dX2_clear_23 rfl ?_
      refine V_getR C fl_X2_27 (ob_K hL) (ob_R hL 8 (a + 9) rfl rfl) rfl dX2_clear_24 ?_
      refine V_iload_n C dX2_clear_27 rfl ?_
      refine V_iconst C (v := (-1)) dX2_clear_28 (by decide +kernel) ?_
      refine V_iast C (x) (ob_A hL 8 (a + 9) rfl rfl) (by first | rfl | (simp only [nI_add, pk_mul]; done) | (simp only [nI_add, pk_mul]; congr 1; omega)) (by rw [ob_N hL 8 (a + 9) rfl rfl]; omega) (by rw [ob_N hL 8 (a + 9) rfl rfl]; decide) dX2_clear_29 ?_
      refine V_aload_n C dX2_clear_30 rfl ?_
      refine V_getR C fl_X2_30 (ob_K hL) (ob_R hL 9 (a + 10) rfl rfl) rfl dX2_clear_31 ?_
      refine V_iload_n C dX2_clear_34 rfl ?_
      refine V_iconst C (v := (-1)) dX2_clear_35 (by decide +kernel) ?_
      refine V_iast C (x) (ob_A hL 9 (a + 10) rfl rfl) (by first | rfl | (simp only [nI_add, pk_mul]; done) | (simp only [nI_add, pk_mul]; congr 1; omega)) (by rw [ob_N hL 9 (a + 10) rfl rfl]; omega) (by rw [ob_N hL 9 (a + 10) rfl rfl]; decide) dX2_clear_36 ?_
      refine V_iincU C dX2_clear_37 rfl (hn _ (by decide)) ?_
      refine V_goto C 17 dX2_clear_40 (by decide) ?_
      exact nx
  refine V_aload_n C dX2_clear_0 rfl ?_
  refine V_iconst C (v := nI 0) dX2_clear_1 (by decide +kernel) ?_
  refine V_putI C fl_X2_42 (ob_K hL) rfl rfl dX2_clear_2 ?_
  refine V_aload_n C dX2_clear_5 rfl ?_
  refine V_iconst C (v := nI 0) dX2_clear_6 (by decide +kernel) ?_
  refine V_putI C fl_X2_46 (ob_K hL) rfl rfl dX2_clear_7 ?_
  refine V_aload_n C dX2_clear_10 rfl ?_
  refine V_iconst C (v := nI 0) dX2_clear_11 (by decide +kernel) ?_
  refine V_putI C fl_X2_49 (ob_K hL) rfl rfl dX2_clear_12 ?_
  refine V_iconst C (v := nI 0) dX2_clear_15 (by decide +kernel) ?_
  refine V_istore_n C dX2_clear_16 (hn _ (by decide)) ?_
  exact loop 9 0 _ rfl (fun c h1 _ _ => by rw [up2_ne _ _ _ h1, up2_ne _ _ _ h1, up2_ne _ _ _ h1]) ⟨by rw [up2_row, va_up_ne _ _ (by decide), up2_row, va_up_ne _ _ (by decide), up2_row, va_up_self], by rw [up2_row, va_up_ne _ _ (by decide), up2_row, va_up_self], by rw [up2_row, va_up_self]⟩ (fun k hk => absurd hk (by omega))
set_option maxRecDepth 100000 in
set_option maxHeartbeats 1000000 in
theorem c_lawsInit (hK : S.1 a = 3) (hf : ∀ c, a < c → c < a + 13 → S.1 c = 0) (hw : wfS S) (ha : a + 13 ≤ 5000) : Mt l yX2_init cX2_init 1 none (rmc 2 9 1171) (fun c => ¬ (a < c ∧ c < a + 13)) [.ref a] S I J (fun v S' I' J' => v = none ∧ Ob S' 2 a ∧ wfS S' ∧ MkF a (a + 13) S I J S' I' J' ∧ CL I' a []) := by
  refine Mt.of (by decide) (fun ad => by simp [lg_sl, vv, Value.category]) (fun c hc => by show ¬ (a < c ∧ c < a + 13); omega) (fun X hX hN hF C => ?_)
  have nF : ∀ c, a < c → c < a + 1 + nf 2 → ¬ xF X c := fun c h1 h2 => by rw [hF]; exact fun q => q ⟨h1, by have : nf 2 = 12 := rfl; omega⟩
  have b0 : Bd 2 a S I J 3 S I J := (Bd.z hK hw (fun c h1 h2 => hf c h1 (by have : nf 2 = 12 := rfl; omega))).skip (by omega) (fun x _ hx => by match x, hx with | 0, _ => rfl | 1, _ => rfl | 2, _ => rfl)
  refine V_aload_n C dX2_init_0 rfl ?_
  refine V_objInit C ml_X2_3 (by decide) (by decide) dX2_init_1 ?_
  refine V_aload_n C dX2_init_4 rfl ?_
  refine V_bipush C (v := nI 24) dX2_init_5 rfl ?_
  refine V_bdI C b0 (ln := 24) rfl (by decide) lv_a1 nF rfl (by omega) (by decide) (by decide) dX2_init_7 fl_X2_11 rfl rfl rfl rfl dX2_init_9 (fun S1 I1 J1 b1 _ => ?_)
  refine V_aload_n C dX2_init_12 rfl ?_
  refine V_bipush C (v := nI 24) dX2_init_13 rfl ?_
  refine V_bdI C b1 (ln := 24) rfl (by decide) lv_a1 nF rfl (by omega) (by decide) (by decide) dX2_init_15 fl_X2_15 rfl rfl rfl rfl dX2_init_17 (fun S2 I2 J2 b2 _ => ?_)
  refine V_aload_n C dX2_init_20 rfl ?_
  refine V_bipush C (v := nI 24) dX2_init_21 rfl ?_
  refine V_bdI C b2 (ln := 24) rfl (by decide) lv_a1 nF rfl (by omega) (by decide) (by decide) dX2_init_23 fl_X2_18 rfl rfl rfl rfl dX2_init_25 (fun S3 I3 J3 b3 _ => ?_)
  refine V_aload_n C dX2_init_28 rfl ?_
  refine V_bipush C (v := nI 25) dX2_init_29 rfl ?_
  refine V_bdI C b3 (ln := 25) rfl (by decide) lv_a1 nF rfl (by omega) (by decide) (by decide) dX2_init_31 fl_X2_21 rfl rfl rfl rfl dX2_init_33 (fun S4 I4 J4 b4 _ => ?_)
  refine V_aload_n C dX2_init_36 rfl ?_
  refine V_bipush C (v := nI 24) dX2_init_37 rfl ?_
  refine V_bdI C b4 (ln := 24) rfl (by decide) lv_a1 nF rfl (by omega) (by decide) (by decide) dX2_init_39 fl_X2_24 rfl rfl rfl rfl dX2_init_41 (fun S5 I5 J5 b5 _ => ?_)
  refine V_aload_n C dX2_init_44 rfl ?_
  refine V_bipush C (v := nI 9) dX2_init_45 rfl ?_
  refine V_bdI C b5 (ln := 9) rfl (by decide) lv_a1 nF rfl (by omega) (by decide) (by decide) dX2_init_47 fl_X2_27 rfl rfl rfl rfl dX2_init_49 (fun S6 I6 J6 b6 _ => ?_)
  refine V_aload_n C dX2_init_52 rfl ?_
  refine V_bipush C (v := nI 9) dX2_init_53 rfl ?_
  refine V_bdI C b6 (ln := 9) rfl (by decide) lv_a1 nF rfl (by omega) (by decide) (by decide) dX2_init_55 fl_X2_30 rfl rfl rfl rfl dX2_init_57 (fun S7 I7 J7 b7 _ => ?_)
  refine V_aload_n C dX2_init_60 rfl ?_
  refine V_sipush C (v := nI 1000) dX2_init_61 rfl ?_
  refine V_bdI C b7 (ln := 1000) rfl (by decide) lv_a1 nF rfl (by omega) (by decide) (by decide) dX2_init_64 fl_X2_33 rfl rfl rfl rfl dX2_init_66 (fun S8 I8 J8 b8 _ => ?_)
  refine V_aload_n C dX2_init_69 rfl ?_
  refine V_bipush C (v := nI 32) dX2_init_70 rfl ?_
  refine V_bdI C b8 (ln := 32) rfl (by decide) lv_a1 nF rfl (by omega) (by decide) (by decide) dX2_init_72 fl_X2_36 rfl rfl rfl rfl dX2_init_74 (fun S9 I9 J9 b9 _ => ?_)
  have o9 : Ob S9 2 a := b9.ob (arr_no (by decide))
  refine V_aload_n C dX2_init_77 rfl ?_
  refine V_callV (F := fun _ => True) C (c_lawsClear o9) mi_X2_clear ml_X2_39 rfl (ob_K o9) (by decide) (by decide) (by decide) (Nat.le_of_ble_eq_true rfl) (fun _ _ => trivial) (fun v _ => clo_T v) rfl dX2_init_78 ?_
  rintro v S' I' J' ⟨hS9, rfl, f0, f1, f2, hJ9⟩
  obtain rfl := hS9.symm
  obtain rfl := hJ9.symm
  refine V_vret C (by decide) (by decide) dX2_init_81 ⟨rfl, o9, b9.2.1, fun c hc => ?_, ?_⟩
  · obtain ⟨m1, m2, m3, m4, m5⟩ := b9.2.2.2.1 c (by have : nf 2 = 12 := rfl; omega)
    exact ⟨m1, m2, m3, (f0 c (by omega) (by omega) (by omega)).trans m4, m5⟩
  · exact ⟨f1.1, f1.2.1, fun k hk => (f2 k hk).1, by decide, by decide, trivial, fun w hw => by cases hw⟩
theorem Bd.jw (h : Bd 7 1000 S0 I0 J0 10 S I J) (hJ : ∀ c, c ≠ 1010 → J' c = J c) : Bd 7 1000 S0 I0 J0 10 S I J' := by
  obtain ⟨h1, h2, h3, h4, h5, h6⟩ := h
  refine ⟨h1, h2, h3, fun c hc => ?_, ⟨h5.1, (hJ 1000 (by decide)).trans h5.2.1, h5.2.2⟩, fun y p hy hp => ?_⟩
  · have : nf 7 = 52 := rfl
    obtain ⟨e1, e2, e3, e4, e5⟩ := h4 c hc
    exact ⟨e1, e2, e3, e4, (hJ c (by omega)).trans e5⟩
  · obtain ⟨g1, g2⟩ := h6 y p hy hp
    exact ⟨g1, fun q => (hJ _ (fun e => q ⟨rfl, by omega⟩)).trans (g2 q)⟩
end C26
