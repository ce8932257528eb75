/-! the class's reader: codes are laid behind codes -/
section C34
variable {l : Launch} {S : HS} {I I' I2 : HI} {J : HJ} {la : Nat} {T : List Int32}
/-- what the reading of an E leaves as it was -/
def CFr (la m q : Nat) (I I' : HI) : Prop := (∀ b, b ≠ 1130 → b ≠ la → b ≠ la + 7 → b ≠ la + 11 → I' b = I b) ∧ (∀ x, x ≠ 2 → I' la x = I la x) ∧ (∀ x, x ≠ m → I' (la + 7) x = I (la + 7) x) ∧ ∀ i, i < q → I' (la + 11) i = I (la + 11) i
abbrev hLA (la : Nat) : Prop := la = 1160 ∨ la = 1180
theorem CFr.re {m q : Nat} : CFr la m q I I := ⟨fun _ _ _ _ _ => rfl, fun _ _ => rfl, fun _ _ => rfl, fun _ _ => rfl⟩
theorem CFr.tr {m q q2 : Nat} (h : CFr la m q I I2) (hq : q ≤ q2) (g : CFr la m q2 I2 I') : CFr la m q I I' := ⟨fun b h1 h2 h3 h4 => (g.1 b h1 h2 h3 h4).trans (h.1 b h1 h2 h3 h4), fun x hx => (g.2.1 x hx).trans (h.2.1 x hx), fun x hx => (g.2.2.1 x hx).trans (h.2.2.1 x hx), fun i hi => (g.2.2.2 i (by omega)).trans (h.2.2.2 i hi)⟩
theorem CFr.le {m q q0 : Nat} (h : CFr la m q I I') (hq : q0 ≤ q) : CFr la m q0 I I' := ⟨h.1, h.2.1, h.2.2.1, fun i hi => h.2.2.2 i (by omega)⟩
theorem CFr.rd {m q : Nat} (hla : hLA la) (f : ∀ b, b ≠ 1130 → I' b = I b) : CFr la m q I I' := by
  have h1 : la ≠ 1130 := by omega
  have h2 : la + 7 ≠ 1130 := by omega
  have h3 : la + 11 ≠ 1130 := by omega
  exact ⟨fun b hb _ _ _ => f b hb, fun x _ => by rw [f la h1], fun x _ => by rw [f _ h2], fun i _ => by rw [f _ h3]⟩
theorem TG.fr {m q : Nat} (hla : hLA la) (h : TG I T) (f : CFr la m q I I') : TG I' T := ⟨⟨by rw [f.1 1120 (by decide) (by omega) (by omega) (by omega)]; exact h.1.1, fun i hi => by rw [f.1 1122 (by decide) (by omega) (by omega) (by omega)]; exact h.1.2 i hi⟩, h.2⟩
/-- the laws under way: m of them, q codes -/
def LSt (I : HI) (la m q : Nat) : Prop := I la 0 = nI m ∧ I la 2 = nI q ∧ I (la + 7) m = nI q
theorem LSt.rd {m q : Nat} (hla : hLA la) (h : LSt I la m q) (f : ∀ b, b ≠ 1130 → I' b = I b) : LSt I' la m q := ⟨by rw [f la (by omega)]; exact h.1, by rw [f la (by omega)]; exact h.2.1, by rw [f (la + 7) (by omega)]; exact h.2.2⟩
def adC (I : HI) (la m q : Nat) (x : Int32) : HI := up2 (up2 (up2 I (la + 11) q x) la 2 (nI (q + 1))) (la + 7) m (nI (q + 1))
theorem adC_ls {m q : Nat} {x : Int32} (h : I la 0 = nI m) : LSt (adC I la m q x) la m (q + 1) := by
  unfold adC
  refine ⟨?_, ?_, ?_⟩
  · rw [up2_ne _ _ _ (by omega), up2_row, va_up_ne _ _ (by decide), up2_ne _ _ _ (by omega)]; exact h
  · rw [up2_ne _ _ _ (by omega), up2_row, va_up_self]
  · rw [up2_row, va_up_self]
theorem adC_fr {m q : Nat} {x : Int32} : CFr la m q I (adC I la m q x) := by
  unfold adC
  refine ⟨fun b h1 h2 h3 h4 => by rw [up2_ne _ _ _ h3, up2_ne _ _ _ h2, up2_ne _ _ _ h4], fun y hy => ?_, fun y hy => ?_, fun i hi => ?_⟩
  · rw [up2_ne _ _ _ (by omega), up2_row, va_up_ne _ _ hy, up2_ne _ _ _ (by omega)]
  · rw [up2_row, va_up_ne _ _ hy, up2_ne _ _ _ (by omega), up2_ne _ _ _ (by omega)]
  · rw [up2_ne _ _ _ (by omega), up2_ne _ _ _ (by omega), up2_row, va_up_ne _ _ (by omega)]
theorem adC_at {m q : Nat} {x : Int32} : adC I la m q x (la + 11) q = x := by
  unfold adC
  rw [up2_ne _ _ _ (by omega), up2_ne _ _ _ (by omega), up2_row, va_up_self]
theorem adC_rd {m q a : Nat} {x f : Int32} (hla : hLA la) (h : RSt I T a f) : RSt (adC I la m q x) T a f := by
  have e : adC I la m q x 1130 = I 1130 := by
    unfold adC
    rw [up2_ne _ _ _ (by omega), up2_ne _ _ _ (by omega), up2_ne _ _ _ (by omega)]
  unfold RSt rdT
  rw [e]
  exact h
set_option maxRecDepth 100000 in
theorem c_addCode (hL : Ob S 2 la) {m q : Nat} (h0 : I la 0 = nI m) (hm : m ≤ 24) (h2 : I la 2 = nI q) (hq : q < 1000) (op v : Int32) : Mn l yX2_addCode cX2_addCode 3 none 0 [.ref la, .int op, .int v] S I J (fun r I' J' => r = none ∧ I' = adC I la m q (op + (v <<< (nI 5 &&& 31))) ∧ J' = J) := by
  refine Mn.of (by decide) (fun ad => by simp [lg_sl, vv, Value.category]) (fun X P hP hn C => ?_)
  obtain ⟨x, hx⟩ : ∃ x, x = op + (v <<< (nI 5 &&& 31)) := ⟨_, rfl⟩
  rw [← hx] at hP
  have e1 : up2 I (la + 11) q x la 2 + nI 1 = nI (q + 1) := by rw [up2_ne _ _ _ (by omega), h2, nI_add]
  have e2 : up2 (up2 I (la + 11) q x) la 2 (nI (q + 1)) la 0 = nI m := by rw [up2_row, va_up_ne _ _ (by decide), up2_ne _ _ _ (by omega)]; exact h0
  have e3 : up2 (up2 I (la + 11) q x) la 2 (nI (q + 1)) la 2 = nI (q + 1) := by rw [up2_row, va_up_self]
  refine V_aload_n C dX2_addCode_0 rfl ?_
  refine V_getI C fl_X2_49 (ob_K hL) rfl dX2_addCode_1 ?_
  refine V_sipush C (v := nI 1000) dX2_addCode_4 (by decide +kernel) ?_
  refine V_icmp_ge C 47 dX2_addCode_7 (by decide) (fun h7 => absurd h7 (by rw [h2]; exact nI_ge hq (by omega))) (fun h7 => ?_)
  refine V_aload_n C dX2_addCode_10 rfl ?_
  refine V_getR C fl_X2_33 (ob_K hL) (ob_R hL 10 (la + 11) rfl rfl) rfl dX2_addCode_11 ?_
  refine V_aload_n C dX2_addCode_14 rfl ?_
  refine V_getI C fl_X2_49 (ob_K hL) rfl dX2_addCode_15 ?_
  refine V_iload_n C dX2_addCode_18 rfl ?_
  refine V_iload_n C dX2_addCode_19 rfl ?_
  refine V_iconst C (v := nI 5) dX2_addCode_20 (by decide +kernel) ?_
  refine V_ishl C dX2_addCode_21 ?_
  refine V_iadd C dX2_addCode_22 ?_
  rw [← hx]
  refine V_iast C (q) (ob_A hL 10 (la + 11) rfl rfl) h2 (by rw [ob_N hL 10 (la + 11) rfl rfl]; omega) (by rw [ob_N hL 10 (la + 11) rfl rfl]; decide) dX2_addCode_23 ?_
  refine V_aload_n C dX2_addCode_24 rfl ?_
  refine V_dup C dX2_addCode_25 rfl ?_
  refine V_getI C fl_X2_49 (ob_K hL) rfl dX2_addCode_26 ?_
  refine V_iconst C (v := nI 1) dX2_addCode_29 (by decide +kernel) ?_
  refine V_iadd C dX2_addCode_30 ?_
  rw [e1]
  refine V_putI C fl_X2_49 (ob_K hL) rfl rfl dX2_addCode_31 ?_
  refine V_aload_n C dX2_addCode_34 rfl ?_
  refine V_getR C fl_X2_21 (ob_K hL) (ob_R hL 6 (la + 7) rfl rfl) rfl dX2_addCode_35 ?_
  refine V_aload_n C dX2_addCode_38 rfl ?_
  refine V_getI C fl_X2_42 (ob_K hL) rfl dX2_addCode_39 ?_
  refine V_aload_n C dX2_addCode_42 rfl ?_
  refine V_getI C fl_X2_49 (ob_K hL) rfl dX2_addCode_43 ?_
  rw [e3]
  refine V_iast C (m) (ob_A hL 6 (la + 7) rfl rfl) e2 (by rw [ob_N hL 6 (la + 7) rfl rfl]; omega) (by rw [ob_N hL 6 (la + 7) rfl rfl]; decide) dX2_addCode_46 ?_
  exact V_vret C (Nat.zero_le _) (Nat.zero_le _) dX2_addCode_47 (hP _ _ _ ⟨rfl, rfl, rfl⟩)
set_option maxRecDepth 100000 in
/-- with a fault: whatever is laid, nothing that counts -/
theorem c_addCodeF (hL : Ob S 2 la) {m q q0 : Nat} (h0 : I la 0 = nI m) (hm : m ≤ 24) (h2 : I la 2 = nI q) (hq : q ≤ 1000) (hq0 : q0 ≤ q) (hla : hLA la) (op v : Int32) : Mn l yX2_addCode cX2_addCode 3 none 0 [.ref la, .int op, .int v] S I J (fun r I' J' => r = none ∧ (CFr la m q0 I I' ∧ I' 1130 = I 1130 ∧ ∃ q', q0 ≤ q' ∧ q' ≤ 1000 ∧ I' la 2 = nI q') ∧ J' = J) := by
  refine Mn.of (by decide) (fun ad => by simp [lg_sl, vv, Value.category]) (fun X P hP hn C => ?_)
  by_cases hq1 : q < 1000
  · obtain ⟨x, hx⟩ : ∃ x, x = op + (v <<< (nI 5 &&& 31)) := ⟨_, rfl⟩
    have e1 : up2 I (la + 11) q x la 2 + nI 1 = nI (q + 1) := by rw [up2_ne _ _ _ (by omega), h2, nI_add]
    have e2 : up2 (up2 I (la + 11) q x) la 2 (nI (q + 1)) la 0 = nI m := by rw [up2_row, va_up_ne _ _ (by decide), up2_ne _ _ _ (by omega)]; exact h0
    have e3 : up2 (up2 I (la + 11) q x) la 2 (nI (q + 1)) la 2 = nI (q + 1) := by rw [up2_row, va_up_self]
    have e4 : adC I la m q x 1130 = I 1130 := by
      unfold adC
      rw [up2_ne _ _ _ (by omega), up2_ne _ _ _ (by omega), up2_ne _ _ _ (by omega)]
    have fin : P none S (adC I la m q x) J := hP _ _ _ ⟨rfl, ⟨CFr.le adC_fr hq0, e4, q + 1, by omega, by omega, (adC_ls h0).2.1⟩, rfl⟩
    refine V_aload_n C dX2_addCode_0 rfl ?_
    refine V_getI C fl_X2_49 (ob_K hL) rfl dX2_addCode_1 ?_
    refine V_sipush C (v := nI 1000) dX2_addCode_4 (by decide +kernel) ?_
    refine V_icmp_ge C 47 dX2_addCode_7 (by decide) (fun h7 => absurd h7 (by rw [h2]; exact nI_ge hq1 (by omega))) (fun h7 => ?_)
    refine V_aload_n C dX2_addCode_10 rfl ?_
    refine V_getR C fl_X2_33 (ob_K hL) (ob_R hL 10 (la + 11) rfl rfl) rfl dX2_addCode_11 ?_
    refine V_aload_n C dX2_addCode_14 rfl ?_
    refine V_getI C fl_X2_49 (ob_K hL) rfl dX2_addCode_15 ?_
    refine V_iload_n C dX2_addCode_18 rfl ?_
    refine V_iload_n C dX2_addCode_19 rfl ?_
    refine V_iconst C (v := nI 5) dX2_addCode_20 (by decide +kernel) ?_
    refine V_ishl C dX2_addCode_21 ?_
    refine V_iadd C dX2_addCode_22 ?_
    rw [← hx]
    refine V_iast C (q) (ob_A hL 10 (la + 11) rfl rfl) h2 (by rw [ob_N hL 10 (la + 11) rfl rfl]; omega) (by rw [ob_N hL 10 (la + 11) rfl rfl]; decide) dX2_addCode_23 ?_
    refine V_aload_n C dX2_addCode_24 rfl ?_
    refine V_dup C dX2_addCode_25 rfl ?_
    refine V_getI C fl_X2_49 (ob_K hL) rfl dX2_addCode_26 ?_
    refine V_iconst C (v := nI 1) dX2_addCode_29 (by decide +kernel) ?_
    refine V_iadd C dX2_addCode_30 ?_
    rw [e1]
    refine V_putI C fl_X2_49 (ob_K hL) rfl rfl dX2_addCode_31 ?_
    refine V_aload_n C dX2_addCode_34 rfl ?_
    refine V_getR C fl_X2_21 (ob_K hL) (ob_R hL 6 (la + 7) rfl rfl) rfl dX2_addCode_35 ?_
    refine V_aload_n C dX2_addCode_38 rfl ?_
    refine V_getI C fl_X2_42 (ob_K hL) rfl dX2_addCode_39 ?_
    refine V_aload_n C dX2_addCode_42 rfl ?_
    refine V_getI C fl_X2_49 (ob_K hL) rfl dX2_addCode_43 ?_
    rw [e3]
    refine V_iast C (m) (ob_A hL 6 (la + 7) rfl rfl) e2 (by rw [ob_N hL 6 (la + 7) rfl rfl]; omega) (by rw [ob_N hL 6 (la + 7) rfl rfl]; decide) dX2_addCode_46 ?_
    exact V_vret C (Nat.zero_le _) (Nat.zero_le _) dX2_addCode_47 fin
  · refine V_aload_n C dX2_addCode_0 rfl ?_
    refine V_getI C fl_X2_49 (ob_K hL) rfl dX2_addCode_1 ?_
    refine V_sipush C (v := nI 1000) dX2_addCode_4 (by decide +kernel) ?_
    refine V_icmp_ge C 47 dX2_addCode_7 (by decide) (fun h7 => ?_) (fun h7 => absurd (by rw [h2]; exact nI_le (by omega) (by omega)) h7)
    exact V_vret C (Nat.zero_le _) (Nat.zero_le _) dX2_addCode_47 (hP _ _ _ ⟨rfl, ⟨CFr.re, rfl, q, hq0, hq, h2⟩, rfl⟩)
/-! lists of codes -/
theorem cxC_app : ∀ (c c' : Cds) (p : Nat), cxC I la c p → cxC I la c' (p + c.length) → cxC I la (c ++ c') p := by
  intro c
  induction c with
  | nil => intro c' p _ h; exact h
  | cons x c ih =>
    intro c' p h h'
    refine ⟨h.1, ih c' (p + 1) h.2 ?_⟩
    rw [List.length_cons] at h'
    rw [show p + 1 + c.length = p + (c.length + 1) by omega]
    exact h'
theorem cxC_kp : ∀ (c : Cds) (p : Nat), (∀ i, p ≤ i → i < p + c.length → I' (la + 11) i = I (la + 11) i) → cxC I la c p → cxC I' la c p := by
  intro c
  induction c with
  | nil => intro p _ _; trivial
  | cons x c ih =>
    intro p h hm
    rw [List.length_cons] at h
    exact ⟨by rw [h p (Nat.le_refl _) (by omega)]; exact hm.1, ih (p + 1) (fun i g1 g2 => h i (by omega) (by omega)) hm.2⟩
/-- what a reader of an E leaves -/
def CPost (T : List Int32) (la m a q : Nat) (I I' : HI) (r : PR) : Prop := match r with
  | .error e => 0 < e ∧ I' 1130 2 = e ∧ (∃ q', q ≤ q' ∧ q' ≤ 1000 ∧ I' la 2 = nI q') ∧ CFr la m q I I'
  | .ok (c, a') => a < a' ∧ a' < (toks T).length ∧ a + c.length ≤ a' ∧ RSt I' T a' 0 ∧ LSt I' la m (q + c.length) ∧ cxC I' la c q ∧ CFr la m q I I'
def CM (y : MethodName) (cc : ByteArray) (nL n d : Nat) (S : HS) (J : HJ) (T : List Int32) (la m : Nat) (sub : Nat → PR) : Prop := ∀ (l : Launch) (I : HI) (a q : Nat), TG I T → RSt I T a 0 → LSt I la m q → a < (toks T).length → q ≤ a → Mn l y cc nL none n [.ref 1130, .int (nI d)] S I J (fun v I' J' => v = none ∧ CPost T la m a q I I' (sub a) ∧ J' = J)
theorem sl_0 (op : Int32) : op + (nI 0 <<< (nI 5 &&& 31)) = op := by
  rw [show nI 0 <<< (nI 5 &&& 31) = 0 by decide]
  exact Int32.add_zero _
end C34
