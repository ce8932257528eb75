/-! the reference: clears, tries, what is asked of a disk -/
section M15
variable {l : Launch} {S : HS} {I I' : HI} {J J' : HJ}
/-- a fresh disk of n rings; step, pull and seed stay -/
def clD (n : Int32) (D : DV) : DV := fun c k => match c with
  | 0 => (match k with
    | 0 => n
    | 1 => D 0 1
    | 2 => D 0 2
    | 3 => D 0 3
    | 6 => 0
    | _ => 0)
  | 1 => 0
  | 2 => 0
  | 3 => if k < 12 then nI (100 * (k + 1)) else 0
  | 4 => 0
  | 5 => 0
  | 6 => 0
  | 7 => 0
  | 8 => 0
  | 9 => 0
  | 10 => 0
  | 11 => 0
  | _ => 0
theorem if_0 {c : Prop} [Decidable c] {a : Int32} (h : c → a = 0) : (if c then a else 0) = 0 := by
  by_cases e : c
  · rw [if_pos e]; exact h e
  · rw [if_neg e]
theorem refD_cl {n : Int32} (h00 : I' 1027 0 = n) (h01 : I' 1034 0 = I 1034 0) (h02 : I' 1032 0 = I 1032 0) (h03 : I' 1033 0 = I 1033 0) (h06 : I' 1037 0 = 0) (h1 : ∀ x, x < 12 → I' 1028 x = 0) (h2 : ∀ x, x < 12 → I' 1029 x = 0) (h3 : ∀ x, x < 12 → I' 1030 x = nI (100 * (x + 1))) (h4 : ∀ x, x < 60 → I' 1031 x = 0) : refD I' J' 0 = clD n (refD I J 0) := by
  have a1 : ∀ k : Nat, (if k < 12 then I' 1028 (12 * 0 + k) else 0) = 0 := fun k => if_0 (fun h => by rw [Nat.mul_zero, Nat.zero_add]; exact h1 k h)
  have a2 : ∀ k : Nat, (if k < 12 then I' 1029 (12 * 0 + k) else 0) = 0 := fun k => if_0 (fun h => by rw [Nat.mul_zero, Nat.zero_add]; exact h2 k h)
  have a3 : ∀ k : Nat, (if k < 12 then I' 1030 (12 * 0 + k) else 0) = if k < 12 then nI (100 * (k + 1)) else 0 := fun k => mask_eq (fun h => by rw [Nat.mul_zero, Nat.zero_add]; exact h3 k h)
  have a4 : ∀ k : Nat, (if k < 60 then I' 1031 (60 * 0 + k) else 0) = 0 := fun k => if_0 (fun h => by rw [Nat.mul_zero, Nat.zero_add]; exact h4 k h)
  have z0 : (0 : Int32).toNatClampNeg = 0 := by decide
  have a5 : ∀ (k : Nat) (v : Int32), (if k < 0 then v else 0) = 0 := fun k v => if_neg (Nat.not_lt_zero _)
  funext c k
  simp only [refD, clD, h00, h01, h02, h03, h06, a1, a2, a3, a4, z0, a5, Nat.mul_zero]
  rfl
def Cl (I I' : HI) (n : Int32) (a b : Nat) : Prop := I' 1027 = va_up (I 1027) 0 n ∧ ((∀ x, x < a → I' 1028 x = 0) ∧ (∀ x, 12 ≤ x → I' 1028 x = I 1028 x)) ∧ ((∀ x, x < a → I' 1029 x = 0) ∧ (∀ x, 12 ≤ x → I' 1029 x = I 1029 x)) ∧ ((∀ x, x < a → I' 1030 x = nI (100 * (x + 1))) ∧ (∀ x, 12 ≤ x → I' 1030 x = I 1030 x)) ∧ ((∀ x, x < b → I' 1031 x = 0) ∧ (∀ x, 60 ≤ x → I' 1031 x = I 1031 x)) ∧ ∀ m, (m < 1027 ∨ 1031 < m) → I' m = I m
theorem sgv {f f' g : Nat → Int32} {n a : Nat} (ha : a < n) (h : (∀ x, x < a → f' x = g x) ∧ (∀ x, n ≤ x → f' x = f x)) : (∀ x, x < a + 1 → va_up f' a (g a) x = g x) ∧ (∀ x, n ≤ x → va_up f' a (g a) x = f x) := by
  refine ⟨fun x hx => ?_, fun x hx => by rw [va_up_ne _ _ (by omega)]; exact h.2 x hx⟩
  by_cases e : x = a
  · subst e; rw [va_up_self]
  · rw [va_up_ne _ _ e]; exact h.1 x (by omega)
set_option maxRecDepth 100000 in
set_option maxHeartbeats 1000000 in
theorem m_clears (hM : Ob S 7 1000) (n : Int32) : Mn l yX7_clears cX7_clears 3 none 0 [.ref 1000, .int n] S I J (fun v I' J' => v = none ∧ refQ I' J' 0 = (clD n (refD I J 0), 0, 0) ∧ Fr 0 I J I' J') := by
  refine Mn.of (by decide) (fun ad => by simp [lg_sl, vv, Value.category]) (fun X P hP hn C => ?_)
  have loop2 : ∀ (c x : Nat) (In : HI), x + c = 60 → Cl I In n 12 x → V X P 0 0 49 [some (.ref 1000), some (.int n), some (.int (nI x))] [] S In J := by
    intro c
    induction c with
    | zero =>
      intro x In hx h
      have hx : x = 60 := hx
      subst hx
      obtain ⟨h0, h1, h2, h3, h4, h5⟩ := h
      have e1 : refQ (up2 In 1037 0 (nI 0)) (up2 (up2 J 1035 0 0) 1036 0 0) 0 = (clD n (refD I J 0), 0, 0) := by
        unfold refQ
        rw [refD_cl (I' := up2 In 1037 0 (nI 0)) (I := I) (J := J) (n := n) (by show In 1027 0 = n; rw [h0, va_up_self]) (by show In 1034 0 = I 1034 0; rw [h5 1034 (by omega)]) (by show In 1032 0 = I 1032 0; rw [h5 1032 (by omega)]) (by show In 1033 0 = I 1033 0; rw [h5 1033 (by omega)]) (by rw [up2_row, va_up_self]; rfl) h1.1 h2.1 h3.1 h4.1]
        rfl
      have e2 : Fr 0 I J (up2 In 1037 0 (nI 0)) (up2 (up2 J 1035 0 0) 1036 0 0) := by
        refine ⟨fun a ha => (up2_ne _ _ _ (by omega)).trans (h5 a (by omega)), fun d _ hd => ?_, fun a g1 g2 => (up2_ne _ _ _ g2).trans (up2_ne _ _ _ g1), fun d hd => ⟨?_, ?_⟩⟩
        · have e : ∀ a, (a < 1027 ∨ 1031 < a) → a ≠ 1037 → up2 In 1037 0 (nI 0) a = I a := fun a ha hb => (up2_ne _ _ _ hb).trans (h5 a ha)
          refine refD_ext (by show In 1027 d = _; rw [h0, va_up_ne _ _ hd]) (by rw [e 1034 (by omega) (by omega)]) (by rw [e 1032 (by omega) (by omega)]) (by rw [e 1033 (by omega) (by omega)]) (by rw [up2_row, va_up_ne _ _ hd, h5 1037 (by omega)]) (fun x _ => h1.2 _ (by omega)) (fun x _ => h2.2 _ (by omega)) (fun x _ => h3.2 _ (by omega)) (fun x _ => h4.2 _ (by omega)) (fun x _ => by rw [e 1038 (by omega) (by omega)]) (fun x _ => by rw [e 1039 (by omega) (by omega)]) (fun x _ => by rw [e 1040 (by omega) (by omega)]) (fun x _ => by rw [e 1041 (by omega) (by omega)]) (fun x _ => by rw [e 1042 (by omega) (by omega)]) (fun x _ => by rw [e 1043 (by omega) (by omega)]) (fun x _ => by rw [e 1044 (by omega) (by omega)])
        · show va_up (J 1035) 0 0 d = _; rw [va_up_ne _ _ hd]
        · show va_up (J 1036) 0 0 d = _; rw [va_up_ne _ _ hd]
      refine V_iload_n C dX7_clears_49 rfl ?_
      refine V_bipush C (v := nI 60) dX7_clears_50 (by decide +kernel) ?_
      refine V_icmp_ge C 68 dX7_clears_52 (by decide) (fun h52 => ?_) (fun h52 => absurd (by decide) h52)
      refine V_aload_n C dX7_clears_68 rfl ?_
      refine V_getR C fl_X7_146 (ob_K hM) (ob_R hM 36 1037 rfl rfl) rfl dX7_clears_69 ?_
      refine V_iconst C (v := nI 0) dX7_clears_72 (by decide +kernel) ?_
      refine V_iconst C (v := nI 0) dX7_clears_73 (by decide +kernel) ?_
      refine V_iast C (0) (ob_A hM 36 1037 rfl rfl) (by first | rfl | (simp only [nI_add, pk_mul]; done) | (simp only [nI_add, pk_mul]; congr 1; omega)) (by rw [ob_N hM 36 1037 rfl rfl]; omega) (by rw [ob_N hM 36 1037 rfl rfl]; decide) dX7_clears_74 ?_
      refine V_aload_n C dX7_clears_75 rfl ?_
      refine V_getR C fl_X7_140 (ob_K hM) (ob_R hM 34 1035 rfl rfl) rfl dX7_clears_76 ?_
      refine V_iconst C (v := nI 0) dX7_clears_79 (by decide +kernel) ?_
      refine V_lconst C (v := 0) dX7_clears_80 (by decide +kernel) ?_
      refine V_last C (0) (ob_A hM 34 1035 rfl rfl) (by first | rfl | (simp only [nI_add, pk_mul]; done) | (simp only [nI_add, pk_mul]; congr 1; omega)) (by rw [ob_N hM 34 1035 rfl rfl]; omega) (by rw [ob_N hM 34 1035 rfl rfl]; decide) dX7_clears_81 ?_
      refine V_aload_n C dX7_clears_82 rfl ?_
      refine V_getR C fl_X7_143 (ob_K hM) (ob_R hM 35 1036 rfl rfl) rfl dX7_clears_83 ?_
      refine V_iconst C (v := nI 0) dX7_clears_86 (by decide +kernel) ?_
      refine V_lconst C (v := 0) dX7_clears_87 (by decide +kernel) ?_
      refine V_last C (0) (ob_A hM 35 1036 rfl rfl) (by first | rfl | (simp only [nI_add, pk_mul]; done) | (simp only [nI_add, pk_mul]; congr 1; omega)) (by rw [ob_N hM 35 1036 rfl rfl]; omega) (by rw [ob_N hM 35 1036 rfl rfl]; decide) dX7_clears_88 ?_
      exact V_vret C (Nat.zero_le _) (Nat.zero_le _) dX7_clears_89 (hP _ _ _ ⟨rfl, e1, e2⟩)
    | succ c ih =>
      intro x In hx h
      obtain ⟨h0, h1, h2, h3, h4, h5⟩ := h
      refine V_iload_n C dX7_clears_49 rfl ?_
      refine V_bipush C (v := nI 60) dX7_clears_50 (by decide +kernel) ?_
      refine V_icmp_ge C 68 dX7_clears_52 (by decide) (fun h52 => absurd h52 (nI_ge (by omega) (by omega))) (fun h52 => ?_)
      refine V_aload_n C dX7_clears_55 rfl ?_
      refine V_getR C fl_X7_128 (ob_K hM) (ob_R hM 30 1031 rfl rfl) rfl dX7_clears_56 ?_
      refine V_iload_n C dX7_clears_59 rfl ?_
      refine V_iconst C (v := nI 0) dX7_clears_60 (by decide +kernel) ?_
      refine V_iast C (x) (ob_A hM 30 1031 rfl rfl) (by first | rfl | (simp only [nI_add, pk_mul]; done) | (simp only [nI_add, pk_mul]; congr 1; omega)) (by rw [ob_N hM 30 1031 rfl rfl]; omega) (by rw [ob_N hM 30 1031 rfl rfl]; decide) dX7_clears_61 ?_
      refine V_iincU C dX7_clears_62 rfl (hn _ (by decide)) ?_
      refine V_goto C 49 dX7_clears_65 (by decide) ?_
      exact ih (x + 1) _ (by omega) ⟨h0, h1, h2, h3, sgv (g := fun _ => 0) (by omega) h4, fun m hm => (up2_ne _ _ _ (by omega)).trans (h5 m hm)⟩
  have loop1 : ∀ (c x : Nat) (In : HI), x + c = 12 → Cl I In n x 0 → V X P 0 0 9 [some (.ref 1000), some (.int n), some (.int (nI x))] [] S In J := by
    intro c
    induction c with
    | zero =>
      intro x In hx h
      have hx : x = 12 := hx
      subst hx
      refine V_iload_n C dX7_clears_9 rfl ?_
      refine V_bipush C (v := nI 12) dX7_clears_10 (by decide +kernel) ?_
      refine V_icmp_ge C 47 dX7_clears_12 (by decide) (fun h12 => ?_) (fun h12 => absurd (by decide) h12)
      refine V_iconst C (v := nI 0) dX7_clears_47 (by decide +kernel) ?_
      refine V_istore_n C dX7_clears_48 (hn _ (by decide)) ?_
      exact loop2 60 0 _ rfl h
    | succ c ih =>
      intro x In hx h
      obtain ⟨h0, h1, h2, h3, h4, h5⟩ := h
      have e : nI 100 * (nI x + nI 1) = nI (100 * (x + 1)) := by rw [nI_add, pk_mul]
      refine V_iload_n C dX7_clears_9 rfl ?_
      refine V_bipush C (v := nI 12) dX7_clears_10 (by decide +kernel) ?_
      refine V_icmp_ge C 47 dX7_clears_12 (by decide) (fun h12 => absurd h12 (nI_ge (by omega) (by omega))) (fun h12 => ?_)
      refine V_aload_n C dX7_clears_15 rfl ?_
      refine V_getR C fl_X7_119 (ob_K hM) (ob_R hM 27 1028 rfl rfl) rfl dX7_clears_16 ?_
      refine V_iload_n C dX7_clears_19 rfl ?_
      refine V_iconst C (v := nI 0) dX7_clears_20 (by decide +kernel) ?_
      refine V_iast C (x) (ob_A hM 27 1028 rfl rfl) (by first | rfl | (simp only [nI_add, pk_mul]; done) | (simp only [nI_add, pk_mul]; congr 1; omega)) (by rw [ob_N hM 27 1028 rfl rfl]; omega) (by rw [ob_N hM 27 1028 rfl rfl]; decide) dX7_clears_21 ?_
      refine V_aload_n C dX7_clears_22 rfl ?_
      refine V_getR C fl_X7_122 (ob_K hM) (ob_R hM 28 1029 rfl rfl) rfl dX7_clears_23 ?_
      refine V_iload_n C dX7_clears_26 rfl ?_
      refine V_iconst C (v := nI 0) dX7_clears_27 (by decide +kernel) ?_
      refine V_iast C (x) (ob_A hM 28 1029 rfl rfl) (by first | rfl | (simp only [nI_add, pk_mul]; done) | (simp only [nI_add, pk_mul]; congr 1; omega)) (by rw [ob_N hM 28 1029 rfl rfl]; omega) (by rw [ob_N hM 28 1029 rfl rfl]; decide) dX7_clears_28 ?_
      refine V_aload_n C dX7_clears_29 rfl ?_
      refine V_getR C fl_X7_125 (ob_K hM) (ob_R hM 29 1030 rfl rfl) rfl dX7_clears_30 ?_
      refine V_iload_n C dX7_clears_33 rfl ?_
      refine V_bipush C (v := nI 100) dX7_clears_34 (by decide +kernel) ?_
      refine V_iload_n C dX7_clears_36 rfl ?_
      refine V_iconst C (v := nI 1) dX7_clears_37 (by decide +kernel) ?_
      refine V_iadd C dX7_clears_38 ?_
      refine V_imul C dX7_clears_39 ?_
      rw [e]
      refine V_iast C (x) (ob_A hM 29 1030 rfl rfl) (by first | rfl | (simp only [nI_add, pk_mul]; done) | (simp only [nI_add, pk_mul]; congr 1; omega)) (by rw [ob_N hM 29 1030 rfl rfl]; omega) (by rw [ob_N hM 29 1030 rfl rfl]; decide) dX7_clears_40 ?_
      refine V_iincU C dX7_clears_41 rfl (hn _ (by decide)) ?_
      refine V_goto C 9 dX7_clears_44 (by decide) ?_
      exact ih (x + 1) _ (by omega) ⟨h0, sgv (g := fun _ => 0) (by omega) h1, sgv (g := fun _ => 0) (by omega) h2, sgv (g := fun x => nI (100 * (x + 1))) (by omega) h3, h4, fun m hm => (up2_ne _ _ _ (by omega)).trans ((up2_ne _ _ _ (by omega)).trans ((up2_ne _ _ _ (by omega)).trans (h5 m hm)))⟩
  refine V_aload_n C dX7_clears_0 rfl ?_
  refine V_getR C fl_X7_116 (ob_K hM) (ob_R hM 26 1027 rfl rfl) rfl dX7_clears_1 ?_
  refine V_iconst C (v := nI 0) dX7_clears_4 (by decide +kernel) ?_
  refine V_iload_n C dX7_clears_5 rfl ?_
  refine V_iast C (0) (ob_A hM 26 1027 rfl rfl) (by first | rfl | (simp only [nI_add, pk_mul]; done) | (simp only [nI_add, pk_mul]; congr 1; omega)) (by rw [ob_N hM 26 1027 rfl rfl]; omega) (by rw [ob_N hM 26 1027 rfl rfl]; decide) dX7_clears_6 ?_
  refine V_iconst C (v := nI 0) dX7_clears_7 (by decide +kernel) ?_
  refine V_istore_n C dX7_clears_8 (hn _ (by decide)) ?_
  exact loop1 12 0 _ rfl ⟨rfl, ⟨fun x h => absurd h (Nat.not_lt_zero _), fun _ _ => rfl⟩, ⟨fun x h => absurd h (Nat.not_lt_zero _), fun _ _ => rfl⟩, ⟨fun x h => absurd h (Nat.not_lt_zero _), fun _ _ => rfl⟩, ⟨fun x h => absurd h (Nat.not_lt_zero _), fun _ _ => rfl⟩, fun m hm => up2_ne _ _ _ (by omega)⟩
theorem RefR.rG {z : SV} {g : Int32} (h : RefR z I J) (hO : OkR z) (hg : I 1000 25 = g) : rG I z.2.2.1.1 g z.2.2.1.2.2.1 := ⟨h.2.2.2.1.1, hg, h.2.2.2.2.2.2.1, hO.2.2.2.1⟩
theorem st7 {z : SV} {g : Int32} {q : QV} (h : RefR z I J) (hO : OkR z) (hq : refQ I J 7 = q) (hk : okD q.1) (e : refQ I' J' 7 = stepD (kcl z.2.2.1.1 g) (nI z.2.2.1.2.2.1) (I 1000 45) (refQ I J 7)) (f : Fr 7 I J I' J') : Kp I J I' J' ∧ I' 1000 25 = I 1000 25 ∧ refQ I' J' 7 = stZ z g q := by
  rw [h.2.2.2.2.2.2.2.1, hq] at e
  have e' : refQ I' J' 7 = stZ z g q := e
  refine ⟨Kp.fr f ?_, by rw [f.1 1000 (by omega)], e'⟩
  have e2 : refD I' J' 7 = (stZ z g q).1 := congrArg Prod.fst e'
  rw [e2]
  exact (step_ok (fun f => hO.2.2.1 g f) hk).1.2.2.2.2.1
theorem q7 {q : QV} (hq : refQ I J 7 = q) : refD I J 7 = q.1 := congrArg Prod.fst hq
set_option maxRecDepth 100000 in
set_option maxHeartbeats 1000000 in
theorem m_tries (hM : Ob S 7 1000) {z : SV} (hR : RefR z I J) (hO : OkR z) (g : Int32) {n : Nat} (hn1 : n ≤ 1000) : Mn l yX7_tries cX7_tries 4 none 6 [.ref 1000, .int g, .int (nI n)] S I J (fun v I' J' => v = none ∧ Kp I J I' J' ∧ I' 1000 25 = g ∧ refQ I' J' 7 = itN (stZ z g) n z.1) := by
  refine Mn.of (by decide) (fun ad => by simp [lg_sl, vv, Value.category]) (fun X P hP hn C => ?_)
  have loop : ∀ (c x : Nat) (In : HI) (Jn : HJ), x + c = n → Kp I J In Jn → In 1000 25 = g → refQ In Jn 7 = itN (stZ z g) x z.1 → V X P 0 0 14 [some (.ref 1000), some (.int g), some (.int (nI n)), some (.int (nI x))] [] S In Jn := by
    intro c
    induction c with
    | zero =>
      intro x In Jn hx h1 h2 h3
      have hx : x = n := hx
      subst hx
      refine V_iload_n C dX7_tries_14 rfl ?_
      refine V_iload_n C dX7_tries_15 rfl ?_
      refine V_icmp_ge C 31 dX7_tries_16 (by decide) (fun h16 => ?_) (fun h16 => absurd (Int32.le_refl _) h16)
      exact V_vret C (Nat.zero_le _) (Nat.zero_le _) dX7_tries_31 (hP _ _ _ ⟨rfl, h1, h2, h3⟩)
    | succ c ih =>
      intro x In Jn hx h1 h2 h3
      have hR2 := hR.kp h1
      have hk : okD (itN (stZ z g) x z.1).1 := itN_ok hO x _ hO.1
      refine V_iload_n C dX7_tries_14 rfl ?_
      refine V_iload_n C dX7_tries_15 rfl ?_
      refine V_icmp_ge C 31 dX7_tries_16 (by decide) (fun h16 => absurd h16 (nI_ge (by omega) (by omega))) (fun h16 => ?_)
      refine V_aload_n C dX7_tries_19 rfl ?_
      refine V_bipush C (v := nI 7) dX7_tries_20 (by decide +kernel) ?_
      refine V_callV (F := fun _ => True) C (m_steps1 hM (by omega) (hR2.rG hO h2) (fun f => hO.2.2.1 g f) hR2.2.1 (by rw [q7 h3]; exact hk)) mi_X7_steps1 ml_X7_394 rfl (ob_K hM) (by decide) (by decide) (by decide) (Nat.le_of_ble_eq_true rfl) (fun _ _ => trivial) (fun v _ => clo_T v) rfl dX7_tries_22 ?_
      rintro v S' I2 J2 ⟨hS, rfl, e, f⟩
      obtain rfl := hS.symm
      obtain ⟨s1, s2, s3⟩ := st7 hR2 hO h3 hk e f
      refine V_iincU C dX7_tries_25 rfl (hn _ (by decide)) ?_
      refine V_goto C 14 dX7_tries_28 (by decide) ?_
      exact ih (x + 1) _ _ (by omega) (h1.tr s1) (s2.trans h2) (by rw [s3, itN_s])
  refine V_aload_n C dX7_tries_0 rfl ?_
  refine V_iconst C (v := nI 0) dX7_tries_1 (by decide +kernel) ?_
  refine V_bipush C (v := nI 7) dX7_tries_2 (by decide +kernel) ?_
  refine V_callV (F := fun _ => True) C (m_copies hM (by omega) (by omega) (by omega) hR.2.1) mi_X7_copies ml_X7_415 rfl (ob_K hM) (by decide) (by decide) (by decide) (Nat.le_of_ble_eq_true rfl) (fun _ _ => trivial) (fun v _ => clo_T v) rfl dX7_tries_4 ?_
  rintro v S' I2 J2 ⟨hS, rfl, e, f⟩
  obtain rfl := hS.symm
  have k1 : Kp I J I2 J2 := Kp.fr f (by rw [q7 e]; exact hR.2.1 0 (by omega))
  refine V_aload_n C dX7_tries_7 rfl ?_
  refine V_iload_n C dX7_tries_8 rfl ?_
  refine V_putI C fl_X7_298 (ob_K hM) rfl rfl dX7_tries_9 ?_
  refine V_iconst C (v := nI 0) dX7_tries_12 (by decide +kernel) ?_
  refine V_istore_n C dX7_tries_13 (hn _ (by decide)) ?_
  exact loop n 0 _ _ (by omega) (k1.tr (Kp.o (Or.inr rfl))) o_at (refQ_o.trans (e.trans hR.1))
end M15
