/-! the class's constructor -/
theorem ki_6 : Cond.classLink RX6 20 (Rc 5) ∈ gtb ∧ Cond.instantiable (Rc 5) (nf 5) ∈ gtb ∧ Cond.initialized (Rc 5) ∈ gtb ∧ Cond.classLink RX6 51 (Rc 4) ∈ gtb ∧ Cond.instantiable (Rc 4) (nf 4) ∈ gtb ∧ Cond.initialized (Rc 4) ∈ gtb ∧ Cond.classLink RX6 27 (Rc 0) ∈ gtb ∧ Cond.instantiable (Rc 0) (nf 0) ∈ gtb ∧ Cond.initialized (Rc 0) ∈ gtb ∧ Cond.classLink RX6 45 (Rc 2) ∈ gtb := by decide +kernel
section C28
variable {l : Launch} {S S' S1 S2 : HS} {I I' I1 I2 : HI} {J J' J1 J2 : HJ} {L L' : List (Nat × Nat)}
theorem nwS_l {k kd n : Nat} : (nwS S k kd n).2.1 k = n := va_up_self _ _ _
theorem nwS_k1 {k kd n a : Nat} (h : a ≠ k) : (nwS S k kd n).1 a = S.1 a := by unfold nwS; exact va_up_ne _ _ h
theorem nwS_k2 {k kd n a : Nat} (h : a ≠ k) : (nwS S k kd n).2.2 a = S.2.2 a := by unfold nwS; exact va_up_ne _ _ h
theorem nwS_r {k kd n : Nat} : (nwS S k kd n).2.2 k = fun _ => none := va_up_self _ _ _
/-- a lies in none of the ranges -/
def nk : List (Nat × Nat) → Nat → Prop
  | [], _ => True
  | p :: L, a => (a < p.1 ∨ p.2 ≤ a) ∧ nk L a
theorem nk_app {a : Nat} : ∀ {L : List (Nat × Nat)}, nk (L ++ L') a → nk L a ∧ nk L' a
  | [], h => ⟨trivial, h⟩
  | _ :: _, h => ⟨⟨h.1, (nk_app h.2).1⟩, (nk_app h.2).2⟩
/-- nothing but the ranges' keys and scratch has changed -/
def Tf (L : List (Nat × Nat)) (S : HS) (I : HI) (J : HJ) (S' : HS) (I' : HI) (J' : HJ) : Prop := ∀ a, nk L a → S'.1 a = S.1 a ∧ S'.2.1 a = S.2.1 a ∧ S'.2.2 a = S.2.2 a ∧ J' a = J a ∧ (nsc a → I' a = I a)
theorem Tf.re : Tf L S I J S I J := fun _ _ => ⟨rfl, rfl, rfl, rfl, fun _ => rfl⟩
theorem Tf.tr (h : Tf L S I J S1 I1 J1) (g : Tf L' S1 I1 J1 S' I' J') : Tf (L ++ L') S I J S' I' J' := fun a ha => by
  obtain ⟨n1, n2⟩ := nk_app ha
  obtain ⟨h1, h2, h3, h4, h5⟩ := h a n1
  obtain ⟨g1, g2, g3, g4, g5⟩ := g a n2
  exact ⟨g1.trans h1, g2.trans h2, g3.trans h3, g4.trans h4, fun q => (g5 q).trans (h5 q)⟩
theorem Tf.nw {k kd n : Nat} : Tf [(k, k + 1)] S I J (nwS S k kd n) (nwI I k) (nwJ J k) := fun a ha => by
  have h : a ≠ k := by have := ha.1; dsimp only at this; omega
  exact ⟨va_up_ne _ _ h, va_up_ne _ _ h, va_up_ne _ _ h, va_up_ne _ _ h, fun _ => va_up_ne _ _ h⟩
theorem Tf.put {k x : Nat} {v : Option Nat} : Tf [(k, k + 1)] S I J (S.1, S.2.1, up2 S.2.2 k x v) I J := fun a ha => by
  have h : a ≠ k := by have := ha.1; dsimp only at this; omega
  exact ⟨rfl, rfl, up2_ne _ _ _ h, rfl, fun _ => rfl⟩
theorem Tf.mkd {b : Nat} (h : MkD b S I J S' I' J') : Tf [(b, b + 400)] S I J S' I' J' := fun a ha => by
  obtain ⟨e1, e2, e3, e4, e5⟩ := h a ha.1
  exact ⟨e1, e2, e3, e4, fun q => e5 ⟨ha.1, q⟩⟩
theorem Tf.mkf {lo hi : Nat} (h : MkF lo hi S I J S' I' J') : Tf [(lo, hi)] S I J S' I' J' := fun a ha => by
  obtain ⟨e1, e2, e3, e4, e5⟩ := h a ha.1
  exact ⟨e1, e2, e3, e5, fun _ => e4⟩
theorem Tf.wk (h : Tf L S I J S' I' J') (hL : ∀ a, nk L' a → nk L a) : Tf L' S I J S' I' J' := fun a ha => h a (hL a ha)
theorem Tf.ob {ci a : Nat} (t : Tf L S I J S' I' J') (h : Ob S ci a) (hci : ci < 8) (hn : ∀ c, a ≤ c → c ≤ a + 1 + nf ci → nk L c) : Ob S' ci a := h.mk (fun c h1 h2 => by
  obtain ⟨e1, e2, e3, -, -⟩ := t c (hn c h1 h2)
  exact ⟨e1, e2, e3⟩) (arr_nf ci hci)
theorem Tf.dk {b : Nat} (t : Tf L S I J S' I' J') (h : Dk S b) (hn : ∀ c, b ≤ c → c < b + 400 → nk L c) : Dk S' b := h.mk (fun c h1 h2 => by
  obtain ⟨e1, e2, e3, -, -⟩ := t c (hn c h1 h2)
  exact ⟨e1, e2, e3⟩)
abbrev q0D : QV := (clD (nI 12) (fun _ _ => 0), 0, 0)
/-- the class's first state -/
def z0C : SV := (q0D, (fun _ => none), ([], 0, 0, nI 101), [], [])
def G1 (S : HS) (I : HI) (J : HJ) : Prop := Dk S 1500 ∧ CQ I J 1500 q0D
def G2 (S : HS) : Prop := S.1 1103 = 13 ∧ S.2.1 1103 = 6 ∧ S.2.2 1103 = fun _ => none
def G3 (S : HS) (I : HI) : Prop := Ob S 5 1120 ∧ I 1120 0 = 0
def G4 (S : HS) : Prop := Ob S 4 1130 ∧ S.2.2 1130 0 = some 1120
def G5 (S : HS) (I : HI) (J : HJ) : Prop := Ob S 0 1140 ∧ (S.2.2 1140 0 = some 4300 ∧ S.2.2 1140 1 = some 1160) ∧ Dk S 4300 ∧ Ob S 2 1160 ∧ CL I 1160 [] ∧ (I 1140 3 = 0 ∧ I 1140 4 = nI 101)
theorem G1.t (h : G1 S I J) (t : Tf L S I J S' I' J') (hn : ∀ c, 1500 ≤ c → c < 1900 → nk L c) : G1 S' I' J' := ⟨t.dk h.1 hn, h.2.same (fun a h1 h2 => (t a (hn a h1 h2)).2.2.2.2 ⟨by omega, by omega, by omega, by omega, by omega⟩) (t 1500 (hn _ (by omega) (by omega))).2.2.2.1 (by decide)⟩
theorem G2.t (h : G2 S) (t : Tf L S I J S' I' J') (hn : nk L 1103) : G2 S' := by
  obtain ⟨e1, e2, e3, -, -⟩ := t 1103 hn
  exact ⟨e1.trans h.1, e2.trans h.2.1, e3.trans h.2.2⟩
theorem G3.t (h : G3 S I) (t : Tf L S I J S' I' J') (hn : ∀ c, 1120 ≤ c → c ≤ 1123 → nk L c) : G3 S' I' := ⟨t.ob h.1 (by decide) (fun c h1 h2 => hn c h1 (by have : nf 5 = 2 := rfl; omega)), by rw [(t 1120 (hn _ (by omega) (by omega))).2.2.2.2 ⟨by omega, by omega, by omega, by omega, by omega⟩]; exact h.2⟩
theorem G4.t (h : G4 S) (t : Tf L S I J S' I' J') (hn : ∀ c, 1130 ≤ c → c ≤ 1138 → nk L c) : G4 S' := ⟨t.ob h.1 (by decide) (fun c h1 h2 => hn c h1 (by have : nf 4 = 7 := rfl; omega)), by rw [(t 1130 (hn _ (by omega) (by omega))).2.2.1]; exact h.2⟩
theorem G5.t (h : G5 S I J) (t : Tf L S I J S' I' J') (hn : ∀ c, (1140 ≤ c ∧ c ≤ 1149) ∨ (1160 ≤ c ∧ c ≤ 1173) ∨ (4300 ≤ c ∧ c < 4700) → nk L c) : G5 S' I' J' := by
  obtain ⟨h1, h2, h3, h4, h5, h6⟩ := h
  obtain ⟨-, -, e3, -, e5⟩ := t 1140 (hn _ (by omega))
  have e5 := e5 ⟨by omega, by omega, by omega, by omega, by omega⟩
  exact ⟨t.ob h1 (by decide) (fun c q1 q2 => hn c (by have : nf 0 = 8 := rfl; omega)), by rw [e3]; exact h2, t.dk h3 (fun c q1 q2 => hn c (by omega)), t.ob h4 (by decide) (fun c q1 q2 => hn c (by have : nf 2 = 12 := rfl; omega)), h5.cg (fun x _ => by rw [(t 1160 (hn _ (by omega))).2.2.2.2 ⟨by omega, by omega, by omega, by omega, by omega⟩]) (fun a q1 q2 => (t a (hn _ (by omega))).2.2.2.2 ⟨by omega, by omega, by omega, by omega, by omega⟩), by rw [e5]; exact h6⟩
/-- what each stage knows -/
def Fa (L : List (Nat × Nat)) (W : Nat → Option Nat) (S : HS) (I : HI) (J : HJ) (S' : HS) (I' : HI) (J' : HJ) : Prop := Tf ((1100, 1101) :: L) S I J S' I' J' ∧ wfS S' ∧ S'.2.2 1100 = W ∧ S'.1 1100 = 7 ∧ I' 1100 = I 1100
theorem Fa.st {W : Nat → Option Nat} (h : Fa L W S I J S1 I1 J1) (t : Tf L' S1 I1 J1 S' I' J') (hw : wfS S') (hn : nk L' 1100) : Fa (L ++ L') W S I J S' I' J' := by
  obtain ⟨h1, h2, h3, h4, h5⟩ := h
  obtain ⟨e1, e2, e3, e4, e5⟩ := t 1100 hn
  exact ⟨h1.tr t, hw, e3.trans h3, e1.trans h4, (e5 ⟨by omega, by omega, by omega, by omega, by omega⟩).trans h5⟩
theorem Fa.pt {W : Nat → Option Nat} {x v : Nat} (h : Fa L W S I J S' I' J') (hv : S'.1 v ≠ 0) : Fa L (va_up W x (some v)) S I J (S'.1, S'.2.1, up2 S'.2.2 1100 x (some v)) I' J' := by
  obtain ⟨h1, h2, h3, h4, h5⟩ := h
  refine ⟨fun a ha => ?_, h2.put hv, by show up2 S'.2.2 1100 x (some v) 1100 = _; rw [up2_row, h3], h4, h5⟩
  obtain ⟨e1, e2, e3, e4, e5⟩ := h1 a ha
  exact ⟨e1, e2, (up2_ne _ _ _ (by have := ha.1; dsimp only at this; omega)).trans e3, e4, e5⟩
theorem lv_c1 {F : Nat → Prop} (h : F 1100) : ∀ v, some v ∈ lvs 1 [Value.ref 1100] → clo F v := fun v hv => by rw [lv_a1 v hv]; exact h
theorem st_c1 {F : Nat → Prop} (h : F 1100) : ∀ v, v ∈ [Value.ref 1100] → clo F v := fun v hv => by rw [List.mem_singleton] at hv; rw [hv]; exact h
theorem st_c2 {F : Nat → Prop} {k : Nat} (h : F 1100) (hk : F k) : ∀ v, (some v ∈ lvs 1 [Value.ref 1100] ∨ v ∈ [Value.ref k, Value.ref 1100]) → clo F v := fun v hv => by
  rcases hv with hv | hv
  · rw [lv_a1 v hv]; exact h
  · rcases List.mem_cons.mp hv with e | e
    · rw [e]; exact hk
    · rw [List.mem_singleton] at e; rw [e]; exact h
abbrev L1 : List (Nat × Nat) := [(1500, 1900)]
abbrev L2 : List (Nat × Nat) := [(1500, 1900), (1103, 1104)]
abbrev L3 : List (Nat × Nat) := [(1500, 1900), (1103, 1104), (1120, 1123)]
abbrev L5 : List (Nat × Nat) := [(1500, 1900), (1103, 1104), (1120, 1123), (1140, 1149), (1160, 1173), (4300, 4700)]
abbrev L7 : List (Nat × Nat) := [(1500, 1900), (1103, 1104), (1120, 1123), (1140, 1149), (1160, 1173), (4300, 4700), (1180, 1193)]
abbrev L4 : List (Nat × Nat) := [(1500, 1900), (1103, 1104), (1120, 1123), (1140, 1149), (1160, 1173), (4300, 4700), (1180, 1193), (1130, 1131)]
set_option maxRecDepth 100000 in
set_option maxHeartbeats 2000000 in
theorem c_ringInit (hK : S.1 1100 = 7) (hf : ∀ c, 1100 < c → c < 5000 → S.1 c = 0) (hw : wfS S) (hz : ∀ x, I 1100 x = 0) : Mt l yX6_init cX6_init 1 none (rmc 5 162 4968) (fun c => ¬ (1100 < c ∧ c < 5000)) [.ref 1100] S I J (fun v S' I' J' => v = none ∧ ClsR z0C S' I' J' ∧ ∀ a, (a < 1100 ∨ 5000 ≤ a) → S'.1 a = S.1 a ∧ S'.2.1 a = S.2.1 a ∧ S'.2.2 a = S.2.2 a ∧ I' a = I a ∧ J' a = J a) := by
  refine Mt.of (by decide) (fun ad => by simp [lg_sl, vv, Value.category]) (fun c hc => by show ¬ (1100 < c ∧ c < 5000); omega) (fun X hX hN hF C => ?_)
  generalize hPd : (fun (v : Option Value) (S' : HS) (I' : HI) (J' : HJ) => v = none ∧ ClsR z0C S' I' J' ∧ ∀ a, (a < 1100 ∨ 5000 ≤ a) → S'.1 a = S.1 a ∧ S'.2.1 a = S.2.1 a ∧ S'.2.2 a = S.2.2 a ∧ I' a = I a ∧ J' a = J a) = P
  have nF : ∀ c, 1100 < c → c < 5000 → ¬ xF X c := fun c h1 h2 => by rw [hF]; exact fun q => q ⟨h1, h2⟩
  have fr : ∀ {L : List (Nat × Nat)} {W : Nat → Option Nat} {S' : HS} {I' : HI} {J' : HJ}, Fa L W S I J S' I' J' → ∀ c, 1100 < c → c < 5000 → nk L c → S'.1 c = 0 := fun h c h1 h2 h3 => (h.1 c ⟨by dsimp only; omega, h3⟩).1.trans (hf c h1 h2)
  obtain ⟨W0, hW0⟩ : ∃ W, W = S.2.2 1100 := ⟨_, rfl⟩
  have s8 : ∀ (S7 : HS) (I7 : HI) (J7 : HJ), Fa L4 (va_up (va_up (va_up (va_up (va_up (va_up (va_up (va_up W0 0 (some 1500)) 2 (some 1103)) 3 (some 1120)) 5 (some 1140)) 1 (some 4300)) 6 (some 1160)) 7 (some 1180)) 4 (some 1130)) S I J S7 I7 J7 → G1 S7 I7 J7 → G2 S7 → G3 S7 I7 → G4 S7 → G5 S7 I7 J7 → Ob S7 2 1180 → V X P 160 4948 98 (lvs 1 [.ref 1100]) [] S7 I7 J7 := by
    intro S7 I7 J7 f7 g1 g2 g3 g4 g5 o7
    refine V_aload_n C dX6_init_98 rfl ?_
    refine V_bipush C (v := nI 10) dX6_init_99 rfl ?_
    refine V_rowI (b := 1100) (x := 9) (ci := 6) C (n := 10) rfl (by omega) f7.2.2.2.1 (fr f7 _ (by omega) (by omega) (by simp only [nk, and_true]; omega)) f7.2.1 (nF _ (by omega) (by omega)) (lv_c1 (by decide)) (fun v hv => by cases hv) (by decide) (by decide) dX6_init_101 fl_X6_60 rfl rfl rfl rfl dX6_init_103 ?_
    have w8 : wfS (rowS S7 1100 9 10 10) := f7.2.1.row (by decide)
    refine V_aload_n C dX6_init_106 rfl ?_
    refine V_bipush C (v := nI 10) dX6_init_107 rfl ?_
    refine V_rowI (b := 1100) (x := 10) (ci := 6) C (n := 10) rfl (by omega) ((rowS_1n (by omega)).trans f7.2.2.2.1) ((rowS_1n (by omega)).trans (fr f7 _ (by omega) (by omega) (by simp only [nk, and_true]; omega))) w8 (nF _ (by omega) (by omega)) (lv_c1 (by decide)) (fun v hv => by cases hv) (by decide) (by decide) dX6_init_109 fl_X6_64 rfl rfl rfl rfl dX6_init_111 ?_
    refine V_vret C (by decide) (by decide) dX6_init_114 ?_
    obtain ⟨S9, hS9⟩ : ∃ S9, S9 = rowS (rowS S7 1100 9 10 10) 1100 10 10 10 := ⟨_, rfl⟩
    obtain ⟨I9, hI9⟩ : ∃ I9, I9 = nwI (nwI I7 1110) 1111 := ⟨_, rfl⟩
    obtain ⟨J9, hJ9⟩ : ∃ J9, J9 = nwJ (nwJ J7 1110) 1111 := ⟨_, rfl⟩
    have w9 : wfS S9 := by rw [hS9]; exact w8.row (by decide)
    have t9 : Tf [(1100, 1101), (1110, 1112)] S7 I7 J7 S9 I9 J9 := by
      rw [hS9, hI9, hJ9]
      intro a ha
      have h0 : a ≠ 1100 := by have := ha.1; dsimp only at this; omega
      have h1 : a ≠ 1110 := by have := ha.2.1; dsimp only at this; omega
      have h2 : a ≠ 1111 := by have := ha.2.1; dsimp only at this; omega
      exact ⟨(rowS_1n (by omega)).trans (rowS_1n (by omega)), (rowS_ln (by omega)).trans (rowS_ln (by omega)), (rowS_rn (by omega) (by omega)).trans (rowS_rn (by omega) (by omega)), (va_up_ne _ _ h2).trans (va_up_ne _ _ h1), fun _ => (va_up_ne _ _ h2).trans (va_up_ne _ _ h1)⟩
    have i9 : I9 1100 = I 1100 := by rw [hI9]; exact ((va_up_ne _ _ (by omega)).trans (va_up_ne _ _ (by omega))).trans f7.2.2.2.2
    have r9 : ∀ y, y ≠ 9 → y ≠ 10 → S9.2.2 1100 y = S7.2.2 1100 y := fun y h1 h2 => by rw [hS9, rowS_rx h2, rowS_rx h1]
    have o9 : Ob S9 6 1100 := by
      refine ⟨by rw [hS9, rowS_1n (by omega), rowS_1n (by omega)]; exact f7.2.2.2.1, fun x kd ln hx => ?_⟩
      have key : (x = 2 ∧ kd = 13 ∧ ln = 6) ∨ (x = 9 ∧ kd = 10 ∧ ln = 10) ∨ (x = 10 ∧ kd = 10 ∧ ln = 10) := by
        have hl := arr_nf 6 (by decide) x _ hx
        match x, hl with
        | 0, _ => cases hx
        | 1, _ => cases hx
        | 2, _ => cases hx; exact Or.inl ⟨rfl, rfl, rfl⟩
        | 3, _ => cases hx
        | 4, _ => cases hx
        | 5, _ => cases hx
        | 6, _ => cases hx
        | 7, _ => cases hx
        | 8, _ => cases hx
        | 9, _ => cases hx; exact Or.inr (Or.inl ⟨rfl, rfl, rfl⟩)
        | 10, _ => cases hx; exact Or.inr (Or.inr ⟨rfl, rfl, rfl⟩)
        | 11, _ => cases hx
      rcases key with ⟨rfl, rfl, rfl⟩ | ⟨rfl, rfl, rfl⟩ | ⟨rfl, rfl, rfl⟩
      · obtain ⟨e1, e2, -, -, -⟩ := t9 1103 (by simp only [nk, and_true]; omega)
        exact ⟨(r9 2 (by decide) (by decide)).trans (by rw [f7.2.2.1]; rfl), e1.trans g2.1, e2.trans g2.2.1⟩
      · rw [hS9]
        exact ⟨(rowS_rx (by decide)).trans rowS_rs, (rowS_1n (by omega)).trans (rowS_1s (b := 1100) (x := 9)), (rowS_ln (by omega)).trans (rowS_ls (b := 1100) (x := 9))⟩
      · rw [hS9]
        exact ⟨rowS_rs, rowS_1s (b := 1100) (x := 10), rowS_ls (b := 1100) (x := 10)⟩
    have g1' := g1.t t9 (fun c h1 h2 => (by simp only [nk, and_true]; omega))
    have g2' := g2.t t9 (by simp only [nk, and_true]; omega)
    have g3' := g3.t t9 (fun c h1 h2 => (by simp only [nk, and_true]; omega))
    have g4' := g4.t t9 (fun c h1 h2 => (by simp only [nk, and_true]; omega))
    have g5' := g5.t t9 (fun c h => (by simp only [nk, and_true]; omega))
    have o7' : Ob S9 2 1180 := t9.ob o7 (by decide) (fun c h1 h2 => (by simp only [nk, and_true]; omega))
    have hr : ∀ y v, y ≠ 9 → y ≠ 10 → (va_up (va_up (va_up (va_up (va_up (va_up (va_up (va_up W0 0 (some 1500)) 2 (some 1103)) 3 (some 1120)) 5 (some 1140)) 1 (some 4300)) 6 (some 1160)) 7 (some 1180)) 4 (some 1130)) y = v → S9.2.2 1100 y = v := fun y v h1 h2 h3 => by rw [r9 y h1 h2, f7.2.2.1]; exact h3
    have A := f7.1.tr t9
    show P none (rowS (rowS S7 1100 9 10 10) 1100 10 10 10) (nwI (nwI I7 1110) 1111) (nwJ (nwJ J7 1110) 1111)
    rw [← hS9, ← hI9, ← hJ9, ← hPd]
    refine ⟨rfl, ⟨1160, 1180, ⟨o9, ⟨hr 0 _ (by decide) (by decide) rfl, hr 1 _ (by decide) (by decide) rfl, hr 3 _ (by decide) (by decide) rfl, hr 4 _ (by decide) (by decide) rfl, hr 5 _ (by decide) (by decide) rfl, hr 6 _ (by decide) (by decide) rfl, hr 7 _ (by decide) (by decide) rfl⟩, g5'.1, g5'.2.1.2, g4', g3'.1, g5'.2.2.2.1, o7', g1'.1, g5'.2.2.1, Or.inl ⟨rfl, rfl⟩, w9⟩, g1'.2, fun m hm => ?_, g5'.2.2.2.2.1, by rw [i9]; exact hz 8, g5'.2.2.2.2.2.1, g5'.2.2.2.2.2.2, ⟨g3'.2, fun i hi => absurd hi (by show ¬ i < 0; omega)⟩, ⟨by rw [i9]; exact hz 11, fun i hi => absurd hi (by show ¬ i < 0; omega)⟩⟩, fun a ha => ?_⟩
    · show S9.2.2 1103 m = none ∧ ∀ a, 1900 + 400 * m ≤ a → a < 2300 + 400 * m → S9.1 a = 0
      exact ⟨by rw [g2'.2.2], fun a h1 h2 => (A a (by simp only [nk, List.cons_append, List.nil_append, and_true]; omega)).1.trans (hf a (by omega) (by omega))⟩
    · obtain ⟨e1, e2, e3, e4, e5⟩ := A a (by simp only [nk, List.cons_append, List.nil_append, and_true]; omega)
      exact ⟨e1, e2, e3, e5 ⟨by omega, by omega, by omega, by omega, by omega⟩, e4⟩
  have s4 : ∀ (S3 : HS) (I3 : HI) (J3 : HJ), Fa L7 (va_up (va_up (va_up (va_up (va_up (va_up (va_up W0 0 (some 1500)) 2 (some 1103)) 3 (some 1120)) 5 (some 1140)) 1 (some 4300)) 6 (some 1160)) 7 (some 1180)) S I J S3 I3 J3 → G1 S3 I3 J3 → G2 S3 → G3 S3 I3 → G5 S3 I3 J3 → Ob S3 2 1180 → V X P 159 4941 79 (lvs 1 [.ref 1100]) [] S3 I3 J3 := by
    intro S3 I3 J3 f g1 g2 g3 g5 o7
    have r3 : S3.2.2 1100 3 = some 1120 := by rw [f.2.2.1]; rfl
    have r7 : S3.2.2 1100 7 = some 1180 := by rw [f.2.2.1]; rfl
    have k6 : (nwS S3 1130 5 0).1 1100 = 7 := (nwS_k1 (by decide)).trans f.2.2.2.1
    have q6 : (nwS S3 1130 5 0).2.2 1100 = S3.2.2 1100 := nwS_k2 (by decide)
    have k5 : (nwS S3 1130 5 0).1 1120 = 6 := (nwS_k1 (by decide)).trans g3.1.1
    have k2 : (nwS S3 1130 5 0).1 1180 = 3 := (nwS_k1 (by decide)).trans o7.1
    refine V_aload_n C dX6_init_79 rfl ?_
    refine V_new C (ci := 4) 1130 (by decide) ki_6.2.2.2.1 ki_6.2.2.2.2.1 ki_6.2.2.2.2.2.1 (fr f _ (by omega) (by omega) (by simp only [nk, and_true]; omega)) f.2.1 (nF _ (by omega) (by omega)) (lv_c1 (by decide)) (st_c1 (by decide)) (by decide) (by decide) dX6_init_80 ?_
    refine V_dup C dX6_init_83 rfl ?_
    refine V_aload_n C dX6_init_84 rfl ?_
    refine V_getR C fl_X6_23 k6 (b := 1120) (by rw [q6]; exact r3) rfl dX6_init_85 ?_
    refine V_aload_n C dX6_init_88 rfl ?_
    refine V_getR C fl_X6_48 k6 (b := 1180) (by rw [q6]; exact r7) rfl dX6_init_89 ?_
    refine V_callI (F := fun _ => True) C (c_readerInit (t := 1120) (w := 1180) (S := nwS S3 1130 5 0) nwS_1) mc_X4_init ml_X6_53 rfl (by decide) (by decide) (Nat.le_of_ble_eq_true rfl) (fun _ _ => trivial) (fun v _ => clo_T v) rfl dX6_init_92 ?_
    rintro v S' I' J' ⟨rfl, hS9, rfl, rfl⟩
    have t : Tf [(1130, 1131)] S3 I3 J3 S' (nwI I3 1130) (nwJ J3 1130) := by
      rw [hS9]
      exact (Tf.nw.tr (Tf.put.tr Tf.put)).wk (fun a ha => ⟨ha.1, ha.1, ha.1, trivial⟩)
    have w : wfS S' := by
      rw [hS9]
      exact ((f.2.1.nw (by decide)).put (a := 1130) (x := 0) (v := 1120) (by rw [k5]; omega)).put (a := 1130) (x := 1) (v := 1180) (by show (nwS S3 1130 5 0).1 1180 ≠ 0; rw [k2]; omega)
    have e1 : S'.1 1130 = 5 := by rw [hS9]; show (nwS S3 1130 5 0).1 1130 = 5; exact nwS_1
    have g4 : G4 S' := ⟨⟨e1, fun x kd ln hx => by rw [arr_no (ci := 4) (n := 0) (by decide) x (by omega)] at hx; cases hx⟩, by rw [hS9]; show up2 (up2 (nwS S3 1130 5 0).2.2 1130 0 (some 1120)) 1130 1 (some 1180) 1130 0 = _; rw [up2_row, va_up_ne _ _ (by decide), up2_row, va_up_self]⟩
    have f' := f.st t w (by simp only [nk, and_true]; omega)
    refine V_putFR C fl_X6_56 f'.2.2.2.1 rfl rfl rfl rfl dX6_init_95 ?_
    have t2 := Tf.put (S := S') (I := nwI I3 1130) (J := nwJ J3 1130) (k := 1100) (x := 4) (v := some 1130)
    have t' := t.tr t2
    exact s8 _ _ _ (f'.pt (by rw [e1]; omega)) (g1.t t' (fun c h1 h2 => (by simp only [nk, List.cons_append, List.nil_append, and_true]; omega))) (g2.t t' (by simp only [nk, List.cons_append, List.nil_append, and_true]; omega)) (g3.t t' (fun c h1 h2 => (by simp only [nk, List.cons_append, List.nil_append, and_true]; omega))) (g4.t t2 (fun c h1 h2 => (by simp only [nk, and_true]; omega))) (g5.t t' (fun c h => (by simp only [nk, List.cons_append, List.nil_append, and_true]; omega))) (t'.ob o7 (by decide) (fun c h1 h2 => (by simp only [nk, List.cons_append, List.nil_append, and_true]; omega)))
  have s7 : ∀ (S6 : HS) (I6 : HI) (J6 : HJ), Fa L5 (va_up (va_up (va_up (va_up (va_up (va_up W0 0 (some 1500)) 2 (some 1103)) 3 (some 1120)) 5 (some 1140)) 1 (some 4300)) 6 (some 1160)) S I J S6 I6 J6 → G1 S6 I6 J6 → G2 S6 → G3 S6 I6 → G5 S6 I6 J6 → V X P 149 3758 68 (lvs 1 [.ref 1100]) [] S6 I6 J6 := by
    intro S6 I6 J6 f g1 g2 g3 g5
    refine V_aload_n C dX6_init_68 rfl ?_
    refine V_new C (ci := 2) 1180 (by decide) ki_6.2.2.2.2.2.2.2.2.2 ki_01.2.2.1 ki_01.2.2.2 (fr f _ (by omega) (by omega) (by simp only [nk, and_true]; omega)) f.2.1 (nF _ (by omega) (by omega)) (lv_c1 (by decide)) (st_c1 (by decide)) (by decide) (by decide) dX6_init_69 ?_
    refine V_dup C dX6_init_72 rfl ?_
    refine V_callI (F := fun c => ¬ (1180 < c ∧ c < 1180 + 13)) C (c_lawsInit (S := nwS S6 1180 3 0) nwS_1 (fun c q1 q2 => (va_up_ne _ _ (by omega)).trans (fr f c (by omega) (by omega) (by simp only [nk, and_true]; omega))) (f.2.1.nw (by decide)) (by omega)) mc_X2_init ml_X6_47 rfl (by decide) (by decide) (Nat.le_of_ble_eq_true rfl) (fun c hc q => nF c (by omega) (by omega) hc) (st_c2 (by decide) (by decide)) rfl dX6_init_73 ?_
    rintro v S' I' J' ⟨rfl, o, w, m, -⟩
    have t : Tf [(1180, 1193)] S6 I6 J6 S' I' J' := (Tf.nw.tr (Tf.mkf m)).wk (fun a ha => by have := ha.1; dsimp only at this; exact ⟨by dsimp only; omega, by dsimp only; omega, trivial⟩)
    have f' := f.st t w (by simp only [nk, and_true]; omega)
    refine V_putR C fl_X6_48 f'.2.2.2.1 rfl rfl dX6_init_76 ?_
    have t' := t.tr (Tf.put (S := S') (I := I') (J := J') (k := 1100) (x := 7) (v := some 1180))
    exact s4 _ _ _ (f'.pt (by rw [ob_K o]; omega)) (g1.t t' (fun c h1 h2 => (by simp only [nk, List.cons_append, List.nil_append, and_true]; omega))) (g2.t t' (by simp only [nk, List.cons_append, List.nil_append, and_true]; omega)) (g3.t t' (fun c h1 h2 => (by simp only [nk, List.cons_append, List.nil_append, and_true]; omega))) (g5.t t' (fun c h => (by simp only [nk, List.cons_append, List.nil_append, and_true]; omega))) (o.rr rfl rfl (up2_ne S'.2.2 7 (some 1180) (show 1180 ≠ 1100 by omega)))
  have s6 : ∀ (S5 : HS) (I5 : HI) (J5 : HJ), Fa L5 (va_up (va_up (va_up (va_up W0 0 (some 1500)) 2 (some 1103)) 3 (some 1120)) 5 (some 1140)) S I J S5 I5 J5 → G1 S5 I5 J5 → G2 S5 → G3 S5 I5 → G5 S5 I5 J5 → V X P 149 3758 46 (lvs 1 [.ref 1100]) [] S5 I5 J5 := by
    intro S5 I5 J5 f g1 g2 g3 g5
    have r5 : S5.2.2 1100 5 = some 1140 := by rw [f.2.2.1]; rfl
    refine V_aload_n C dX6_init_46 rfl ?_
    refine V_aload_n C dX6_init_47 rfl ?_
    refine V_getR C fl_X6_30 f.2.2.2.1 r5 rfl dX6_init_48 ?_
    refine V_getR C fl_X6_34 (ob_K g5.1) g5.2.1.1 rfl dX6_init_51 ?_
    refine V_putFR C fl_X6_35 f.2.2.2.1 rfl rfl rfl rfl dX6_init_54 ?_
    have f1 := f.pt (x := 1) (v := 4300) (by rw [ob_K g5.2.2.1.1]; omega)
    have t1 := Tf.put (S := S5) (I := I5) (J := J5) (k := 1100) (x := 1) (v := some 4300)
    have g1 := g1.t t1 (fun c h1 h2 => (by simp only [nk, and_true]; omega))
    have g2 := g2.t t1 (by simp only [nk, and_true]; omega)
    have g3 := g3.t t1 (fun c h1 h2 => (by simp only [nk, and_true]; omega))
    have g5 := g5.t t1 (fun c h => (by simp only [nk, and_true]; omega))
    obtain ⟨Sa, hSa⟩ : ∃ Sa : HS, Sa = (S5.1, S5.2.1, up2 S5.2.2 1100 1 (some 4300)) := ⟨_, rfl⟩
    rw [← hSa] at f1 g1 g2 g3 g5 ⊢
    have r5 : Sa.2.2 1100 5 = some 1140 := by rw [f1.2.2.1]; rfl
    refine V_aload_n C dX6_init_57 rfl ?_
    refine V_aload_n C dX6_init_58 rfl ?_
    refine V_getR C fl_X6_30 f1.2.2.2.1 r5 rfl dX6_init_59 ?_
    refine V_getR C fl_X6_38 (ob_K g5.1) g5.2.1.2 rfl dX6_init_62 ?_
    refine V_putR C fl_X6_42 f1.2.2.2.1 rfl rfl dX6_init_65 ?_
    have t2 := Tf.put (S := Sa) (I := I5) (J := J5) (k := 1100) (x := 6) (v := some 1160)
    exact s7 _ _ _ (f1.pt (by rw [ob_K g5.2.2.2.1]; omega)) (g1.t t2 (fun c h1 h2 => (by simp only [nk, and_true]; omega))) (g2.t t2 (by simp only [nk, and_true]; omega)) (g3.t t2 (fun c h1 h2 => (by simp only [nk, and_true]; omega))) (g5.t t2 (fun c h => (by simp only [nk, and_true]; omega)))
  have s5 : ∀ (S4 : HS) (I4 : HI) (J4 : HJ), Fa L3 (va_up (va_up (va_up W0 0 (some 1500)) 2 (some 1103)) 3 (some 1120)) S I J S4 I4 J4 → G1 S4 I4 J4 → G2 S4 → G3 S4 I4 → V X P 69 1747 35 (lvs 1 [.ref 1100]) [] S4 I4 J4 := by
    intro S4 I4 J4 f g1 g2 g3
    refine V_aload_n C dX6_init_35 rfl ?_
    refine V_new C (ci := 0) 1140 (by decide) ki_6.2.2.2.2.2.2.1 ki_6.2.2.2.2.2.2.2.1 ki_6.2.2.2.2.2.2.2.2.1 (fr f _ (by omega) (by omega) (by simp only [nk, and_true]; omega)) f.2.1 (nF _ (by omega) (by omega)) (lv_c1 (by decide)) (st_c1 (by decide)) (by decide) (by decide) dX6_init_36 ?_
    refine V_dup C dX6_init_39 rfl ?_
    have hz4 : ∀ x, nwI I4 1140 1140 x = 0 := fun x => by unfold nwI; rw [va_up_self]
    refine V_callI (F := fun c => ¬ (kC c ∧ c ≠ 1140)) C (c_courseInit (S := nwS S4 1140 1 0) nwS_1 (fun c q1 q2 => (va_up_ne _ _ q2).trans (fr f c (by unfold kC at q1; omega) (by unfold kC at q1; omega) (by unfold kC at q1; simp only [nk, and_true]; omega))) (f.2.1.nw (by decide)) hz4) mc_X0_init ml_X6_29 rfl (by decide) (by decide) (Nat.le_of_ble_eq_true rfl) (fun c hc q => nF c (by have := q.1; unfold kC at this; omega) (by have := q.1; unfold kC at this; omega) hc) (st_c2 (by unfold kC; omega) (fun q => q.2 rfl)) rfl dX6_init_40 ?_
    rintro v S' I' J' ⟨rfl, o, r, d, o2, cl, q, i, w, m⟩
    have t : Tf [(1140, 1149), (1160, 1173), (4300, 4700)] S4 I4 J4 S' I' J' := by
      intro a ha
      simp only [nk, and_true] at ha
      obtain ⟨e1, e2, e3, e4, e5⟩ := m a (by unfold kC; omega)
      have h : a ≠ 1140 := by omega
      exact ⟨e1.trans (va_up_ne _ _ h), e2.trans (va_up_ne _ _ h), e3.trans (va_up_ne _ _ h), e4.trans (va_up_ne _ _ h), fun q => (e5 q).trans (va_up_ne _ _ h)⟩
    have f' := f.st t w (by simp only [nk, and_true]; omega)
    refine V_putFR C fl_X6_30 f'.2.2.2.1 rfl rfl rfl rfl dX6_init_43 ?_
    have t2 := Tf.put (S := S') (I := I') (J := J') (k := 1100) (x := 5) (v := some 1140)
    have t' := t.tr t2
    exact s6 _ _ _ (f'.pt (by rw [ob_K o]; omega)) (g1.t t' (fun c h1 h2 => (by simp only [nk, List.cons_append, List.nil_append, and_true]; omega))) (g2.t t' (by simp only [nk, List.cons_append, List.nil_append, and_true]; omega)) (g3.t t' (fun c h1 h2 => (by simp only [nk, List.cons_append, List.nil_append, and_true]; omega))) (G5.t ⟨o, r, d, o2, cl, i⟩ t2 (fun c h => (by simp only [nk, and_true]; omega)))
  have s3 : ∀ (S2 : HS) (I2 : HI) (J2 : HJ), Fa L2 (va_up (va_up W0 0 (some 1500)) 2 (some 1103)) S I J S2 I2 J2 → G1 S2 I2 J2 → G2 S2 → V X P 67 745 24 (lvs 1 [.ref 1100]) [] S2 I2 J2 := by
    intro S2 I2 J2 f g1 g2
    refine V_aload_n C dX6_init_24 rfl ?_
    refine V_new C (ci := 5) 1120 (by decide) ki_6.1 ki_6.2.1 ki_6.2.2.1 (fr f _ (by omega) (by omega) (by simp only [nk, and_true]; omega)) f.2.1 (nF _ (by omega) (by omega)) (lv_c1 (by decide)) (st_c1 (by decide)) (by decide) (by decide) dX6_init_25 ?_
    refine V_dup C dX6_init_28 rfl ?_
    refine V_callI (F := fun c => ¬ (1120 < c ∧ c < 1120 + 3)) C (c_tapeInit (S := nwS S2 1120 6 0) nwS_1 (fun c q1 q2 => (va_up_ne _ _ (by omega)).trans (fr f c (by omega) (by omega) (by simp only [nk, and_true]; omega))) (f.2.1.nw (by decide)) (by omega)) mc_X5_init ml_X6_22 rfl (by decide) (by decide) (Nat.le_of_ble_eq_true rfl) (fun c hc q => nF c (by omega) (by omega) hc) (st_c2 (by decide) (by decide)) rfl dX6_init_29 ?_
    rintro v S' I' J' ⟨rfl, b⟩
    have o : Ob S' 5 1120 := b.ob (arr_no (by decide))
    obtain ⟨-, w, -, m, ⟨eI, -, -⟩, -⟩ := b
    have t : Tf [(1120, 1123)] S2 I2 J2 S' I' J' := (Tf.nw.tr (Tf.mkf m)).wk (fun a ha => by have := ha.1; dsimp only at this; exact ⟨by dsimp only; omega, by dsimp only; have : nf 5 = 2 := rfl; omega, trivial⟩)
    have f' := f.st t w (by simp only [nk, and_true]; omega)
    refine V_putFR C fl_X6_23 f'.2.2.2.1 rfl rfl rfl rfl dX6_init_32 ?_
    have t2 := Tf.put (S := S') (I := I') (J := J') (k := 1100) (x := 3) (v := some 1120)
    have t' := t.tr t2
    have i0 : I' 1120 0 = 0 := by rw [eI]; unfold nwI; rw [va_up_self]
    exact s5 _ _ _ (f'.pt (by rw [ob_K o]; omega)) (g1.t t' (fun c h1 h2 => (by simp only [nk, List.cons_append, List.nil_append, and_true]; omega))) (g2.t t' (by simp only [nk, List.cons_append, List.nil_append, and_true]; omega)) (G3.t ⟨o, i0⟩ t2 (fun c h1 h2 => (by simp only [nk, and_true]; omega)))
  have s2 : ∀ (S1 : HS) (I1 : HI) (J1 : HJ), Fa L1 (va_up W0 0 (some 1500)) S I J S1 I1 J1 → G1 S1 I1 J1 → V X P 66 739 15 (lvs 1 [.ref 1100]) [] S1 I1 J1 := by
    intro S1 I1 J1 f g1
    have hao : va_AO "RingDisk$Disk" (xs X) := C.2.2.2.2.2.2.2.2.2.1.1.2.2.2.2
    refine V_aload_n C dX6_init_15 rfl ?_
    refine V_bipush C (v := nI 6) dX6_init_16 rfl ?_
    refine V_anew C (t0 := 4) (n := 6) 1103 (Or.inl rfl) rfl rfl hao ki_1.1 rfl (by omega) (fr f _ (by omega) (by omega) (by simp only [nk, and_true]; omega)) f.2.1 (nF _ (by omega) (by omega)) (lv_c1 (by decide)) (st_c1 (by decide)) (by decide) (by decide) dX6_init_18 ?_
    have t : Tf [(1103, 1104)] S1 I1 J1 (nwS S1 1103 13 6) (nwI I1 1103) (nwJ J1 1103) := Tf.nw
    have f' := f.st t (f.2.1.nw (by decide)) (by simp only [nk, and_true]; omega)
    refine V_putFR C fl_X6_16 f'.2.2.2.1 rfl rfl rfl rfl dX6_init_21 ?_
    have t2 := Tf.put (S := nwS S1 1103 13 6) (I := nwI I1 1103) (J := nwJ J1 1103) (k := 1100) (x := 2) (v := some 1103)
    have t' := t.tr t2
    have g2 : G2 (nwS S1 1103 13 6) := ⟨nwS_1, nwS_l, nwS_r⟩
    exact s3 _ _ _ (f'.pt (by rw [nwS_1]; omega)) (g1.t t' (fun c h1 h2 => (by simp only [nk, List.cons_append, List.nil_append, and_true]; omega))) (g2.t t2 (by simp only [nk, and_true]; omega))
  have f0 : Fa [] W0 S I J S I J := ⟨Tf.re, hw, hW0.symm, hK, rfl⟩
  refine V_aload_n C dX6_init_0 rfl ?_
  refine V_objInit C ml_X6_1 (by decide) (by decide) dX6_init_1 ?_
  refine V_aload_n C dX6_init_4 rfl ?_
  refine V_new C (ci := 1) 1500 (by decide) ki_1.1 ki_1.2.1 ki_1.2.2 (hf _ (by omega) (by omega)) hw (nF _ (by omega) (by omega)) (lv_c1 (by decide)) (st_c1 (by decide)) (by decide) (by decide) dX6_init_5 ?_
  refine V_dup C dX6_init_8 rfl ?_
  have zI : nwI I 1500 1500 1 = 0 ∧ nwI I 1500 1500 2 = 0 ∧ nwJ J 1500 1500 3 = 0 := by unfold nwI nwJ; rw [va_up_self, va_up_self]; exact ⟨rfl, rfl, rfl⟩
  refine V_callI (F := fun c => ¬ (1500 < c ∧ c < 1500 + 400)) C (c_diskInit (S := nwS S 1500 2 0) nwS_1 (fun a q1 q2 => (va_up_ne _ _ (by omega)).trans (hf a (by omega) (by omega))) (hw.nw (by decide)) (by omega) (by omega) zI) mc_X1_init ml_X6_9 rfl (by decide) (by decide) (Nat.le_of_ble_eq_true rfl) (fun c hc q => nF c (by omega) (by omega) hc) (st_c2 (by decide) (by decide)) rfl dX6_init_9 ?_
  rintro v S' I' J' ⟨rfl, d, w, m, q⟩
  have t : Tf [(1500, 1900)] S I J S' I' J' := (Tf.nw.tr (Tf.mkd m)).wk (fun a ha => by have := ha.1; dsimp only at this; exact ⟨by dsimp only; omega, by dsimp only; omega, trivial⟩)
  have f' := f0.st t w (by simp only [nk, and_true]; omega)
  refine V_putFR C fl_X6_10 f'.2.2.2.1 rfl rfl rfl rfl dX6_init_12 ?_
  have t2 := Tf.put (S := S') (I := I') (J := J') (k := 1100) (x := 0) (v := some 1500)
  exact s2 _ _ _ (f'.pt (by rw [ob_K d.1]; omega)) (G1.t ⟨d, q⟩ t2 (fun c h1 h2 => (by simp only [nk, and_true]; omega)))
end C28
