/-! the course's constructor -/
theorem ki_01 : Cond.classLink RX0 9 (Rc 1) ∈ gtb ∧ Cond.classLink RX0 18 (Rc 2) ∈ gtb ∧ Cond.instantiable (Rc 2) (nf 2) ∈ gtb ∧ Cond.initialized (Rc 2) ∈ gtb := by decide +kernel
section C27
variable {l : Launch} {S S' : HS} {I I' : HI} {J J' : HJ}
theorem nwS_1 {k kd n : Nat} : (nwS S k kd n).1 k = kd := va_up_self _ _ _
theorem wfS.put {a x v : Nat} (hw : wfS S) (hv : S.1 v ≠ 0) : wfS (S.1, S.2.1, up2 S.2.2 a x (some v)) := by
  intro c y k hc hy
  by_cases e : c = a ∧ y = x
  · have hy : up2 S.2.2 a x (some v) c y = some k := hy
    rw [e.1, e.2, up2_row, va_up_self] at hy
    show S.1 k ≠ 0
    rw [← Option.some.inj hy]
    exact hv
  · refine hw c y k hc ?_
    rw [← hy]
    show _ = up2 S.2.2 a x (some v) c y
    by_cases e1 : c = a
    · subst e1; rw [up2_row, va_up_ne _ _ (fun q => e ⟨rfl, q⟩)]
    · rw [up2_ne _ _ _ e1]
theorem Ob.rr {ci a : Nat} (h : Ob S ci a) (h1 : S'.1 = S.1) (h2 : S'.2.1 = S.2.1) (h3 : S'.2.2 a = S.2.2 a) : Ob S' ci a := ⟨by rw [h1]; exact h.1, fun x kd ln hx => by rw [h1, h2, h3]; exact h.2 x kd ln hx⟩
theorem Dk.rr {b : Nat} (h : Dk S b) (h1 : S'.1 = S.1) (h2 : S'.2.1 = S.2.1) (h3 : ∀ a, b ≤ a → a < b + 400 → S'.2.2 a = S.2.2 a) : Dk S' b := ⟨h.1.rr h1 h2 (h3 b (by omega) (by omega)), fun x hx => ⟨(h.2 x hx).1.rr h1 h2 (h3 _ (by omega) (by omega)), by rw [h3 (b + 13) (by omega) (by omega)]; exact (h.2 x hx).2⟩⟩
/-- an object that lies outside what has been made -/
theorem Ob.mk {ci a : Nat} (h : Ob S ci a) (ho : ∀ c, a ≤ c → c ≤ a + 1 + nf ci → S'.1 c = S.1 c ∧ S'.2.1 c = S.2.1 c ∧ S'.2.2 c = S.2.2 c) (hci : ∀ x p, arrOf ci x = some p → x < nf ci) : Ob S' ci a := ⟨by rw [(ho a (by omega) (by omega)).1]; exact h.1, fun x kd ln hx => by
  have hl := hci x _ hx
  obtain ⟨g1, g2, g3⟩ := h.2 x kd ln hx
  obtain ⟨e1, e2, -⟩ := ho (a + 1 + x) (by omega) (by omega)
  exact ⟨by rw [(ho a (by omega) (by omega)).2.2]; exact g1, by rw [e1]; exact g2, by rw [e2]; exact g3⟩⟩
theorem arr_nf (ci : Nat) (hci : ci < 8) : ∀ x p, arrOf ci x = some p → x < nf ci := by
  intro x p h
  have h51 := arr_le (kd := p.1) (ln := p.2) h
  have key : ∀ ci, ci < 8 → ∀ x, x < 52 → nf ci ≤ x → arrOf ci x = none := by decide +kernel
  rcases Nat.lt_or_ge x (nf ci) with g | g
  · exact g
  · rw [key ci hci x (by omega) g] at h; cases h
theorem Dk.mk {b : Nat} (h : Dk S b) (ho : ∀ c, b ≤ c → c < b + 400 → S'.1 c = S.1 c ∧ S'.2.1 c = S.2.1 c ∧ S'.2.2 c = S.2.2 c) : Dk S' b := ⟨h.1.mk (fun c h1 h2 => ho c h1 (by have : nf 1 = 13 := rfl; omega)) (arr_nf 1 (by decide)), fun x hx => ⟨(h.2 x hx).1.mk (fun c h1 h2 => ho c (by omega) (by have : nf 3 = 8 := rfl; omega)) (arr_nf 3 (by decide)), by rw [(ho (b + 13) (by omega) (by omega)).2.2]; exact (h.2 x hx).2⟩⟩
/-- the course's own keys -/
def kC (a : Nat) : Prop := (1140 ≤ a ∧ a < 1149) ∨ (1160 ≤ a ∧ a < 1173) ∨ (4300 ≤ a ∧ a < 4700)
def nsc (a : Nat) : Prop := a ≠ 1146 ∧ a ≠ 1147 ∧ a ≠ 1148 ∧ a ≠ 1172 ∧ a ≠ 1192
set_option maxRecDepth 100000 in
set_option maxHeartbeats 1000000 in
theorem c_courseInit (hK : S.1 1140 = 1) (hf : ∀ c, kC c → c ≠ 1140 → S.1 c = 0) (hw : wfS S) (hz : ∀ x, I 1140 x = 0) : Mt l yX0_init cX0_init 1 none (rmc 4 79 2003) (fun c => ¬ (kC c ∧ c ≠ 1140)) [.ref 1140] S I J (fun v S' I' J' => v = none ∧ Ob S' 0 1140 ∧ (S'.2.2 1140 0 = some 4300 ∧ S'.2.2 1140 1 = some 1160) ∧ Dk S' 4300 ∧ Ob S' 2 1160 ∧ CL I' 1160 [] ∧ CQ I' J' 4300 (clD (nI 12) (fun _ _ => 0), 0, 0) ∧ (I' 1140 3 = 0 ∧ I' 1140 4 = nI 101) ∧ wfS S' ∧ ∀ a, ¬ kC a → S'.1 a = S.1 a ∧ S'.2.1 a = S.2.1 a ∧ S'.2.2 a = S.2.2 a ∧ J' a = J a ∧ (nsc a → I' a = I a)) := by
  refine Mt.of (by decide) (fun ad => by simp [lg_sl, vv, Value.category]) (fun c hc => by show ¬ (kC c ∧ c ≠ 1140); unfold kC; omega) (fun X hX hN hF C => ?_)
  have nF : ∀ c, kC c → c ≠ 1140 → ¬ xF X c := fun c h1 h2 => by rw [hF]; exact fun q => q ⟨h1, h2⟩
  have cb : ∀ k, k ≠ 1140 → ∀ v, some v ∈ lvs 1 [Value.ref 1140] → clo (fun c => c ≠ k) v := fun k hk v hv => by rw [lv_a1 v hv]; exact fun q => hk q.symm
  have cs : ∀ k, k ≠ 1140 → ∀ v, v ∈ [Value.ref 1140] → clo (fun c => c ≠ k) v := fun k hk v hv => by rw [List.mem_singleton] at hv; rw [hv]; exact fun q => hk q.symm
  refine V_aload_n C dX0_init_0 rfl ?_
  refine V_objInit C ml_X0_3 (by decide) (by decide) dX0_init_1 ?_
  refine V_aload_n C dX0_init_4 rfl ?_
  have k43 : ∀ c, 4300 ≤ c → c < 4700 → kC c := fun c h1 h2 => Or.inr (Or.inr ⟨h1, h2⟩)
  have k16 : ∀ c, 1160 ≤ c → c < 1173 → kC c := fun c h1 h2 => Or.inr (Or.inl ⟨h1, h2⟩)
  have k14 : ∀ c, 1140 ≤ c → c < 1149 → kC c := fun c h1 h2 => Or.inl ⟨h1, h2⟩
  refine V_new C (ci := 1) 4300 (by decide) ki_01.1 ki_1.2.1 ki_1.2.2 (hf _ (k43 _ (by omega) (by omega)) (by omega)) hw (nF _ (k43 _ (by omega) (by omega)) (by omega)) (cb _ (by omega)) (cs _ (by omega)) (by decide) (by decide) dX0_init_5 ?_
  refine V_dup C dX0_init_8 rfl ?_
  have sB : (nwS S 4300 2 0).1 4300 = 2 := nwS_1
  have sF : ∀ a, 4300 < a → a < 4300 + 400 → (nwS S 4300 2 0).1 a = 0 := fun a q1 q2 => (va_up_ne _ _ (by omega)).trans (hf a (k43 _ (by omega) (by omega)) (by omega))
  have zI : nwI I 4300 4300 1 = 0 ∧ nwI I 4300 4300 2 = 0 ∧ nwJ J 4300 4300 3 = 0 := by unfold nwI nwJ; rw [va_up_self, va_up_self]; exact ⟨rfl, rfl, rfl⟩
  refine V_callI (F := fun c => ¬ (4300 < c ∧ c < 4300 + 400)) C (c_diskInit sB sF (hw.nw (by decide)) (by omega) (by omega) zI) mc_X1_init ml_X0_11 rfl (by decide) (by decide) (Nat.le_of_ble_eq_true rfl) (fun c hc q => nF c (k43 _ (by omega) (by omega)) (by omega) hc) (fun v hv => ?_) rfl dX0_init_9 ?_
  · rcases hv with hv | hv
    · rw [lv_a1 v hv]; show ¬ (4300 < 1140 ∧ _); omega
    · rcases List.mem_cons.mp hv with e | e
      · rw [e]; show ¬ (4300 < 4300 ∧ _); omega
      · rw [List.mem_singleton] at e; rw [e]; show ¬ (4300 < 1140 ∧ _); omega
  rintro v S2 I2 J2 ⟨rfl, d2, w2, m2, q2⟩
  have g2 : ∀ a, (a < 4300 ∨ 4700 ≤ a) → S2.1 a = S.1 a ∧ S2.2.1 a = S.2.1 a ∧ S2.2.2 a = S.2.2 a ∧ J2 a = J a ∧ (nsc a → I2 a = I a) := fun a ha => by
    obtain ⟨e1, e2, e3, e4, e5⟩ := m2 a (by omega)
    exact ⟨e1.trans (va_up_ne _ _ (by omega)), e2.trans (va_up_ne _ _ (by omega)), e3.trans (va_up_ne _ _ (by omega)), e4.trans (va_up_ne _ _ (by omega)), fun hn => (e5 ⟨by omega, hn⟩).trans (va_up_ne _ _ (by omega))⟩
  clear m2
  have h140 : S2.1 1140 = 1 := (g2 1140 (by omega)).1.trans hK
  refine V_putR C fl_X0_12 h140 rfl rfl dX0_init_12 ?_
  have w3 : wfS (S2.1, S2.2.1, up2 S2.2.2 1140 0 (some 4300)) := w2.put (by rw [ob_K d2.1]; omega)
  have d3 : Dk (S2.1, S2.2.1, up2 S2.2.2 1140 0 (some 4300)) 4300 := d2.rr rfl rfl (fun a q1 q2 => up2_ne _ _ _ (by omega))
  have g3 : ∀ a, (a < 4300 ∨ 4700 ≤ a) → a ≠ 1140 → up2 S2.2.2 1140 0 (some 4300) a = S.2.2 a := fun a ha h => (up2_ne _ _ _ h).trans (g2 a ha).2.2.1
  have e30 : up2 S2.2.2 1140 0 (some 4300) 1140 0 = some 4300 := by rw [up2_row, va_up_self]
  obtain ⟨R3, hR3⟩ : ∃ R, R = up2 S2.2.2 1140 0 (some 4300) := ⟨_, rfl⟩
  rw [← hR3] at w3 d3 g3 e30 ⊢
  refine V_aload_n C dX0_init_15 rfl ?_
  refine V_new C (ci := 2) 1160 (by decide) ki_01.2.1 ki_01.2.2.1 ki_01.2.2.2 ((g2 1160 (by omega)).1.trans (hf _ (k16 _ (by omega) (by omega)) (by omega))) w3 (nF _ (k16 _ (by omega) (by omega)) (by omega)) (cb _ (by omega)) (cs _ (by omega)) (by decide) (by decide) dX0_init_16 ?_
  refine V_dup C dX0_init_19 rfl ?_
  refine V_callI (F := fun c => ¬ (1160 < c ∧ c < 1160 + 13)) C (c_lawsInit (S := nwS (S2.1, S2.2.1, R3) 1160 3 0) nwS_1 (fun c q1 q2 => (va_up_ne _ _ (by omega)).trans ((g2 c (by omega)).1.trans (hf _ (k16 _ (by omega) (by omega)) (by omega)))) (w3.nw (by decide)) (by omega)) mc_X2_init ml_X0_20 rfl (by decide) (by decide) (Nat.le_of_ble_eq_true rfl) (fun c hc q => nF c (k16 _ (by omega) (by omega)) (by omega) hc) (fun v hv => ?_) rfl dX0_init_20 ?_
  · rcases hv with hv | hv
    · rw [lv_a1 v hv]; show ¬ (1160 < 1140 ∧ _); omega
    · rcases List.mem_cons.mp hv with e | e
      · rw [e]; show ¬ (1160 < 1160 ∧ _); omega
      · rw [List.mem_singleton] at e; rw [e]; show ¬ (1160 < 1140 ∧ _); omega
  rintro v S5 I5 J5 ⟨rfl, o5, w5, m5, cl5⟩
  have g5 : ∀ a, (a < 1160 ∨ 1173 ≤ a) → S5.1 a = S2.1 a ∧ S5.2.1 a = S2.2.1 a ∧ S5.2.2 a = R3 a ∧ I5 a = I2 a ∧ J5 a = J2 a := fun a ha => by
    obtain ⟨e1, e2, e3, e4, e5⟩ := m5 a (by omega)
    exact ⟨e1.trans (va_up_ne _ _ (by omega)), e2.trans (va_up_ne _ _ (by omega)), e3.trans (va_up_ne _ _ (by omega)), e4.trans (va_up_ne _ _ (by omega)), e5.trans (va_up_ne _ _ (by omega))⟩
  clear m5
  refine V_putR C fl_X0_21 ((g5 1140 (by omega)).1.trans h140) rfl rfl dX0_init_23 ?_
  have w6 : wfS (S5.1, S5.2.1, up2 S5.2.2 1140 1 (some 1160)) := w5.put (by rw [ob_K o5]; omega)
  have d6 : Dk (S5.1, S5.2.1, up2 S5.2.2 1140 1 (some 1160)) 4300 := d3.mk (fun c h1 h2 => ⟨(g5 c (by omega)).1, (g5 c (by omega)).2.1, (up2_ne _ _ _ (by omega)).trans (g5 c (by omega)).2.2.1⟩)
  have o6 : Ob (S5.1, S5.2.1, up2 S5.2.2 1140 1 (some 1160)) 2 1160 := o5.rr rfl rfl (up2_ne S5.2.2 1 (some 1160) (show 1160 ≠ 1140 by omega))
  have e61 : up2 S5.2.2 1140 1 (some 1160) 1140 1 = some 1160 := by rw [up2_row, va_up_self]
  have e60 : up2 S5.2.2 1140 1 (some 1160) 1140 0 = some 4300 := by rw [up2_row, va_up_ne _ _ (by decide), (g5 1140 (by omega)).2.2.1]; exact e30
  have g6 : ∀ a, ¬ kC a → up2 S5.2.2 1140 1 (some 1160) a = S.2.2 a := fun a ha => by
    have h1 : a ≠ 1140 := fun e => ha (by rw [e]; exact k14 _ (by omega) (by omega))
    have h2 : a < 1160 ∨ 1173 ≤ a := by rcases Nat.lt_or_ge a 1160 with g | g; exact Or.inl g; rcases Nat.lt_or_ge a 1173 with g' | g'; exact absurd (k16 a g g') ha; exact Or.inr g'
    have h3 : a < 4300 ∨ 4700 ≤ a := by rcases Nat.lt_or_ge a 4300 with g | g; exact Or.inl g; rcases Nat.lt_or_ge a 4700 with g' | g'; exact absurd (k43 a g g') ha; exact Or.inr g'
    rw [up2_ne _ _ _ h1, (g5 a h2).2.2.1]
    exact g3 a h3 h1
  obtain ⟨R6, hR6⟩ : ∃ R, R = up2 S5.2.2 1140 1 (some 1160) := ⟨_, rfl⟩
  rw [← hR6] at w6 d6 o6 e61 e60 g6 ⊢
  refine V_aload_n C dX0_init_26 rfl ?_
  refine V_bipush C (v := nI 101) dX0_init_27 rfl ?_
  refine V_putI C fl_X0_25 ((g5 1140 (by omega)).1.trans h140) rfl rfl dX0_init_29 ?_
  have b0 : Bd 0 1140 (S5.1, S5.2.1, R6) (up2 I5 1140 4 (nI 101)) J5 5 (S5.1, S5.2.1, R6) (up2 I5 1140 4 (nI 101)) J5 := (Bd.z (S := (S5.1, S5.2.1, R6)) ((g5 1140 (by omega)).1.trans h140) w6 (fun c h1 h2 => by
    have h2 : c < 1149 := h2
    exact (g5 c (by omega)).1.trans ((g2 c (by omega)).1.trans (hf _ (k14 _ (by omega) (by omega)) (by omega))))).skip (by omega) (fun x _ hx => by match x, hx with | 0, _ => rfl | 1, _ => rfl | 2, _ => rfl | 3, _ => rfl | 4, _ => rfl)
  have nF' : ∀ c, 1140 < c → c < 1140 + 1 + nf 0 → ¬ xF X c := fun c h1 h2 => nF c (k14 _ (by omega) (by have h2 : c < 1149 := h2; omega)) (by omega)
  refine V_aload_n C dX0_init_32 rfl ?_
  refine V_bipush C (v := nI 9) dX0_init_33 rfl ?_
  refine V_bdI C b0 (ln := 9) rfl (by decide) lv_a1 nF' rfl (by omega) (by decide) (by decide) dX0_init_35 fl_X0_29 rfl rfl rfl rfl dX0_init_37 (fun S7 I7 J7 b7 _ => ?_)
  refine V_aload_n C dX0_init_40 rfl ?_
  refine V_bipush C (v := nI 60) dX0_init_41 rfl ?_
  refine V_bdI C b7 (ln := 60) rfl (by decide) lv_a1 nF' rfl (by omega) (by decide) (by decide) dX0_init_43 fl_X0_33 rfl rfl rfl rfl dX0_init_45 (fun S8 I8 J8 b8 _ => ?_)
  refine V_aload_n C dX0_init_48 rfl ?_
  refine V_bipush C (v := nI 12) dX0_init_49 rfl ?_
  refine V_bdI C b8 (ln := 12) rfl (by decide) lv_a1 nF' rfl (by omega) (by decide) (by decide) dX0_init_51 fl_X0_36 rfl rfl rfl rfl dX0_init_53 (fun S9 I9 J9 b9 _ => ?_)
  have o9 : Ob S9 0 1140 := b9.ob (arr_no (by decide))
  obtain ⟨-, w9, -, m9, ⟨eI9, eJ9, eR9⟩, -⟩ := b9
  have g9 : ∀ a, (a < 1140 ∨ 1149 ≤ a) → S9.1 a = S5.1 a ∧ S9.2.1 a = S5.2.1 a ∧ S9.2.2 a = R6 a ∧ I9 a = I5 a ∧ J9 a = J5 a := fun a ha => by
    obtain ⟨e1, e2, e3, e4, e5⟩ := m9 a (by have : nf 0 = 8 := rfl; omega)
    exact ⟨e1, e2, e3, e4.trans (up2_ne _ _ _ (by omega)), e5⟩
  refine V_vret C (by decide) (by decide) dX0_init_56 ⟨rfl, o9, ⟨(eR9 0 rfl).trans e60, (eR9 1 rfl).trans e61⟩, d6.mk (fun c h1 h2 => ⟨(g9 c (by omega)).1, (g9 c (by omega)).2.1, (g9 c (by omega)).2.2.1⟩), o6.mk (fun c h1 h2 => ⟨(g9 c (by omega)).1, (g9 c (by omega)).2.1, (g9 c (by omega)).2.2.1⟩) (arr_nf 2 (by decide)), cl5.cg (fun x _ => by rw [(g9 1160 (by omega)).2.2.2.1]) (fun a q1 q2 => (g9 a (by omega)).2.2.2.1), q2.same (fun a q1 q2 => (g9 a (by omega)).2.2.2.1.trans (g5 a (by omega)).2.2.2.1) ((g9 4300 (by omega)).2.2.2.2.trans (g5 4300 (by omega)).2.2.2.2) (by decide), ⟨?_, ?_⟩, w9, fun a ha => ?_⟩
  · rw [eI9, up2_row, va_up_ne _ _ (by decide), (g5 1140 (by omega)).2.2.2.1, (g2 1140 (by omega)).2.2.2.2 ⟨by omega, by omega, by omega, by omega, by omega⟩]
    exact hz 3
  · rw [eI9, up2_row, va_up_self]
  · have h1 : a < 1140 ∨ 1149 ≤ a := by rcases Nat.lt_or_ge a 1140 with g | g; exact Or.inl g; rcases Nat.lt_or_ge a 1149 with g' | g'; exact absurd (k14 a g g') ha; exact Or.inr g'
    have h2 : a < 1160 ∨ 1173 ≤ a := by rcases Nat.lt_or_ge a 1160 with g | g; exact Or.inl g; rcases Nat.lt_or_ge a 1173 with g' | g'; exact absurd (k16 a g g') ha; exact Or.inr g'
    have h3 : a < 4300 ∨ 4700 ≤ a := by rcases Nat.lt_or_ge a 4300 with g | g; exact Or.inl g; rcases Nat.lt_or_ge a 4700 with g' | g'; exact absurd (k43 a g g') ha; exact Or.inr g'
    obtain ⟨p1, p2, p3, p4, p5⟩ := g9 a h1
    obtain ⟨r1, r2, r3, r4, r5⟩ := g5 a h2
    obtain ⟨t1, t2, t3, t4, t5⟩ := g2 a h3
    exact ⟨p1.trans (r1.trans t1), p2.trans (r2.trans t2), p3.trans (g6 a ha), p5.trans (r5.trans t4), fun hn => p4.trans (r4.trans (t5 hn))⟩
end C27
