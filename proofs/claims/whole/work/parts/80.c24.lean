/-! a disk's constructor -/
section C24
variable {l : Launch} {S S' S2 : HS} {I I' I2 : HI} {J J' J2 : HJ} {b x ci : Nat}
theorem ob3_i {a : Nat} : Ob S 3 a ↔ S.1 a = 4 ∧ S.2.2 a 7 = some (a + 8) ∧ S.1 (a + 8) = 10 ∧ S.2.1 (a + 8) = 12 := by
  constructor
  · intro h
    obtain ⟨h1, h2, h3⟩ := h.2 7 10 12 rfl
    exact ⟨h.1, h1, h2, h3⟩
  · intro ⟨h0, h1, h2, h3⟩
    refine ⟨h0, fun x kd ln hx => ?_⟩
    have e : x = 7 ∧ kd = 10 ∧ ln = 12 := by
      unfold arrOf at hx
      split at hx <;> first | (cases hx; done) | omega | (cases hx; exact ⟨rfl, rfl, rfl⟩) | skip
      all_goals first | (simp at *; done) | omega
    obtain ⟨rfl, rfl, rfl⟩ := e
    exact ⟨h1, h2, h3⟩
theorem ObN.same {n : Nat} (h : ObN S ci b n) (h1 : ∀ c, b ≤ c → c ≤ b + n → S'.1 c = S.1 c ∧ S'.2.1 c = S.2.1 c) (h2 : S'.2.2 b = S.2.2 b) : ObN S' ci b n := ⟨by rw [(h1 b (by omega) (by omega)).1]; exact h.1, fun x kd ln hx hax => by
  obtain ⟨g1, g2, g3⟩ := h.2 x kd ln hx hax
  obtain ⟨e1, e2⟩ := h1 (b + 1 + x) (by omega) (by omega)
  exact ⟨by rw [h2]; exact g1, by rw [e1]; exact g2, by rw [e2]; exact g3⟩⟩
/-- the first u lumps are there, what comes behind is free -/
def DkN (S : HS) (b u : Nat) : Prop := ObN S 1 b 13 ∧ (∀ x, x < u → Ob S 3 (b + 20 + 10 * x) ∧ S.2.2 (b + 13) x = some (b + 20 + 10 * x)) ∧ (∀ a, b + 20 + 10 * u ≤ a → a < b + 400 → S.1 a = 0) ∧ wfS S
def lpS (S : HS) (b u : Nat) : HS := ((rowS (nwS S (b + 20 + 10 * u) 4 0) (b + 20 + 10 * u) 7 10 12).1, (rowS (nwS S (b + 20 + 10 * u) 4 0) (b + 20 + 10 * u) 7 10 12).2.1, up2 (rowS (nwS S (b + 20 + 10 * u) 4 0) (b + 20 + 10 * u) 7 10 12).2.2 (b + 13) u (some (b + 20 + 10 * u)))
theorem lpS_1 {u c : Nat} (h1 : c ≠ b + 20 + 10 * u) (h2 : c ≠ b + 20 + 10 * u + 8) : (lpS S b u).1 c = S.1 c ∧ (lpS S b u).2.1 c = S.2.1 c := by
  refine ⟨?_, ?_⟩
  · show (rowS _ _ 7 10 12).1 c = _
    rw [rowS_1n (by omega)]
    exact va_up_ne _ _ h1
  · show (rowS _ _ 7 10 12).2.1 c = _
    rw [rowS_ln (by omega)]
    exact va_up_ne _ _ h1
theorem lpS_r {u c : Nat} (h1 : c ≠ b + 20 + 10 * u) (h2 : c ≠ b + 20 + 10 * u + 8) (h3 : c ≠ b + 13) : (lpS S b u).2.2 c = S.2.2 c := by
  show up2 (rowS (nwS S (b + 20 + 10 * u) 4 0) (b + 20 + 10 * u) 7 10 12).2.2 (b + 13) u _ c = _
  rw [up2_ne _ _ _ h3, rowS_rn (by omega) h1]
  exact va_up_ne _ _ h1
theorem lpS_a {u : Nat} : Ob (lpS S b u) 3 (b + 20 + 10 * u) := by
  have e : (lpS S b u).2.2 (b + 20 + 10 * u) = (rowS (nwS S (b + 20 + 10 * u) 4 0) (b + 20 + 10 * u) 7 10 12).2.2 (b + 20 + 10 * u) := up2_ne _ _ _ (by omega)
  refine ob3_i.mpr ⟨?_, by rw [e]; exact rowS_rs, rowS_1s (b := b + 20 + 10 * u) (x := 7) (n := 12), rowS_ls (b := b + 20 + 10 * u) (x := 7) (kd := 10)⟩
  show (rowS _ _ 7 10 12).1 _ = 4
  rw [rowS_1n (by omega)]
  exact va_up_self _ _ _
theorem lpS_13 {u y : Nat} : (lpS S b u).2.2 (b + 13) y = if y = u then some (b + 20 + 10 * u) else S.2.2 (b + 13) y := by
  show up2 (rowS (nwS S (b + 20 + 10 * u) 4 0) (b + 20 + 10 * u) 7 10 12).2.2 (b + 13) u _ (b + 13) y = _
  rw [up2_row]
  by_cases e : y = u
  · subst e; rw [va_up_self, if_pos rfl]
  · rw [va_up_ne _ _ e, if_neg e, rowS_rn (by omega) (by omega)]
    exact congrFun (va_up_ne _ _ (by omega)) y
theorem DkN.nx {u : Nat} (h : DkN S b u) (hu : u < 30) : DkN (lpS S b u) b (u + 1) := by
  obtain ⟨h1, h2, h3, h4⟩ := h
  refine ⟨h1.same (fun c g1 g2 => lpS_1 (by omega) (by omega)) (lpS_r (by omega) (by omega) (by omega)), fun x hx => ?_, fun a g1 g2 => ?_, ?_⟩
  · by_cases e : x = u
    · subst e; exact ⟨lpS_a, by rw [lpS_13, if_pos rfl]⟩
    · obtain ⟨q1, q2⟩ := h2 x (by omega)
      obtain ⟨a1, a2, a3, a4⟩ := ob3_i.mp q1
      refine ⟨ob3_i.mpr ⟨?_, ?_, ?_, ?_⟩, by rw [lpS_13, if_neg e]; exact q2⟩
      · rw [(lpS_1 (by omega) (by omega)).1]; exact a1
      · rw [lpS_r (by omega) (by omega) (by omega)]; exact a2
      · rw [(lpS_1 (by omega) (by omega)).1]; exact a3
      · rw [(lpS_1 (by omega) (by omega)).2]; exact a4
  · rw [(lpS_1 (by omega) (by omega)).1]; exact h3 a (by omega) g2
  · have w1 : wfS (rowS (nwS S (b + 20 + 10 * u) 4 0) (b + 20 + 10 * u) 7 10 12) := (h4.nw (by decide)).row (by decide)
    intro a y c ha hy
    by_cases e : a = b + 13 ∧ y = u
    · rw [e.1, lpS_13, if_pos e.2] at hy
      rw [← Option.some.inj hy, ob_K lpS_a]
      omega
    · refine w1 a y c ha ?_
      rw [← hy]
      show _ = up2 (rowS (nwS S (b + 20 + 10 * u) 4 0) (b + 20 + 10 * u) 7 10 12).2.2 (b + 13) u _ a y
      by_cases e1 : a = b + 13
      · subst e1; rw [up2_row, va_up_ne _ _ (fun q => e ⟨rfl, q⟩)]
      · rw [up2_ne _ _ _ e1]
theorem lpS_F {u : Nat} (hu : u < 30) : MkF b (b + 400) S I J (lpS S b u) (nwI (nwI I (b + 20 + 10 * u)) (b + 20 + 10 * u + 8)) (nwJ (nwJ J (b + 20 + 10 * u)) (b + 20 + 10 * u + 8)) := fun a ha => ⟨(lpS_1 (by omega) (by omega)).1, (lpS_1 (by omega) (by omega)).2, lpS_r (by omega) (by omega) (by omega), (va_up_ne _ _ (by omega)).trans (va_up_ne _ _ (by omega)), (va_up_ne _ _ (by omega)).trans (va_up_ne _ _ (by omega))⟩
theorem DkN.dk (h : DkN S b 30) : Dk S b := ⟨h.1.ob (fun x hx => by
  unfold arrOf
  split <;> first | rfl | omega), h.2.1⟩
/-- a disk has been made at b -/
def MkD (b : Nat) (S : HS) (I : HI) (J : HJ) (S' : HS) (I' : HI) (J' : HJ) : Prop := ∀ a, (a < b ∨ b + 400 ≤ a) → S'.1 a = S.1 a ∧ S'.2.1 a = S.2.1 a ∧ S'.2.2 a = S.2.2 a ∧ J' a = J a ∧ (ouK b a → I' a = I a)
theorem clo_bu {k : Nat} {w : Option Value} (hk : k ≠ b) (hw : ∀ v, w = some v → clo (fun c => c ≠ k) v) : ∀ v, some v ∈ [some (Value.ref b), w] → clo (fun c => c ≠ k) v := by
  intro v hv
  rcases List.mem_cons.mp hv with e | e
  · rw [Option.some.inj e]; exact fun q => hk q.symm
  · rw [List.mem_singleton] at e; exact hw v e.symm
set_option maxRecDepth 100000 in
set_option maxHeartbeats 1000000 in
/-- a disk's constructor, at the key b -/
theorem c_diskInit (hK : S.1 b = 2) (hfr : ∀ a, b < a → a < b + 400 → S.1 a = 0) (hw : wfS S) (hb : 1500 ≤ b) (hb2 : b + 400 ≤ 5000) (hI : I b 1 = 0 ∧ I b 2 = 0 ∧ J b 3 = 0) : Mt l yX1_init cX1_init 2 none (rmc 3 65 726) (fun c => ¬ (b < c ∧ c < b + 400)) [.ref b] S I J (fun v S' I' J' => v = none ∧ Dk S' b ∧ wfS S' ∧ MkD b S I J S' I' J' ∧ CQ I' J' b (clD (nI 12) (fun _ _ => 0), 0, 0)) := by
  refine Mt.of (by decide) (fun ad => by simp [lg_sl, vv, Value.category]) (fun c hc => by show ¬ (b < c ∧ c < b + 400); omega) (fun X hX hN hF C => ?_)
  generalize hP : (fun (v : Option Value) (S' : HS) (I' : HI) (J' : HJ) => v = none ∧ Dk S' b ∧ wfS S' ∧ MkD b S I J S' I' J' ∧ CQ I' J' b (clD (nI 12) (fun _ _ => 0), 0, 0)) = P
  have nF : ∀ c, b < c → c < b + 400 → ¬ xF X c := fun c h1 h2 => by rw [hF]; exact fun q => q ⟨h1, h2⟩
  have hn : ∀ k, k < 2 → k < xn X := fun k hk => by rw [hN]; exact hk
  have last : ∀ (Sn : HS) (In : HI) (Jn : HJ), DkN Sn b 30 → MkF b (b + 400) S I J Sn In Jn → In b = I b → Jn b = J b → V X P 65 726 72 [some (.ref b), some (.int (nI 30))] [] Sn In Jn := by
    intro Sn In Jn hD hM eI eJ
    have hIn : In b 1 = 0 ∧ In b 2 = 0 ∧ Jn b 3 = 0 := by rw [eI, eJ]; exact hI
    refine V_aload_n C dX1_init_72 rfl ?_
    refine V_bipush C (v := nI 12) dX1_init_73 rfl ?_
    refine V_callV (F := fun _ => True) C (c_clear (D := fun _ _ => 0) hb hD.dk hIn (nI 12)) mi_X1_clear ml_X1_31 rfl (ob_K hD.dk.1) (by decide) (by decide) (by decide) (Nat.le_of_ble_eq_true rfl) (fun _ _ => trivial) (fun v _ => clo_T v) rfl dX1_init_75 ?_
    rintro v S' I2 J2 ⟨hS9, rfl, q2, f2, hJ9⟩
    obtain rfl := hS9.symm
    obtain rfl := hJ9.symm
    refine V_vret C (by decide) (by decide) dX1_init_78 ?_
    rw [← hP]
    refine ⟨rfl, hD.dk, hD.2.2.2, fun a ha => ?_, q2⟩
    obtain ⟨m1, m2, m3, m4, m5⟩ := hM a ha
    exact ⟨m1, m2, m3, m5, fun ho => (f2.1 a ho).trans m4⟩
  have loop : ∀ (c u nc ns : Nat) (Sn : HS) (In : HI) (Jn : HJ), u + c = 30 → nc = 5 + 2 * u → ns = 126 + 20 * u → DkN Sn b u → MkF b (b + 400) S I J Sn In Jn → In b = I b → Jn b = J b → V X P nc ns 47 [some (.ref b), some (.int (nI u))] [] Sn In Jn := by
    intro c
    induction c with
    | zero =>
      intro u nc ns Sn In Jn hu hnc hns hD hM eI eJ
      have hu : u = 30 := hu
      subst hu
      subst hnc
      subst hns
      refine V_iload_n C dX1_init_47 rfl ?_
      refine V_bipush C (v := nI 30) dX1_init_48 rfl ?_
      refine V_icmp_ge C 72 dX1_init_50 (by decide) (fun _ => last _ _ _ hD hM eI eJ) (fun h => absurd (Int32.le_refl _) h)
    | succ c ih =>
      intro u nc ns Sn In Jn hu hnc hns hD hM eI eJ
      obtain ⟨d1, d2, d3, d4⟩ := id hD
      obtain ⟨r1, r2, r3⟩ := d1.2 12 14 30 (by omega) rfl
      obtain ⟨a, ha⟩ : ∃ a, a = b + 20 + 10 * u := ⟨_, rfl⟩
      have hq : nwS Sn a 4 0 = nwS Sn (b + 20 + 10 * u) 4 0 := by rw [ha]
      have s13 : (rowS (nwS Sn a 4 0) a 7 10 12).1 (b + 13) = 14 := by
        rw [rowS_1n (by omega)]
        exact (va_up_ne _ _ (by omega)).trans r2
      have l13 : (rowS (nwS Sn a 4 0) a 7 10 12).2.1 (b + 13) = 30 := by
        rw [rowS_ln (by omega)]
        exact (va_up_ne _ _ (by omega)).trans r3
      have sa : (nwS Sn a 4 0).1 a = 4 := va_up_self _ _ _
      have sa8 : (nwS Sn a 4 0).1 (a + 8) = 0 := (va_up_ne _ _ (by omega)).trans (d3 (a + 8) (by omega) (by omega))
      have wa : wfS (nwS Sn a 4 0) := d4.nw (by decide)
      have nx := ih (u + 1) (nc + 1 + 1) (ns + 8 + 12) (lpS Sn b u) (nwI (nwI In a) (a + 8)) (nwJ (nwJ Jn a) (a + 8)) (by omega) (by omega) (by omega) (hD.nx (by omega)) (by rw [ha]; exact hM.tr (lpS_F (by omega))) (((va_up_ne _ _ (by omega)).trans (va_up_ne _ _ (by omega))).trans eI) (((va_up_ne _ _ (by omega)).trans (va_up_ne _ _ (by omega))).trans eJ)
      unfold lpS at nx
      rw [← ha] at nx
      refine V_iload_n C dX1_init_47 rfl ?_
      refine V_bipush C (v := nI 30) dX1_init_48 rfl ?_
      refine V_icmp_ge C 72 dX1_init_50 (by decide) (fun h => absurd h (nI_ge (by omega) (by omega))) (fun _ => ?_)
      refine V_aload_n C dX1_init_53 rfl ?_
      refine V_getR C fl_X1_26 d1.1 r1 rfl dX1_init_54 ?_
      refine V_iload_n C dX1_init_57 rfl ?_
      refine V_new C (ci := 3) a (by decide) ki_3.1 ki_3.2.1 ki_3.2.2 (d3 a (by omega) (by omega)) d4 (nF a (by omega) (by omega)) (clo_bu (by omega) (fun v hv => by cases hv; trivial)) (fun v hv => ?_) (by show nc + 1 ≤ 65; omega) (by show ns + 8 ≤ 726; omega) dX1_init_58 ?_
      · rcases List.mem_cons.mp hv with e | e
        · rw [e]; trivial
        · rw [List.mem_singleton] at e; rw [e]; show b + 13 ≠ a; omega
      refine V_dup C dX1_init_61 rfl ?_
      refine V_callI (F := fun c => c ≠ a + 8) C (c_lumpInit sa sa8 wa (by omega)) mc_X3_init ml_X1_30 rfl (by decide) ⟨by show nc + 1 + 1 ≤ 65; omega, by show ns + 8 + 12 ≤ 726; omega⟩ (Nat.le_of_ble_eq_true rfl) (fun k hk => ?_) (fun v hv => ?_) rfl dX1_init_62 ?_
      · intro e
        exact nF k (by omega) (by omega) hk
      · rcases hv with hv | hv
        · exact clo_bu (b := b) (w := some (.int (nI u))) (by omega) (fun v hv => by cases hv; trivial) v hv
        · rcases List.mem_cons.mp hv with e | e
          · rw [e]; show a ≠ a + 8; omega
          · rcases List.mem_cons.mp e with e | e
            · rw [e]; trivial
            · rw [List.mem_singleton] at e; rw [e]; show b + 13 ≠ a + 8; omega
      rintro v S' I3 J3 ⟨rfl, -, -, rfl, rfl, rfl⟩
      refine V_aast C (ci := 3) u (Or.inr ⟨s13, rfl⟩) ?_ rfl (by rw [l13]; omega) (by rw [l13]; decide) dX1_init_65 ?_
      · rw [rowS_1n (by omega)]; exact sa
      refine V_iincU C dX1_init_66 rfl (hn _ (by decide)) ?_
      refine V_goto C 47 dX1_init_69 (by decide) ?_
      exact nx
  have o0 : ObN S 1 b 8 := ObN.skip (n := 0) ⟨hK, fun x _ _ hx _ => absurd hx (by omega)⟩ (fun x _ hx => by match x, hx with | 0, _ => rfl | 1, _ => rfl | 2, _ => rfl | 3, _ => rfl | 4, _ => rfl | 5, _ => rfl | 6, _ => rfl | 7, _ => rfl)
  have o1 := o0.row (kd := 10) (ln := 12) rfl
  have o2 := o1.row (kd := 10) (ln := 12) rfl
  have o3 := o2.row (kd := 10) (ln := 12) rfl
  have o4 := o3.row (kd := 10) (ln := 60) rfl
  have o5 := o4.row (kd := 14) (ln := 30) rfl
  have w1 : wfS (rowS S b 8 10 12) := hw.row (by decide)
  have w2 : wfS (rowS (rowS S b 8 10 12) b 9 10 12) := w1.row (by decide)
  have w3 : wfS (rowS (rowS (rowS S b 8 10 12) b 9 10 12) b 10 10 12) := w2.row (by decide)
  have w4 : wfS (rowS (rowS (rowS (rowS S b 8 10 12) b 9 10 12) b 10 10 12) b 11 10 60) := w3.row (by decide)
  have w5 : wfS (rowS (rowS (rowS (rowS (rowS S b 8 10 12) b 9 10 12) b 10 10 12) b 11 10 60) b 12 14 30) := w4.row (by decide)
  have f1 : ∀ a, b + 10 ≤ a → a < b + 400 → (rowS S b 8 10 12).1 a = 0 := fun a g1 g2 => by rw [rowS_1n (by omega)]; exact hfr a (by omega) g2
  have f2 : ∀ a, b + 11 ≤ a → a < b + 400 → (rowS (rowS S b 8 10 12) b 9 10 12).1 a = 0 := fun a g1 g2 => by rw [rowS_1n (by omega)]; exact f1 a (by omega) g2
  have f3 : ∀ a, b + 12 ≤ a → a < b + 400 → (rowS (rowS (rowS S b 8 10 12) b 9 10 12) b 10 10 12).1 a = 0 := fun a g1 g2 => by rw [rowS_1n (by omega)]; exact f2 a (by omega) g2
  have f4 : ∀ a, b + 13 ≤ a → a < b + 400 → (rowS (rowS (rowS (rowS S b 8 10 12) b 9 10 12) b 10 10 12) b 11 10 60).1 a = 0 := fun a g1 g2 => by rw [rowS_1n (by omega)]; exact f3 a (by omega) g2
  have f5 : ∀ a, b + 20 + 10 * 0 ≤ a → a < b + 400 → (rowS (rowS (rowS (rowS (rowS S b 8 10 12) b 9 10 12) b 10 10 12) b 11 10 60) b 12 14 30).1 a = 0 := fun a g1 g2 => by rw [rowS_1n (by omega)]; exact f4 a (by omega) g2
  have cb : ∀ k, k ≠ b → ∀ v, some v ∈ lvs 2 [Value.ref b] → clo (fun c => c ≠ k) v := fun k hk => clo_bu (w := none) hk (fun v hv => by cases hv)
  have M : ∀ {x kd n : Nat} {S : HS} {I : HI} {J : HJ}, x < 13 → MkF b (b + 400) S I J (rowS S b x kd n) (nwI I (b + 1 + x)) (nwJ J (b + 1 + x)) := fun hx => MkF.row (Nat.le_refl _) (by omega)
  have MM := ((((M (x := 8) (kd := 10) (n := 12) (S := S) (I := I) (J := J) (by omega)).tr (M (x := 9) (kd := 10) (n := 12) (by omega))).tr (M (x := 10) (kd := 10) (n := 12) (by omega))).tr (M (x := 11) (kd := 10) (n := 60) (by omega))).tr (M (x := 12) (kd := 14) (n := 30) (by omega))
  refine V_aload_n C dX1_init_0 rfl ?_
  refine V_objInit C ml_X1_3 (by decide) (by decide) dX1_init_1 ?_
  refine V_aload_n C dX1_init_4 rfl ?_
  refine V_bipush C (v := nI 12) dX1_init_5 rfl ?_
  refine V_rowI (b := b) (x := 8) (ci := 1) C (n := 12) rfl (by omega) hK (hfr _ (by omega) (by omega)) hw (nF _ (by omega) (by omega)) (cb _ (by omega)) (fun v hv => by cases hv) (by decide) (by decide) dX1_init_7 fl_X1_9 rfl rfl rfl rfl dX1_init_9 ?_
  refine V_aload_n C dX1_init_12 rfl ?_
  refine V_bipush C (v := nI 12) dX1_init_13 rfl ?_
  refine V_rowI (b := b) (x := 9) (ci := 1) C (n := 12) rfl (by omega) o1.1 (f1 _ (by omega) (by omega)) w1 (nF _ (by omega) (by omega)) (cb _ (by omega)) (fun v hv => by cases hv) (by decide) (by decide) dX1_init_15 fl_X1_15 rfl rfl rfl rfl dX1_init_17 ?_
  refine V_aload_n C dX1_init_20 rfl ?_
  refine V_bipush C (v := nI 12) dX1_init_21 rfl ?_
  refine V_rowI (b := b) (x := 10) (ci := 1) C (n := 12) rfl (by omega) o2.1 (f2 _ (by omega) (by omega)) w2 (nF _ (by omega) (by omega)) (cb _ (by omega)) (fun v hv => by cases hv) (by decide) (by decide) dX1_init_23 fl_X1_18 rfl rfl rfl rfl dX1_init_25 ?_
  refine V_aload_n C dX1_init_28 rfl ?_
  refine V_bipush C (v := nI 60) dX1_init_29 rfl ?_
  refine V_rowI (b := b) (x := 11) (ci := 1) C (n := 60) rfl (by omega) o3.1 (f3 _ (by omega) (by omega)) w3 (nF _ (by omega) (by omega)) (cb _ (by omega)) (fun v hv => by cases hv) (by decide) (by decide) dX1_init_31 fl_X1_21 rfl rfl rfl rfl dX1_init_33 ?_
  refine V_aload_n C dX1_init_36 rfl ?_
  refine V_bipush C (v := nI 30) dX1_init_37 rfl ?_
  have hao : va_AO "RingDisk$Lump" (xs X) := C.2.2.2.2.2.2.2.2.2.1.1.2.2.2.1
  refine V_anew C (t0 := 5) (n := 30) (b + 1 + 12) (Or.inr rfl) rfl rfl hao ki_3.1 rfl (by omega) (f4 _ (by omega) (by omega)) w4 (nF _ (by omega) (by omega)) (cb _ (by omega)) (fun v hv => ?_) (by decide) (by decide) dX1_init_39 ?_
  · rw [List.mem_singleton] at hv; rw [hv]; show b ≠ b + 1 + 12; omega
  refine V_putFR C fl_X1_26 ((va_up_ne _ _ (by omega)).trans o4.1) rfl rfl rfl rfl dX1_init_42 ?_
  refine V_iconst C (v := nI 0) dX1_init_45 rfl ?_
  refine V_istore_n C dX1_init_46 (hn _ (by decide)) ?_
  exact loop 30 0 5 126 _ _ _ rfl rfl rfl ⟨o5, fun x hx => absurd hx (by omega), f5, w5⟩ MM (by unfold nwI; rw [va_up_ne _ _ (by omega), va_up_ne _ _ (by omega), va_up_ne _ _ (by omega), va_up_ne _ _ (by omega), va_up_ne _ _ (by omega)]) (by unfold nwJ; rw [va_up_ne _ _ (by omega), va_up_ne _ _ (by omega), va_up_ne _ _ (by omega), va_up_ne _ _ (by omega), va_up_ne _ _ (by omega)])
end C24
