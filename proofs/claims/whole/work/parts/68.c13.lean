/-! the class's course: steps -/
section C13
variable {l : Launch} {S : HS} {I I' : HI} {J J' : HJ} {b la : Nat} {D : DV} {L : List Law} {e lk sh : Nat} {q : QV}
theorem step_i {lw : LW} {k share : Int32} (hl : lwOk lw) (h : iOk q) : iOk (stepD lw k share q) := by
  have h1 : iOk (s1D lw k q.1, q.2) := stickN_i hl _ 0 q h (by omega)
  have h2 : iOk (s2D lw (s1D lw k q.1), q.2) := breakN_i hl _ 0 (s1D lw k q.1, q.2) h1 (by show _ ≤ rgD (s1D lw k q.1); omega)
  have h3 := s3D_i hl h2
  obtain ⟨p3, hp3⟩ : ∃ p3, p3 = s3D lw (s2D lw (s1D lw k q.1), q.2.1) := ⟨_, rfl⟩
  have h3 : iOk (p3.1, p3.2, q.2.2) := by rw [hp3]; exact h3
  have h4 : iOk (g4D lw p3.1, p3.2, q.2.2) := gathN_i hl _ 0 (p3.1, p3.2, q.2.2) h3 (Nat.zero_add _)
  have h5 : iOk (f4D lw (g4D lw p3.1), p3.2, q.2.2) := feedN_i hl _ 0 (g4D lw p3.1, p3.2, q.2.2) h4 (by show _ ≤ cmD (g4D lw p3.1); omega)
  have h6 : iOk (e4D lw (f4D lw (g4D lw p3.1)), p3.2, q.2.2) := eatN_i hl _ 0 (f4D lw (g4D lw p3.1), p3.2, q.2.2) h5 (by show _ ≤ cmD (f4D lw (g4D lw p3.1)); omega)
  have h7 := wanN_i (lw := lw) (cmD (s4D lw p3.1)) 0 (s4D lw p3.1, p3.2, q.2.2) h6 (by show _ ≤ cmD (s4D lw p3.1); omega)
  obtain ⟨p7, hp7⟩ : ∃ p7, p7 = s5D lw (s4D lw p3.1, p3.2) := ⟨_, rfl⟩
  have h7 : iOk (p7.1, p7.2, q.2.2) := by rw [hp7]; exact h7
  have h8 := msN_i (share := share) (rgD p7.1) 0 (p7.1, p7.2, q.2.2) h7
  obtain ⟨p8, hp8⟩ : ∃ p8, p8 = s6D share (p7.1, q.2.2) := ⟨_, rfl⟩
  have h8 : iOk (p8.1, p7.2, p8.2) := by rw [hp8]; exact h8
  have h9 : iOk (s7D p8.1, p7.2, p8.2) := up01_i (q := (p8.1, p7.2, p8.2)) h8
  have em : p7 = midD lw k (q.1, q.2.1) := by rw [hp7, hp3]; rfl
  have es : stepD lw k share q = (s7D p8.1, p7.2, p8.2) := by rw [hp8, em]; rfl
  rw [es]
  exact h9
set_option maxRecDepth 100000 in
theorem c_enter (hF : Ob S 0 1140) {b2 : Nat} (g : Int32) : Mt l yX0_enter cX0_enter 3 none (rmk 0) (fun _ => True) [.ref 1140, .ref b2, .int g] S I J (fun v S' I' J' => v = none ∧ S' = (S.1, S.2.1, up2 S.2.2 1140 0 (some b2)) ∧ I' = up2 I 1140 2 g ∧ J' = J) := by
  refine Mt.of (by decide) (fun ad => by simp [lg_sl, vv, Value.category]) (fun _ _ => trivial) (fun X _ hN _ C => ?_)
  have hn : ∀ k, k < 3 → k < xn X := fun k hk => by rw [hN]; exact hk
  have hF2 : Ob (S.1, S.2.1, up2 S.2.2 1140 0 (some b2)) 0 1140 := by
    refine ⟨hF.1, fun x kd ln hx => ?_⟩
    obtain ⟨h1, h2, h3⟩ := hF.2 x kd ln hx
    refine ⟨?_, h2, h3⟩
    show up2 S.2.2 1140 0 (some b2) 1140 x = _
    have hx0 : x ≠ 0 := fun h => by subst h; cases hx
    rw [up2_row, va_up_ne _ _ hx0]
    exact h1
  refine V_aload_n C dX0_enter_0 rfl ?_
  refine V_aload_n C dX0_enter_1 rfl ?_
  refine V_putR C fl_X0_12 (ob_K hF) rfl rfl dX0_enter_2 ?_
  refine V_aload_n C dX0_enter_5 rfl ?_
  refine V_iload_n C dX0_enter_6 rfl ?_
  refine V_putI C fl_X0_39 (ob_K hF2) rfl rfl dX0_enter_7 ?_
  exact V_vret C (Nat.zero_le _) (Nat.zero_le _) dX0_enter_10 ⟨rfl, rfl, rfl, rfl⟩
set_option maxRecDepth 100000 in
set_option maxHeartbeats 2000000 in
theorem c_go (hX : CoS S b la) (hG : cG I la L e lk) (hsh : I 1140 4 = nI sh) (h101 : sh ≤ 101) (hQ : CQ I J b q) (hi : iOk q) {n : Nat} (hn1 : n ≤ 1000) : Mn l yX0_go cX0_go 3 none 5 [.ref 1140, .int (nI n)] S I J (fun v I' J' => v = none ∧ CQ I' J' b (itN (stepD (kcl L (nI e)) (nI lk) (nI sh)) n q) ∧ FC b I J I' J') := by
  refine Mn.of (by decide) (fun ad => by simp [lg_sl, vv, Value.category]) (fun X P hP hn C => ?_)
  have hX' := hX
  obtain ⟨hF, hd0, hl1, hK, hL, hb, hla⟩ := hX
  have hK1 := hK.1
  obtain ⟨lw, hlw⟩ : ∃ lw, lw = kcl L (nI e) := ⟨_, rfl⟩
  have hlO : lwOk lw := by rw [hlw]; exact hG.2.2.2.2.2
  obtain ⟨st, hst⟩ : ∃ st, st = stepD lw (nI lk) (nI sh) := ⟨_, rfl⟩
  have e40 : ∀ Ic Jc, FC b I J Ic Jc → Ic 1140 4 = nI sh := fun Ic Jc hf => by rw [hf.1 1140 ⟨by omega, by omega, by omega, by omega, by omega, by omega⟩]; exact hsh
  have loop : ∀ (c x : Nat) (q0 : QV) (Ic : HI) (Jc : HJ), x + c = n → FC b I J Ic Jc → CQ Ic Jc b q0 → iOk q0 → itN st c q0 = itN st n q → V X P 0 0 2 [some (.ref 1140), some (.int (nI n)), some (.int (nI x))] [] S Ic Jc := by
    intro c
    induction c with
    | zero =>
      intro x q0 Ic Jc hx hf hq hio he
      have hx : x = n := hx
      have he : q0 = itN st n q := he
      refine V_iload_n C dX0_go_2 rfl ?_
      refine V_iload_n C dX0_go_3 rfl ?_
      refine V_icmp_ge C 62 dX0_go_4 (by decide) (fun h4 => ?_) (fun h4 => absurd (by rw [hx]; exact Int32.le_refl _) h4)
      exact V_vret C (Nat.zero_le _) (Nat.zero_le _) dX0_go_62 (hP _ _ _ ⟨rfl, by rw [← hlw, ← hst, ← he]; exact hq, hf⟩)
    | succ c ih =>
      intro x q0 Ic Jc hx hf hq hio he
      have hGc := hG.fc hb hla hf
      have i1 : iOk (s1D lw (nI lk) q0.1, q0.2) := stickN_i hlO _ 0 q0 hio (by omega)
      obtain ⟨D1, hD1⟩ : ∃ D1, D1 = s1D lw (nI lk) q0.1 := ⟨_, rfl⟩
      rw [← hD1] at i1
      have i2 : iOk (s2D lw D1, q0.2) := breakN_i hlO _ 0 (D1, q0.2) i1 (by show _ ≤ rgD D1; omega)
      obtain ⟨D2, hD2⟩ : ∃ D2, D2 = s2D lw D1 := ⟨_, rfl⟩
      rw [← hD2] at i2
      have i3 := s3D_i hlO i2
      obtain ⟨p3, hp3⟩ : ∃ p3, p3 = s3D lw (D2, q0.2.1) := ⟨_, rfl⟩
      have i3 : iOk (p3.1, p3.2, q0.2.2) := by rw [hp3]; exact i3
      obtain ⟨D4, hD4⟩ : ∃ D4, D4 = g4D lw p3.1 := ⟨_, rfl⟩
      have i4 : iOk (D4, p3.2, q0.2.2) := by rw [hD4]; exact gathN_i hlO _ 0 (p3.1, p3.2, q0.2.2) i3 (Nat.zero_add _)
      obtain ⟨D5, hD5⟩ : ∃ D5, D5 = f4D lw D4 := ⟨_, rfl⟩
      have i5 : iOk (D5, p3.2, q0.2.2) := by rw [hD5]; exact feedN_i hlO _ 0 (D4, p3.2, q0.2.2) i4 (by show _ ≤ cmD D4; omega)
      obtain ⟨D6, hD6⟩ : ∃ D6, D6 = e4D lw D5 := ⟨_, rfl⟩
      have i6 : iOk (D6, p3.2, q0.2.2) := by rw [hD6]; exact eatN_i hlO _ 0 (D5, p3.2, q0.2.2) i5 (by show _ ≤ cmD D5; omega)
      have i7 := wanN_i (lw := lw) (cmD D6) 0 (D6, p3.2, q0.2.2) i6 (by show _ ≤ cmD D6; omega)
      obtain ⟨p7, hp7⟩ : ∃ p7, p7 = s5D lw (D6, p3.2) := ⟨_, rfl⟩
      have i7 : iOk (p7.1, p7.2, q0.2.2) := by rw [hp7]; exact i7
      have i8 := msN_i (share := nI sh) (rgD p7.1) 0 (p7.1, p7.2, q0.2.2) i7
      obtain ⟨p8, hp8⟩ : ∃ p8, p8 = s6D (nI sh) (p7.1, q0.2.2) := ⟨_, rfl⟩
      have i8 : iOk (p8.1, p7.2, p8.2) := by rw [hp8]; exact i8
      have i9 : iOk (s7D p8.1, p7.2, p8.2) := up01_i (q := (p8.1, p7.2, p8.2)) i8
      have es : st q0 = (s7D p8.1, p7.2, p8.2) := by rw [hst, hp8, hp7, hD6, hD5, hD4, hp3, hD2, hD1]; rfl
      have he : itN st c (st q0) = itN st n q := he
      rw [es] at he
      have last : ∀ I9 J9, CQ I9 J9 b (p8.1, p7.2, p8.2) → FC b I J I9 J9 → V X P 0 0 43 [some (.ref 1140), some (.int (nI n)), some (.int (nI x))] [] S I9 J9 := by
        intro I9 J9 q9 f9
        have e1 : I9 b 1 = p8.1 0 1 := q9.1.1.2.1
        have q10 : CQ (up2 I9 b 1 (p8.1 0 1 + nI 1)) J9 b (s7D p8.1, p7.2, p8.2) := by
          refine q9.of (q9.1.row0 (fun a ha => up2_ne _ _ _ ha) ?_ rfl (fun c hc => up2_ne _ _ _ hc)) (by rw [up2_row, va_up_ne _ _ (by decide)]) (by rw [up2_row, va_up_ne _ _ (by decide)])
          obtain ⟨c0, c1, c2, c3, c4, c5⟩ := q9.1.1
          rw [up2_row, va_up_ne _ _ (show 0 ≠ 1 by decide), va_up_self, va_up_ne _ _ (show 2 ≠ 1 by decide), va_up_ne _ _ (show 6 ≠ 1 by decide), va_up_ne _ _ (show 7 ≠ 1 by decide)]
          exact ⟨c0, rfl, c2, c3, c4, c5⟩
        have nx := ih (x + 1) _ _ _ (by omega) (f9.tr (FC.up (by omega))) q10 i9 he
        refine V_aload_n C dX0_go_43 rfl ?_
        refine V_getR C fl_X0_12 (ob_K hF) hd0 rfl dX0_go_44 ?_
        refine V_dup C dX0_go_47 rfl ?_
        refine V_getI C fl_X0_69 (ob_K hK1) rfl dX0_go_48 ?_
        rw [e1]
        refine V_iconst C (v := nI 1) dX0_go_51 (by decide +kernel) ?_
        refine V_iadd C dX0_go_52 ?_
        refine V_putI C fl_X0_69 (ob_K hK1) rfl rfl dX0_go_53 ?_
        refine V_iincU C dX0_go_56 rfl (hn _ (by decide)) ?_
        refine V_goto C 2 dX0_go_59 (by decide) ?_
        exact nx
      have mid2 : ∀ I4 J4, CQ I4 J4 b (p3.1, p3.2, q0.2.2) → FC b I J I4 J4 → V X P 0 0 23 [some (.ref 1140), some (.int (nI n)), some (.int (nI x))] [] S I4 J4 := by
        intro I4 J4 q4 f4
        have g4 := hG.fc hb hla f4
        refine V_aload_n C dX0_go_23 rfl ?_
        refine V_callV (F := fun _ => True) C (c_gather hX' g4 q4 i3) mi_X0_gather ml_X0_54 rfl (ob_K hF) (by decide) (by decide) (by decide) (Nat.le_of_ble_eq_true rfl) (fun _ _ => trivial) (fun v _ => clo_T v) rfl dX0_go_24 ?_
        rintro v S' I5 J5 ⟨hS9, rfl, q5, f5, hJ9⟩
        obtain rfl := hS9.symm
        obtain rfl := hJ9.symm
        rw [← hlw, show g4D lw ((p3.1, p3.2, q0.2.2) : QV).1 = D4 from hD4.symm] at q5
        have g5 := g4.fc hb hla f5
        refine V_aload_n C dX0_go_27 rfl ?_
        refine V_callV (F := fun _ => True) C (c_feedLumps hX' g5 q5 i4) mi_X0_feedLumps ml_X0_57 rfl (ob_K hF) (by decide) (by decide) (by decide) (Nat.le_of_ble_eq_true rfl) (fun _ _ => trivial) (fun v _ => clo_T v) rfl dX0_go_28 ?_
        rintro v S' I6 J6 ⟨hS9, rfl, q6, f6, hJ9⟩
        obtain rfl := hS9.symm
        obtain rfl := hJ9.symm
        rw [← hlw, show f4D lw ((D4, ((p3.1, p3.2, q0.2.2) : QV).2) : QV).1 = D5 from hD5.symm] at q6
        have g6 := g5.fc hb hla f6
        refine V_aload_n C dX0_go_31 rfl ?_
        refine V_callV (F := fun _ => True) C (c_eatGas hX' g6 q6 i5) mi_X0_eatGas ml_X0_60 rfl (ob_K hF) (by decide) (by decide) (by decide) (Nat.le_of_ble_eq_true rfl) (fun _ _ => trivial) (fun v _ => clo_T v) rfl dX0_go_32 ?_
        rintro v S' I7 J7 ⟨hS9, rfl, q7, f7, hJ9⟩
        obtain rfl := hS9.symm
        obtain rfl := hJ9.symm
        rw [← hlw] at q7
        have q7 : CQ I7 J4 b (D6, p3.2, q0.2.2) := by rw [hD6]; exact q7
        have g7 := g6.fc hb hla f7
        refine V_aload_n C dX0_go_35 rfl ?_
        refine V_callV (F := fun _ => True) C (c_wander hX' g7 q7 i6) mi_X0_wander ml_X0_63 rfl (ob_K hF) (by decide) (by decide) (by decide) (Nat.le_of_ble_eq_true rfl) (fun _ _ => trivial) (fun v _ => clo_T v) rfl dX0_go_36 ?_
        rintro v S' I8 J8 ⟨hS9, rfl, q8, f8, hJ9⟩
        obtain rfl := hS9.symm
        obtain rfl := hJ9.symm
        rw [← hlw] at q8
        have q8 : CQ I8 J4 b (p7.1, p7.2, q0.2.2) := by rw [hp7]; exact q8
        have f48 := (((f4.tr f5).tr f6).tr f7).tr f8
        refine V_aload_n C dX0_go_39 rfl ?_
        refine V_callV (F := fun _ => True) C (c_meet hX' (e40 _ _ f48) h101 q8 i7) mi_X0_meet ml_X0_66 rfl (ob_K hF) (by decide) (by decide) (by decide) (Nat.le_of_ble_eq_true rfl) (fun _ _ => trivial) (fun v _ => clo_T v) rfl dX0_go_40 ?_
        rintro v S' I9 J9 ⟨hS9, rfl, q9, f9, hJ9⟩
        obtain rfl := hS9.symm
        obtain rfl := hJ9.symm
        have q9 : CQ I9 J4 b (p8.1, p7.2, p8.2) := by rw [hp8]; exact q9
        exact last _ _ q9 (f48.tr f9)
      refine V_iload_n C dX0_go_2 rfl ?_
      refine V_iload_n C dX0_go_3 rfl ?_
      refine V_icmp_ge C 62 dX0_go_4 (by decide) (fun h4 => absurd h4 (nI_ge (by omega) (by omega))) (fun h4 => ?_)
      refine V_aload_n C dX0_go_7 rfl ?_
      refine V_callV (F := fun _ => True) C (c_stick hX' hGc hq hio) mi_X0_stick ml_X0_42 rfl (ob_K hF) (by decide) (by decide) (by decide) (Nat.le_of_ble_eq_true rfl) (fun _ _ => trivial) (fun v _ => clo_T v) rfl dX0_go_8 ?_
      rintro v S' I1 J1 ⟨hS9, rfl, q1, f1⟩
      obtain rfl := hS9.symm
      rw [← hlw, ← hD1] at q1
      have g1 := hGc.fc hb hla f1
      refine V_aload_n C dX0_go_11 rfl ?_
      refine V_callV (F := fun _ => True) C (c_breakUp hX' g1 q1 i1) mi_X0_breakUp ml_X0_45 rfl (ob_K hF) (by decide) (by decide) (by decide) (Nat.le_of_ble_eq_true rfl) (fun _ _ => trivial) (fun v _ => clo_T v) rfl dX0_go_12 ?_
      rintro v S' I2 J2 ⟨hS9, rfl, q2, f2, hJ9⟩
      obtain rfl := hS9.symm
      obtain rfl := hJ9.symm
      rw [← hlw] at q2
      have q2 : CQ I2 J1 b (D2, q0.2) := by rw [hD2]; exact q2
      have g2 := g1.fc hb hla f2
      refine V_aload_n C dX0_go_15 rfl ?_
      refine V_callV (F := fun _ => True) C (c_findGaps hX' g2 q2.1 i2.1) mi_X0_findGaps ml_X0_48 rfl (ob_K hF) (by decide) (by decide) (by decide) (Nat.le_of_ble_eq_true rfl) (fun _ _ => trivial) (fun v _ => clo_T v) rfl dX0_go_16 ?_
      rintro v S' I3 J3 ⟨hS9, rfl, sk, gp, hJ9⟩
      obtain rfl := hS9.symm
      obtain rfl := hJ9.symm
      have q3 := q2.sk hb sk i2.1.2.2.2.2.1
      have f3 : FC b I2 J1 I3 J1 := sk.fc
      have g3 := g2.fc hb hla f3
      refine V_aload_n C dX0_go_19 rfl ?_
      refine V_callV (F := fun _ => True) C (c_drift hX' g3 q3 i2 gp) mi_X0_drift ml_X0_51 rfl (ob_K hF) (by decide) (by decide) (by decide) (Nat.le_of_ble_eq_true rfl) (fun _ _ => trivial) (fun v _ => clo_T v) rfl dX0_go_20 ?_
      rintro v S' I4 J4 ⟨hS9, rfl, q4, f4, hJ9⟩
      obtain rfl := hS9.symm
      obtain rfl := hJ9.symm
      rw [← hlw] at q4
      have q4 : CQ I4 J1 b (p3.1, p3.2, q0.2.2) := by rw [hp3]; exact q4
      exact mid2 _ _ q4 ((((hf.tr f1).tr f2).tr f3).tr f4)
  refine V_iconst C (v := nI 0) dX0_go_0 (by decide +kernel) ?_
  refine V_istore_n C dX0_go_1 (hn _ (by decide)) ?_
  exact loop n 0 q I J (Nat.zero_add _) FC.re hQ hi rfl
end C13
