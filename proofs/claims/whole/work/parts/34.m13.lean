/-! a whole step; the reference's steps1 -/
section M13
variable {l : Launch} {S : HS} {I I' : HI} {J : HJ}
theorem prt_nI {A N : Nat} (hA : A < 2 ^ 31) (hN : N ≤ 100) : prt (nI A) (nI N) = nI (A * N / 100) := by
  unfold prt
  have h1 : A * N ≤ A * 100 := Nat.mul_le_mul_left A hN
  rw [nI_l hA, nI_l (by omega), lN_mul, show (100 : Int64) = lN 100 from rfl, pk_lDiv (by omega) (by omega) (by omega), lN_i]
theorem nI_ofge {x : Int32} (h : 0 ≤ x) : ∃ j : Nat, j < 2 ^ 31 ∧ x = nI j := nI_of (Int32.not_lt.mpr h)
theorem prt_rng {a n : Int32} (ha : 0 ≤ a) (hn : 0 ≤ n) (h100 : n ≤ nI 100) : ∃ A N : Nat, A < 2 ^ 31 ∧ N ≤ 100 ∧ a = nI A ∧ n = nI N ∧ prt a n = nI (A * N / 100) ∧ A * N / 100 ≤ A := by
  obtain ⟨A, hA, rfl⟩ := nI_ofge ha
  obtain ⟨N, hN, rfl⟩ := nI_ofge hn
  have hN2 : N ≤ 100 := (nI_leI hN (by omega)).mp h100
  have h1 : A * N ≤ A * 100 := Nat.mul_le_mul_left A hN2
  exact ⟨A, N, hA, hN2, rfl, rfl, prt_nI hA hN2, by omega⟩
theorem prt_le {a n : Int32} (ha : 0 ≤ a) (hn : 0 ≤ n) (h100 : n ≤ nI 100) : 0 ≤ a - prt a n := by
  obtain ⟨A, N, hA, -, rfl, -, e, h⟩ := prt_rng ha hn h100
  rw [e, pk_sub h]
  exact nI_pos' (by omega)
theorem eatAt_g {lw : LW} {D : DV} {u : Nat} (hl : ∀ f, lw 5 f ≤ nI 100) (hD : rOk D) (hu : u < cmD D) (hg : gOk D) : gOk (eatAt lw D u) := by
  unfold eatAt
  split
  · intro r hr
    show 0 ≤ up2 D 1 (rg D u) _ 1 r
    rw [up2_row]
    by_cases e : r = rg D u
    · subst e
      rw [va_up_self]
      split
      · rw [show D 1 (rg D u) - nI 0 = D 1 (rg D u) by rw [nI_0]; simp]
        exact hg _ hr
      · rename_i h
        exact prt_le (hg _ hr) (Int32.le_of_lt (Int32.not_le.mp h)) (hl _)
    · rw [va_up_ne _ _ e]
      exact hg r hr
  · exact hg
theorem eatN_g {lw : LW} (hl : ∀ f, lw 5 f ≤ nI 100) : ∀ (c u : Nat) (D : DV), rOk D → u + c = cmD D → gOk D → gOk (eatN lw c u D) := by
  intro c
  induction c with
  | zero => intro u D _ _ h; exact h
  | succ c ih =>
    intro u D hD hu hg
    exact ih (u + 1) _ (eatAt_kp.ok hD) (by rw [eatAt_kp.cm]; omega) (eatAt_g hl hD (by omega) hg)
theorem gathR_ok {lw : LW} {r : Nat} : ∀ (m : Nat) (D : DV), rOk D → r < rgD D → rOk (gathR lw r m D) ∧ gathR lw r m D 0 0 = D 0 0 := by
  intro m
  induction m with
  | zero => intro D hD _; exact ⟨hD, rfl⟩
  | succ m ih =>
    intro D hD hr
    have h := gathAt_ok (lw := lw) hD (s := m) hr
    have h2 := ih _ h.1 (by unfold rgD; rw [h.2]; exact hr)
    exact ⟨h2.1, h2.2.trans h.2⟩
theorem gathN_ok {lw : LW} : ∀ (c r : Nat) (D : DV), rOk D → r + c = rgD D → rOk (gathN lw c r D) ∧ gathN lw c r D 0 0 = D 0 0 := by
  intro c
  induction c with
  | zero => intro r D hD _; exact ⟨hD, rfl⟩
  | succ c ih =>
    intro r D hD hr
    have h := gathR_ok (lw := lw) (r := r) 5 D hD (by omega)
    have h2 := ih (r + 1) _ h.1 (by unfold rgD; rw [h.2]; show _ = rgD D; omega)
    exact ⟨h2.1, h2.2.trans h.2⟩
theorem gathAt_1 {lw : LW} {D : DV} {r s : Nat} : gathAt lw D r s 1 = D 1 := by
  unfold gathAt
  split
  · rfl
  · split
    · rfl
    · split <;> rfl
theorem gathR_1 {lw : LW} {r : Nat} : ∀ (m : Nat) (D : DV), gathR lw r m D 1 = D 1
  | 0, _ => rfl
  | m + 1, D => (gathR_1 m _).trans gathAt_1
theorem gathN_1 {lw : LW} : ∀ (c r : Nat) (D : DV), gathN lw c r D 1 = D 1
  | 0, _, _ => rfl
  | c + 1, r, D => (gathN_1 c (r + 1) _).trans (gathR_1 5 _)
theorem stickAt_1 {lw : LW} {k : Int32} {D : DV} {r s : Nat} : stickAt lw k D r s 1 = D 1 := by
  unfold stickAt
  split
  · rfl
  · split
    · split <;> rfl
    · split <;> rfl
theorem stickR_1 {lw : LW} {k : Int32} {r : Nat} : ∀ (m : Nat) (D : DV), stickR lw k r m D 1 = D 1
  | 0, _ => rfl
  | m + 1, D => (stickR_1 m _).trans stickAt_1
theorem stickN_1 {lw : LW} {k : Int32} : ∀ (c r : Nat) (D : DV), stickN lw k c r D 1 = D 1
  | 0, _, _ => rfl
  | c + 1, r, D => (stickN_1 c (r + 1) _).trans (stickR_1 4 _)
theorem breakAt_1 {lw : LW} {D : DV} {r s : Nat} : breakAt lw D r s 1 = D 1 := by
  unfold breakAt
  split <;> rfl
theorem breakR_1 {lw : LW} {r : Nat} : ∀ (c s : Nat) (D : DV), breakR lw r c s D 1 = D 1
  | 0, _, _ => rfl
  | c + 1, s, D => (breakR_1 c (s + 1) _).trans breakAt_1
theorem breakN_1 {lw : LW} : ∀ (c r : Nat) (D : DV), breakN lw c r D 1 = D 1
  | 0, _, _ => rfl
  | c + 1, r, D => (breakN_1 c (r + 1) _).trans (breakR_1 4 1 _)
theorem drR_kg {D0 : DV} {lv : Nat → Nat → Int32} {r : Nat} : ∀ (c s : Nat) (q : DV × Int64), kgD q.1 (drR D0 lv r c s q).1
  | 0, _, _ => ⟨kpD.re, rfl, rfl⟩
  | c + 1, s, q => drAt_kg.tr (drR_kg c (s + 1) _)
theorem drN_kg {D0 : DV} {lv : Nat → Nat → Int32} : ∀ (c r : Nat) (q : DV × Int64), kgD q.1 (drN D0 lv c r q).1
  | 0, _, _ => ⟨kpD.re, rfl, rfl⟩
  | c + 1, r, q => (drR_kg 5 0 q).tr (drN_kg c (r + 1) _)
theorem fdR_1 {r u : Nat} {n : Int32} : ∀ (c s : Nat) (D : DV), fdR r u n c s D 1 = D 1
  | 0, _, _ => rfl
  | c + 1, s, D => fdR_1 c (s + 1) _
theorem feedAt_1 {lw : LW} {D : DV} {u : Nat} : feedAt lw D u 1 = D 1 := by
  unfold feedAt
  split
  · split
    · rfl
    · exact fdR_1 _ _ _
  · rfl
theorem feedN_1 {lw : LW} : ∀ (c u : Nat) (D : DV), feedN lw c u D 1 = D 1
  | 0, _, _ => rfl
  | c + 1, u, D => (feedN_1 c (u + 1) _).trans feedAt_1
theorem wanN_kw {lw : LW} : ∀ (c u : Nat) (q : DV × Int64), rOk q.1 → gOk q.1 → u + c = cmD q.1 → kwD q.1 (wanN lw c u q).1 := by
  intro c
  induction c with
  | zero => intro u q hD _ _; exact ⟨rfl, rfl, hD⟩
  | succ c ih =>
    intro u q hD hg hu
    have h := wanAt_kw (lw := lw) hD hg (show u < cmD q.1 by omega)
    have h2 := ih (u + 1) (wanAt lw q u) h.2.2 (by unfold gOk; rw [h.2.1]; exact hg) (by unfold cmD; rw [h.1]; show _ = cmD q.1; omega)
    exact ⟨h2.1.trans h.1, h2.2.1.trans h.2.1, h2.2.2⟩
theorem mdR_1 {s o : Nat} : ∀ (c q : Nat) (D : DV), mdR s o c q D 1 = D 1
  | 0, _, _ => rfl
  | c + 1, q, D => mdR_1 c (q + 1) _
theorem mtD_1 {share : Int32} {q : DV × Int64} {s o : Nat} : (mtD share q s o).1 1 = q.1 1 := by
  unfold mtD
  split
  · exact mdR_1 _ _ _
  · split
    · exact mdR_1 _ _ _
    · rfl
theorem mtAt_1 {share : Int32} {q : DV × Int64} {f s : Nat} : (mtAt share q f s).1 1 = q.1 1 := by
  unfold mtAt
  split <;> exact mtD_1
theorem psN_1 {share : Int32} {r : Nat} : ∀ (c u : Nat) (st : Option Nat) (q : DV × Int64), (psN share r c u st q).1 1 = q.1 1 := by
  intro c
  induction c with
  | zero => intro u st q; rfl
  | succ c ih =>
    intro u st q
    rw [psN_s]
    split
    · cases st with
      | none => exact ih _ _ _
      | some f => exact (ih _ _ _).trans mtAt_1
    · exact ih _ _ _
theorem msN_1 {share : Int32} : ∀ (c r : Nat) (q : DV × Int64), (msN share c r q).1 1 = q.1 1 := by
  intro c
  induction c with
  | zero => intro r q; rfl
  | succ c ih => intro r q; exact (ih _ _).trans (psN_1 _ _ _ _)
/-! the parts of a step, one behind another -/
def s1D (lw : LW) (k : Int32) (D : DV) : DV := stickN lw k (rgD D) 0 D
def s2D (lw : LW) (D : DV) : DV := breakN lw (rgD D) 0 D
def s3D (lw : LW) (q : DV × Int64) : DV × Int64 := drN q.1 (lvD lw q.1 (gapN lw q.1 (cmD q.1))) (rgD q.1) 0 q
def g4D (lw : LW) (D : DV) : DV := gathN lw (rgD D) 0 D
def f4D (lw : LW) (D : DV) : DV := feedN lw (cmD D) 0 D
def e4D (lw : LW) (D : DV) : DV := eatN lw (cmD D) 0 D
def s4D (lw : LW) (D : DV) : DV := e4D lw (f4D lw (g4D lw D))
def s5D (lw : LW) (q : DV × Int64) : DV × Int64 := wanN lw (cmD q.1) 0 q
def s6D (share : Int32) (q : DV × Int64) : DV × Int64 := msN share (rgD q.1) 0 q
def s7D (D : DV) : DV := up2 D 0 1 (D 0 1 + nI 1)
def preD (lw : LW) (k : Int32) (q : DV × Int64) : DV × Int64 := s3D lw (s2D lw (s1D lw k q.1), q.2)
def midD (lw : LW) (k : Int32) (q : DV × Int64) : DV × Int64 := s5D lw (s4D lw (preD lw k q).1, (preD lw k q).2)
/-- the disk, what has fallen, what is thrown out -/
def stepD (lw : LW) (k share : Int32) (q : DV × Int64 × Int64) : DV × Int64 × Int64 := (s7D (s6D share ((midD lw k (q.1, q.2.1)).1, q.2.2)).1, (midD lw k (q.1, q.2.1)).2, (s6D share ((midD lw k (q.1, q.2.1)).1, q.2.2)).2)
def okD (D : DV) : Prop := rOk D ∧ gOk D
theorem s1_ok {lw : LW} {k : Int32} {D : DV} (h : okD D) : okD (s1D lw k D) := ⟨(stickN_kp _ _ _).ok h.1, by unfold gOk s1D; rw [stickN_1]; exact h.2⟩
theorem s2_ok {lw : LW} {D : DV} (h : okD D) : okD (s2D lw D) := ⟨(breakN_kp _ _ _).ok h.1, by unfold gOk s2D; rw [breakN_1]; exact h.2⟩
theorem s3_ok {lw : LW} {q : DV × Int64} (h : okD q.1) : okD (s3D lw q).1 := by
  have h2 := drN_kg (D0 := q.1) (lv := lvD lw q.1 (gapN lw q.1 (cmD q.1))) (rgD q.1) 0 q
  exact ⟨h2.1.ok h.1, by unfold gOk s3D; rw [h2.2.2]; exact h.2⟩
theorem g4_ok {lw : LW} {D : DV} (h : okD D) : okD (g4D lw D) := ⟨(gathN_ok _ _ _ h.1 (Nat.zero_add _)).1, by unfold gOk g4D; rw [gathN_1]; exact h.2⟩
theorem f4_ok {lw : LW} {D : DV} (h : okD D) : okD (f4D lw D) := ⟨(feedN_kp _ _ _).ok h.1, by unfold gOk f4D; rw [feedN_1]; exact h.2⟩
theorem e4_ok {lw : LW} {D : DV} (hl : ∀ f, lw 5 f ≤ nI 100) (h : okD D) : okD (e4D lw D) := ⟨(eatN_kp _ _ _).ok h.1, eatN_g hl _ _ _ h.1 (Nat.zero_add _) h.2⟩
theorem s4_ok {lw : LW} {D : DV} (hl : ∀ f, lw 5 f ≤ nI 100) (h : okD D) : okD (s4D lw D) := e4_ok hl (f4_ok (g4_ok h))
theorem s5_ok {lw : LW} {q : DV × Int64} (h : okD q.1) : okD (s5D lw q).1 := by
  have h3 := wanN_kw (lw := lw) (cmD q.1) 0 q h.1 h.2 (Nat.zero_add _)
  exact ⟨h3.2.2, by unfold gOk s5D; rw [h3.2.1]; exact h.2⟩
theorem s6_ok {share : Int32} {q : DV × Int64} (h : okD q.1) : okD (s6D share q).1 := ⟨(msN_kp _ _ _).ok h.1, by unfold gOk s6D; rw [msN_1]; exact h.2⟩
theorem s7_ok {D : DV} (h : okD D) : okD (s7D D) := ⟨kpD.ok ⟨rfl, rfl, rfl⟩ h.1, h.2⟩
theorem pre_mk {lw : LW} {k : Int32} {D D1 D2 : DV} {F : Int64} {q : DV × Int64} (h1 : D1 = s1D lw k D) (h2 : D2 = s2D lw D1) (h3 : q = s3D lw (D2, F)) : q = preD lw k (D, F) := by
  unfold preD
  dsimp only
  rw [← h1, ← h2]
  exact h3
theorem mid_mk {lw : LW} {k : Int32} {D D3 D6 : DV} {F F3 : Int64} {q : DV × Int64} (h1 : (D3, F3) = preD lw k (D, F)) (h2 : D6 = s4D lw D3) (h3 : q = s5D lw (D6, F3)) : q = midD lw k (D, F) := by
  unfold midD
  rw [← h1]
  dsimp only
  rw [← h2]
  exact h3
theorem step_mk {lw : LW} {k share : Int32} {D D7 D8 : DV} {F T F7 T8 : Int64} (h1 : (D7, F7) = midD lw k (D, F)) (h2 : (D8, T8) = s6D share (D7, T)) : stepD lw k share (D, F, T) = (s7D D8, F7, T8) := by
  unfold stepD
  dsimp only
  rw [← h1]
  dsimp only
  rw [← h2]
theorem pre_ok {lw : LW} {k : Int32} {q : DV × Int64} (h : okD q.1) : okD (preD lw k q).1 := by
  obtain ⟨D1, e1⟩ : ∃ D1, s1D lw k q.1 = D1 := ⟨_, rfl⟩
  have h1 : okD D1 := e1 ▸ s1_ok h
  obtain ⟨D2, e2⟩ : ∃ D2, s2D lw D1 = D2 := ⟨_, rfl⟩
  have h2 : okD D2 := e2 ▸ s2_ok h1
  have h3 : okD (s3D lw (D2, q.2)).1 := s3_ok (q := (D2, q.2)) h2
  unfold preD
  rw [e1, e2]
  exact h3
theorem mid_ok {lw : LW} {k : Int32} {q : DV × Int64} (hl : ∀ f, lw 5 f ≤ nI 100) (h : okD q.1) : okD (midD lw k q).1 := by
  have h1 : okD (preD lw k q).1 := pre_ok h
  unfold midD
  generalize preD lw k q = z at h1 ⊢
  have h2 : okD (s4D lw z.1) := s4_ok hl h1
  generalize s4D lw z.1 = D4 at h2 ⊢
  exact s5_ok (q := (D4, z.2)) h2
theorem step_ok {lw : LW} {k share : Int32} {q : DV × Int64 × Int64} (hl : ∀ f, lw 5 f ≤ nI 100) (h : okD q.1) : okD (stepD lw k share q).1 := by
  have h1 : okD (midD lw k (q.1, q.2.1)).1 := mid_ok hl h
  unfold stepD
  generalize midD lw k (q.1, q.2.1) = z at h1 ⊢
  have h2 : okD (s6D share (z.1, q.2.2)).1 := s6_ok (q := (z.1, q.2.2)) h1
  generalize s6D share (z.1, q.2.2) = w at h2 ⊢
  exact s7_ok h2
theorem rStep {b : Nat} {v : Int32} : refD (up2 I 1034 b v) J b = up2 (refD I J b) 0 1 v ∧ ∀ d, d ≠ b → refD (up2 I 1034 b v) J d = refD I J d := by
  refine ⟨?_, fun d hd => ?_⟩
  · funext c x
    match c with
    | 0 =>
      match x with
      | 0 => rfl
      | 1 => show va_up (I 1034) b v b = _; rw [va_up_self]; rfl
      | 2 => rfl
      | 3 => rfl
      | 4 => rfl
      | 5 => rfl
      | 6 => rfl
      | x + 7 => rfl
    | 1 => rfl
    | 2 => rfl
    | 3 => rfl
    | 4 => rfl
    | 5 => rfl
    | 6 => rfl
    | 7 => rfl
    | 8 => rfl
    | 9 => rfl
    | 10 => rfl
    | 11 => rfl
    | c + 12 => rfl
  · have e : ∀ a, a ≠ 1034 → up2 I 1034 b v a = I a := fun a ha => up2_ne _ _ _ ha
    have e2 : up2 I 1034 b v 1034 d = I 1034 d := by rw [up2_row, va_up_ne _ _ hd]
    exact refD_ext (by rw [e 1027 (by decide)]) e2 (by rw [e 1032 (by decide)]) (by rw [e 1033 (by decide)]) (by rw [e 1037 (by decide)]) (fun x _ => by rw [e 1028 (by decide)]) (fun x _ => by rw [e 1029 (by decide)]) (fun x _ => by rw [e 1030 (by decide)]) (fun x _ => by rw [e 1031 (by decide)]) (fun x _ => by rw [e 1038 (by decide)]) (fun x _ => by rw [e 1039 (by decide)]) (fun x _ => by rw [e 1040 (by decide)]) (fun x _ => by rw [e 1041 (by decide)]) (fun x _ => by rw [e 1042 (by decide)]) (fun x _ => by rw [e 1043 (by decide)]) (fun x _ => by rw [e 1044 (by decide)])
theorem Fr.step {b : Nat} {v : Int32} : Fr b I J (up2 I 1034 b v) J := Fr.int (fun a ha => up2_ne _ _ _ (by omega)) (fun d _ h => rStep.2 d h)
/-- the reference's disk with its longs -/
def refQ (I : HI) (J : HJ) (b : Nat) : DV × Int64 × Int64 := (refD I J b, J 1035 b, J 1036 b)
set_option maxRecDepth 100000 in
set_option maxHeartbeats 1000000 in
theorem m_steps1 (hM : Ob S 7 1000) {b : Nat} (hb : b < 8) {L : List Law} {g : Int32} {lk : Nat} (hG : rG I L g lk) (hl5 : ∀ f, kcl L g 5 f ≤ nI 100) (hC : cAll I J) (hD : okD (refD I J b)) : Mn l yX7_steps1 cX7_steps1 2 none 5 [.ref 1000, .int (nI b)] S I J (fun v I' J' => v = none ∧ refQ I' J' b = stepD (kcl L g) (nI lk) (I 1000 45) (refQ I J b) ∧ Fr b I J I' J') := by
  refine Mn.of (by decide) (fun ad => by simp [lg_sl, vv, Value.category]) (fun X P hP hn C => ?_)
  generalize hlw : kcl L g = lw at *
  refine V_aload_n C dX7_steps1_0 rfl ?_
  refine V_iload_n C dX7_steps1_1 rfl ?_
  refine V_callV (F := fun _ => True) C (m_sticks hM hb hG hD.1) mi_X7_sticks ml_X7_329 rfl (ob_K hM) (by decide) (by decide) (by decide) (Nat.le_of_ble_eq_true rfl) (fun _ _ => trivial) (fun v _ => clo_T v) rfl dX7_steps1_2 ?_
  rintro v S' I1 J1 ⟨hS, rfl, e1, f1, hJ⟩
  obtain rfl := hS.symm
  obtain rfl := hJ.symm
  rw [hlw] at e1
  have e1' : refD I1 J b = s1D lw (nI lk) (refD I J b) := e1
  clear e1
  have o1 : okD (refD I1 J b) := by rw [e1']; exact s1_ok hD
  refine V_aload_n C dX7_steps1_5 rfl ?_
  refine V_iload_n C dX7_steps1_6 rfl ?_
  refine V_callV (F := fun _ => True) C (m_breaks hM hb (hG.fr f1) o1.1) mi_X7_breaks ml_X7_332 rfl (ob_K hM) (by decide) (by decide) (by decide) (Nat.le_of_ble_eq_true rfl) (fun _ _ => trivial) (fun v _ => clo_T v) rfl dX7_steps1_7 ?_
  rintro v S' I2 J2 ⟨hS, rfl, e2, f2, hJ⟩
  obtain rfl := hS.symm
  obtain rfl := hJ.symm
  replace f2 := f1.tr f2
  rw [hlw] at e2
  have e2' : refD I2 J b = s2D lw (refD I1 J b) := e2
  clear e2
  have o2 : okD (refD I2 J b) := by rw [e2']; exact s2_ok o1
  refine V_aload_n C dX7_steps1_10 rfl ?_
  refine V_iload_n C dX7_steps1_11 rfl ?_
  refine V_callV (F := fun _ => True) C (m_drifts hM hb (hG.fr f2) o2.1 o2.2) mi_X7_drifts ml_X7_335 rfl (ob_K hM) (by decide) (by decide) (by decide) (Nat.le_of_ble_eq_true rfl) (fun _ _ => trivial) (fun v _ => clo_T v) rfl dX7_steps1_12 ?_
  rintro v S' I3 J3 ⟨hS, rfl, e3, j3, f3⟩
  obtain rfl := hS.symm
  replace f3 := f2.tr f3
  rw [hlw] at e3
  have e3' : (refD I3 J3 b, J3 1035 b) = s3D lw (refD I2 J b, J 1035 b) := e3
  clear e3
  have o3 : okD (refD I3 J3 b) := by have h := s3_ok (lw := lw) (q := (refD I2 J b, J 1035 b)) o2; rw [← e3'] at h; exact h
  have c3 : cAll I3 J3 := f3.cm hC o3.1.2.2.2.2.1
  have ePre := pre_mk e1' e2' e3'
  refine V_aload_n C dX7_steps1_15 rfl ?_
  refine V_iload_n C dX7_steps1_16 rfl ?_
  refine V_callV (F := fun _ => True) C (m_gathers hM hb (hG.fr f3) c3 o3.1) mi_X7_gathers ml_X7_338 rfl (ob_K hM) (by decide) (by decide) (by decide) (Nat.le_of_ble_eq_true rfl) (fun _ _ => trivial) (fun v _ => clo_T v) rfl dX7_steps1_17 ?_
  rintro v S' I4 J4 ⟨hS, rfl, e4, f4, hJ⟩
  obtain rfl := hS.symm
  obtain rfl := hJ.symm
  replace f4 := f3.tr f4
  rw [hlw] at e4
  have e4' : refD I4 J3 b = g4D lw (refD I3 J3 b) := e4
  clear e4
  have o4 : okD (refD I4 J3 b) := by rw [e4']; exact g4_ok o3
  have c4 : cAll I4 J3 := f4.cm hC o4.1.2.2.2.2.1
  refine V_aload_n C dX7_steps1_20 rfl ?_
  refine V_iload_n C dX7_steps1_21 rfl ?_
  refine V_callV (F := fun _ => True) C (m_feeds hM hb (hG.fr f4) c4 o4.1) mi_X7_feeds ml_X7_341 rfl (ob_K hM) (by decide) (by decide) (by decide) (Nat.le_of_ble_eq_true rfl) (fun _ _ => trivial) (fun v _ => clo_T v) rfl dX7_steps1_22 ?_
  rintro v S' I5 J5 ⟨hS, rfl, e5, f5, hJ⟩
  obtain rfl := hS.symm
  obtain rfl := hJ.symm
  replace f5 := f4.tr f5
  rw [hlw] at e5
  have e5' : refD I5 J3 b = f4D lw (refD I4 J3 b) := e5
  clear e5
  have o5 : okD (refD I5 J3 b) := by rw [e5']; exact f4_ok o4
  have c5 : cAll I5 J3 := f5.cm hC o5.1.2.2.2.2.1
  refine V_aload_n C dX7_steps1_25 rfl ?_
  refine V_iload_n C dX7_steps1_26 rfl ?_
  refine V_callV (F := fun _ => True) C (m_eats hM hb (hG.fr f5) c5 o5.1) mi_X7_eats ml_X7_344 rfl (ob_K hM) (by decide) (by decide) (by decide) (Nat.le_of_ble_eq_true rfl) (fun _ _ => trivial) (fun v _ => clo_T v) rfl dX7_steps1_27 ?_
  rintro v S' I6 J6 ⟨hS, rfl, e6, f6, hJ⟩
  obtain rfl := hS.symm
  obtain rfl := hJ.symm
  replace f6 := f5.tr f6
  rw [hlw] at e6
  have e6' : refD I6 J3 b = e4D lw (refD I5 J3 b) := e6
  clear e6
  have o6 : okD (refD I6 J3 b) := by rw [e6']; exact e4_ok hl5 o5
  have c6 : cAll I6 J3 := f6.cm hC o6.1.2.2.2.2.1
  have e46 : refD I6 J3 b = s4D lw (refD I3 J3 b) := by rw [e6', e5', e4', s4D]
  refine V_aload_n C dX7_steps1_30 rfl ?_
  refine V_iload_n C dX7_steps1_31 rfl ?_
  refine V_callV (F := fun _ => True) C (m_wanders hM hb (hG.fr f6) c6 o6.1 o6.2) mi_X7_wanders ml_X7_347 rfl (ob_K hM) (by decide) (by decide) (by decide) (Nat.le_of_ble_eq_true rfl) (fun _ _ => trivial) (fun v _ => clo_T v) rfl dX7_steps1_32 ?_
  rintro v S' I7 J7 ⟨hS, rfl, e7, j7, f7⟩
  obtain rfl := hS.symm
  replace f7 := f6.tr f7
  rw [hlw] at e7
  have e7' : (refD I7 J7 b, J7 1035 b) = s5D lw (refD I6 J3 b, J3 1035 b) := e7
  clear e7
  have o7 : okD (refD I7 J7 b) := by have h := s5_ok (lw := lw) (q := (refD I6 J3 b, J3 1035 b)) o6; rw [← e7'] at h; exact h
  have c7 : cAll I7 J7 := f7.cm hC o7.1.2.2.2.2.1
  have eMid := mid_mk ePre e46 e7'
  refine V_aload_n C dX7_steps1_35 rfl ?_
  refine V_iload_n C dX7_steps1_36 rfl ?_
  refine V_callV (F := fun _ => True) C (m_meets hM hb c7 o7.1) mi_X7_meets ml_X7_350 rfl (ob_K hM) (by decide) (by decide) (by decide) (Nat.le_of_ble_eq_true rfl) (fun _ _ => trivial) (fun v _ => clo_T v) rfl dX7_steps1_37 ?_
  rintro v S' I8 J8 ⟨hS, rfl, e8, j8, f8⟩
  obtain rfl := hS.symm
  replace f8 := f7.tr f8
  rw [show I7 1000 45 = I 1000 45 by rw [f7.1 1000 (by omega)], show J7 1036 b = J 1036 b from j7.trans j3] at e8
  have e8' : (refD I8 J8 b, J8 1036 b) = s6D (I 1000 45) (refD I7 J7 b, J 1036 b) := e8
  clear e8
  have eSt := step_mk (T := J 1036 b) eMid e8'
  refine V_aload_n C dX7_steps1_40 rfl ?_
  refine V_getR C fl_X7_137 (ob_K hM) (ob_R hM 33 1034 rfl rfl) rfl dX7_steps1_41 ?_
  refine V_iload_n C dX7_steps1_44 rfl ?_
  refine V_dup2 C dX7_steps1_45 rfl rfl ?_
  refine V_iald C (b) (ob_A hM 33 1034 rfl rfl) (by first | rfl | (simp only [nI_add, pk_mul]; done) | (simp only [nI_add, pk_mul]; congr 1; omega)) (by rw [ob_N hM 33 1034 rfl rfl]; omega) (by rw [ob_N hM 33 1034 rfl rfl]; decide) dX7_steps1_46 ?_
  refine V_iconst C (v := nI 1) dX7_steps1_47 (by decide +kernel) ?_
  refine V_iadd C dX7_steps1_48 ?_
  refine V_iast C (b) (ob_A hM 33 1034 rfl rfl) (by first | rfl | (simp only [nI_add, pk_mul]; done) | (simp only [nI_add, pk_mul]; congr 1; omega)) (by rw [ob_N hM 33 1034 rfl rfl]; omega) (by rw [ob_N hM 33 1034 rfl rfl]; decide) dX7_steps1_49 ?_
  exact V_vret C (Nat.zero_le _) (Nat.zero_le _) dX7_steps1_50 (hP _ _ _ ⟨rfl, by unfold refQ; rw [eSt, rStep.1, j8]; rfl, f8.tr Fr.step⟩)
end M13
