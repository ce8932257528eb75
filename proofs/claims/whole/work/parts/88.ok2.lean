/-! the step's number; OkC is kept by steps -/
section OK2
variable {lw : LW} {k share : Int32} {D : DV} {z : SV}
theorem stickR_t {r : Nat} : ∀ (m : Nat) (D : DV), stickR lw k r m D 0 1 = D 0 1
  | 0, _ => rfl
  | m + 1, D => (stickR_t m _).trans (by
    unfold stickAt
    repeat' split
    all_goals rfl)
theorem stickN_t : ∀ (c r : Nat) (D : DV), stickN lw k c r D 0 1 = D 0 1
  | 0, _, _ => rfl
  | c + 1, r, D => (stickN_t c (r + 1) _).trans (stickR_t 4 D)
theorem breakR_t {r : Nat} : ∀ (c s : Nat) (D : DV), breakR lw r c s D 0 1 = D 0 1
  | 0, _, _ => rfl
  | c + 1, s, D => (breakR_t c (s + 1) _).trans (by unfold breakAt; split <;> rfl)
theorem breakN_t : ∀ (c r : Nat) (D : DV), breakN lw c r D 0 1 = D 0 1
  | 0, _, _ => rfl
  | c + 1, r, D => (breakN_t c (r + 1) _).trans (breakR_t 4 1 D)
theorem drR_t {D0 : DV} {lv : Nat → Nat → Int32} {r : Nat} : ∀ (c s : Nat) (q : DV × Int64), (drR D0 lv r c s q).1 0 1 = q.1 0 1
  | 0, _, _ => rfl
  | c + 1, s, q => (drR_t c (s + 1) _).trans (by unfold drAt; split <;> rfl)
theorem drN_t {D0 : DV} {lv : Nat → Nat → Int32} : ∀ (c r : Nat) (q : DV × Int64), (drN D0 lv c r q).1 0 1 = q.1 0 1
  | 0, _, _ => rfl
  | c + 1, r, q => (drN_t c (r + 1) _).trans (drR_t 5 0 q)
theorem gathR_t {r : Nat} : ∀ (m : Nat) (D : DV), gathR lw r m D 0 1 = D 0 1
  | 0, _ => rfl
  | m + 1, D => (gathR_t m _).trans (by
    unfold gathAt
    repeat' split
    all_goals rfl)
theorem gathN_t : ∀ (c r : Nat) (D : DV), gathN lw c r D 0 1 = D 0 1
  | 0, _, _ => rfl
  | c + 1, r, D => (gathN_t c (r + 1) _).trans (gathR_t 5 D)
theorem fdR_t {r u : Nat} {n : Int32} : ∀ (c s : Nat) (D : DV), fdR r u n c s D 0 1 = D 0 1
  | 0, _, _ => rfl
  | c + 1, s, D => (fdR_t c (s + 1) _).trans rfl
theorem feedN_t : ∀ (c u : Nat) (D : DV), feedN lw c u D 0 1 = D 0 1
  | 0, _, _ => rfl
  | c + 1, u, D => (feedN_t c (u + 1) _).trans (by
    unfold feedAt
    split
    · split
      · rfl
      · exact fdR_t 5 0 D
    · rfl)
theorem eatN_t : ∀ (c u : Nat) (D : DV), eatN lw c u D 0 1 = D 0 1
  | 0, _, _ => rfl
  | c + 1, u, D => (eatN_t c (u + 1) _).trans (by unfold eatAt; split <;> rfl)
theorem goD_t {q : DV × Int64} {u : Nat} : (goD q u).1 0 1 = q.1 0 1 := by
  unfold goD
  repeat' split
  all_goals rfl
theorem wanN_t : ∀ (c u : Nat) (q : DV × Int64), (wanN lw c u q).1 0 1 = q.1 0 1
  | 0, _, _ => rfl
  | c + 1, u, q => (wanN_t c (u + 1) _).trans (by
    unfold wanAt
    split
    · split
      · rfl
      · split
        · split
          · rfl
          · exact goD_t.trans rfl
        · rfl
    · rfl)
theorem mdR_t {s o : Nat} : ∀ (c q : Nat) (D : DV), mdR s o c q D 0 1 = D 0 1
  | 0, _, _ => rfl
  | c + 1, q, D => (mdR_t c (q + 1) _).trans rfl
theorem eatL_t {s o : Nat} : eatL D s o 0 1 = D 0 1 := by
  unfold eatL
  first | rfl | exact mdR_t _ _ _ | exact (mdR_t _ _ _).trans rfl
theorem mtAt_t {q : DV × Int64} {f s : Nat} : (mtAt share q f s).1 0 1 = q.1 0 1 := by
  unfold mtAt mtD
  repeat' split
  all_goals first | exact eatL_t | rfl
theorem psN_t {r : Nat} : ∀ (c u : Nat) (st : Option Nat) (q : DV × Int64), (psN share r c u st q).1 0 1 = q.1 0 1
  | 0, _, _, _ => rfl
  | c + 1, u, st, q => by
    rw [psN_s]
    split
    · cases st with
      | none => exact psN_t c (u + 1) _ q
      | some f => exact (psN_t c (u + 1) _ _).trans mtAt_t
    · exact psN_t c (u + 1) st q
theorem msN_t : ∀ (c r : Nat) (q : DV × Int64), (msN share c r q).1 0 1 = q.1 0 1
  | 0, _, _ => rfl
  | c + 1, r, q => (msN_t c (r + 1) _).trans (psN_t _ 0 none q)
theorem s1_t : s1D lw k D 0 1 = D 0 1 := stickN_t _ _ _
theorem s2_t : s2D lw D 0 1 = D 0 1 := breakN_t _ _ _
theorem s3_t {q : DV × Int64} : (s3D lw q).1 0 1 = q.1 0 1 := drN_t _ _ _
theorem pre_t {q : DV × Int64} : (preD lw k q).1 0 1 = q.1 0 1 := by
  unfold preD
  rw [s3_t]
  show s2D lw (s1D lw k q.1) 0 1 = _
  rw [s2_t, s1_t]
theorem g4_t : g4D lw D 0 1 = D 0 1 := gathN_t _ _ _
theorem f4_t : f4D lw D 0 1 = D 0 1 := feedN_t _ _ _
theorem e4_t : e4D lw D 0 1 = D 0 1 := eatN_t _ _ _
theorem s4_t : s4D lw D 0 1 = D 0 1 := by
  unfold s4D
  rw [e4_t, f4_t, g4_t]
theorem s5_t {q : DV × Int64} : (s5D lw q).1 0 1 = q.1 0 1 := wanN_t _ _ _
theorem s5_p {x : Int64} : (s5D lw (D, x)).1 0 1 = D 0 1 := wanN_t _ _ _
theorem s6_p {x : Int64} : (s6D share (D, x)).1 0 1 = D 0 1 := msN_t _ _ _
theorem pre_p {x : Int64} : (preD lw k (D, x)).1 0 1 = D 0 1 := pre_t
theorem mid_p {x : Int64} : (midD lw k (D, x)).1 0 1 = D 0 1 := by
  unfold midD
  rw [s5_p, s4_t, pre_p]
theorem s7_t : s7D D 0 1 = D 0 1 + nI 1 := by
  unfold s7D
  rw [up2_row, va_up_self]
theorem step_t {q : QV} : (stepD lw k share q).1 0 1 = q.1 0 1 + nI 1 := by
  unfold stepD
  dsimp only
  rw [s7_t, s6_p, mid_p]
theorem it_t {g : Int32} : ∀ (n : Nat) (q : QV) (s : Nat), q.1 0 1 = nI s → (itN (stZ z g) n q).1 0 1 = nI (s + n)
  | 0, _, _, h => h
  | n + 1, q, s, h => by
    have := it_t (g := g) n (stZ z g q) (s + 1) (by unfold stZ; rw [step_t, h, nI_add])
    rw [show s + (n + 1) = s + 1 + n by omega]
    exact this
theorem ok_steps (h : OkC z) (n : Int32) : OkC (nSteps z n) := by
  unfold nSteps
  split
  · rename_i hg
    have hi := itZ_i h (g := z.2.2.1.2.1) (cl n) z.1 h.1.1
    obtain ⟨⟨h1, h2⟩, h3⟩ := h
    obtain ⟨m, hm1, hm2, em⟩ := wi1_ex (by omega) hg.1
    have ec : cl n = m := by rw [em]; exact nI_clamp (by omega)
    obtain ⟨s, hs, es⟩ := h2.1
    have hle : s + m ≤ 9999 := by
      have := hg.2
      rw [es, em, nI_add, Int32.le_iff_toInt_le, nI_toInt (by omega), nI_toInt (by omega)] at this
      omega
    have et := it_t (z := z) (g := z.2.2.1.2.1) (cl n) z.1 s es
    rw [ec] at et hi ⊢
    refine ⟨⟨hi, ⟨s + m, hle, et⟩, fun h0 => absurd ?_ (show ¬ s + m = 0 by omega)⟩, h3⟩
    have h0 : (itN (stZ z z.2.2.1.2.1) m z.1).1 0 1 = 0 := h0
    rw [et] at h0
    exact (nI_eq (a := s + m) (b := 0) (by omega) (by omega)).mp h0
  · exact h
end OK2
