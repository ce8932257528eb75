/-! what the class needs is kept by every call -/
section OK1
variable {z : SV} {q : QV}
theorem ok_seed (h : OkC z) (g : Int32) : OkC (nSeed z g) := by
  unfold nSeed
  split
  · rename_i hg
    obtain ⟨⟨h1, h2⟩, h3⟩ := h
    exact ⟨⟨h1.sd (i_nn.mp hg), h2⟩, h3⟩
  · exact h
theorem ok_end (h : OkC z) (g : Int32) : OkC (nEnd z g) := by
  unfold nEnd
  split
  · rename_i hg
    obtain ⟨e, he, -, ee⟩ := isE_ex h.2.2.2.2.2.1 hg
    obtain ⟨h1, h2, h3, h4, h5⟩ := h
    exact ⟨h1, h2, h3, ⟨e, ee, he⟩, h5⟩
  · exact h
theorem ok_star (h : OkC z) (p l s : Int32) : OkC (nStar z p l s) := by
  unfold nStar
  split
  · rename_i hg
    obtain ⟨h1, h2, h3, h4, h5, h6, h7, h8⟩ := h
    obtain ⟨k, hk, ek⟩ := wi_ex (by omega) hg.2.1
    obtain ⟨t, ht1, ht2, et⟩ := wi1_ex (by omega) hg.2.2
    refine ⟨⟨⟨h1.1.1, ?_, h1.1.2.2.1, h1.1.2.2.2⟩, h1.2⟩, h2, h3, h4, by show cl l ≤ 20; rw [ek, cl, nI_clamp (by omega)]; exact hk, h6, ⟨t, et, ht2⟩, h8⟩
    obtain ⟨g1, g2, g3, g4, g5, g6⟩ := h1.1.2.1
    exact ⟨g1, g2, g3, g4, g5, g6⟩
  · exact h
theorem ok_told (h : OkC z) (n k : Int32) : OkC (nTold z n k) := by
  unfold nTold
  split
  · rename_i hg
    obtain ⟨h1, h2, h3, h4, h5, h6, h7, h8, h9, h10⟩ := h
    refine ⟨h1, h2, h3, h4, h5, h6, h7, ?_, fun p hp => ?_, h10⟩
    · show (z.2.2.2.2 ++ [(n, k)]).length ≤ 10
      rw [List.length_append]
      show z.2.2.2.2.length + 1 ≤ 10
      have : z.2.2.2.2.length ≠ 10 := fun e => hg.2.2 (by rw [e])
      omega
    · rcases List.mem_append.mp hp with e | e
      · exact h9 p e
      · rw [List.mem_singleton] at e
        obtain ⟨s, hs, es⟩ := wi_ex (by omega) hg.2.1
        exact ⟨s, by rw [e]; exact es, hs⟩
  · exact h
theorem ok_forget (h : OkC z) : OkC (setT z []) := by
  obtain ⟨h1, h2, h3, h4, h5, h6, h7, h8, h9, h10⟩ := h
  exact ⟨h1, h2, h3, h4, h5, h6, h7, by show 0 ≤ 10; omega, fun p hp => (by cases hp), h10⟩
theorem lay_b {T : List Int32} {v : Int64} (h : ∀ c, c ∈ T → okB c) : ∀ n, ∀ c, c ∈ layN T v n → okB c
  | 0 => h
  | n + 1 => by
    intro c hc
    have ih := lay_b (v := v) h n
    unfold layN appT at hc
    split at hc
    · rename_i hb
      rcases List.mem_append.mp hc with e | e
      · exact ih c e
      · rw [List.mem_singleton] at e; rw [e]; exact hb.1
    · exact ih c hc
theorem ok_feed (h : OkC z) (a b c : Int64) : OkC (nFeed z a b c) := by
  obtain ⟨h1, h2, h3, h4, h5, h6, h7, h8, h9, h10, h11⟩ := h
  exact ⟨h1, h2, h3, h4, h5, h6, h7, h8, h9, layN_len (layN_len (layN_len h10 8) 8) 8, lay_b (lay_b (lay_b h11 8) 8) 8⟩
theorem ok_mark (h : OkC z) (m g : Int32) : OkC (nMark z m g) := by
  unfold nMark
  split
  · rename_i hg
    obtain ⟨h1, h2, h3⟩ := h
    split
    · refine ⟨h1, fun k q hq => ?_, h3⟩
      have hq : va_up z.2.1 (cl m) (some z.1) k = some q := hq
      by_cases e : k = cl m
      · rw [e, va_up_self] at hq
        rw [← Option.some.inj hq]; exact h1
      · rw [va_up_ne _ _ e] at hq
        exact h2 k q hq
    · rename_i h0
      have hs := hg.2.resolve_left h0
      obtain ⟨q, hq⟩ := Option.isSome_iff_exists.mp hs
      rw [hq]
      exact ⟨h2 _ q hq, h2, h3⟩
  · exact h
theorem zS_ub {f : Nat → Int} {b : Int} : ∀ n, (∀ i, i < n → f i ≤ b) → zS f n ≤ n * b
  | 0, _ => by rw [zS]; omega
  | n + 1, h => by
    have h1 := zS_ub n (fun i hi => h i (by omega))
    have h2 := h n (by omega)
    rw [zS]
    have e : ((n + 1 : Nat) : Int) * b = n * b + b := by rw [Int.natCast_add, Int.add_mul]; omega
    omega
/-- told amounts alone: never too much -/
theorem b_told {D : DV} (h1 : ∀ k, k < 12 → 0 ≤ (D 1 k).toInt ∧ (D 1 k).toInt ≤ 99999) (h4 : ∀ k, k < 60 → 0 ≤ (D 4 k).toInt ∧ (D 4 k).toInt ≤ 99999) (h6 : cmD D = 0) : bOk (D, 0, 0) := by
  have g1 := zS_ub (f := fun k => (D 1 k).toInt) 12 (fun i hi => (h1 i hi).2)
  have g2 := zS_ub (f := fun k => (D 4 k).toInt) 60 (fun i hi => (h4 i hi).2)
  refine ⟨fun k hk => (h1 k hk).1, fun k hk => (h4 k hk).1, fun u hu => absurd hu (by show ¬ u < cmD D; omega), show 0 ≤ (0 : Int64).toInt by decide, show 0 ≤ (0 : Int64).toInt by decide, ?_⟩
  have e3 : lT D = 0 := by unfold lT; rw [h6]; rfl
  have e4 : (0 : Int64).toInt = 0 := by decide
  show gT D + dT D + lT D + (0 : Int64).toInt + (0 : Int64).toInt ≤ 7200000
  rw [e3, e4]
  have e5 : gT D = zS (fun k => (D 1 k).toInt) 12 := rfl
  have e6 : dT D = zS (fun k => (D 4 k).toInt) 60 := rfl
  omega
theorem st_z (h : pOk q) (hs : ¬ 0 < q.1 0 1) : q.1 0 1 = 0 := Decidable.not_not.mp (fun e => hs ((st_nz h).mp e))
theorem le99 {g : Int32} (h : wi g (nI 0) 99999) : 0 ≤ g.toInt ∧ g.toInt ≤ 99999 := ⟨i_nn.mp h.1, Int32.le_iff_toInt_le.mp h.2⟩
theorem cm_z {D : DV} (h : D 0 6 = 0) : cmD D = 0 := by
  unfold cmD
  rw [h]
  rfl
theorem q2_z {q : QV} (h1 : q.2.1 = 0) (h2 : q.2.2 = 0) : q.2 = (0, 0) := Prod.ext h1 h2
theorem ok_ring (h : OkC z) (r g w p : Int32) : OkC (nRing z r g w p) := by
  unfold nRing
  split
  · rename_i hg
    obtain ⟨⟨h1, h2⟩, h3⟩ := h
    obtain ⟨k, hk, -, ec⟩ := isRx h1 hg.2.1
    obtain ⟨a1, a4, a6, a7, a8⟩ := h2.2 (st_z h2 hg.1)
    have h12 := h1.1.2.2.1
    have e2 := q2_z a7 a8
    have hg9 := le99 hg.2.2.1
    rw [ec]
    have r1 : ∀ x, up2 (up2 (up2 z.1.1 1 k g) 2 k w) 3 k p 1 x = if x = k then g else z.1.1 1 x := fun x => by
      show va_up (z.1.1 1) k g x = _
      by_cases e : x = k
      · rw [e, va_up_self, if_pos rfl]
      · rw [va_up_ne _ _ e, if_neg e]
    have n1 : ∀ x, x < 12 → 0 ≤ (up2 (up2 (up2 z.1.1 1 k g) 2 k w) 3 k p 1 x).toInt ∧ (up2 (up2 (up2 z.1.1 1 k g) 2 k w) 3 k p 1 x).toInt ≤ 99999 := fun x hx => by
      rw [r1 x]
      split
      · exact hg9
      · exact ⟨h1.2.1.1 x hx, a1 x hx⟩
    refine ⟨⟨⟨h1.1, ?_, ⟨fun x q1 q2 => ?_, h1.2.2.1.2.1, h1.2.2.1.2.2⟩, h1.2.2.2⟩, h2.1, fun _ => ⟨fun x hx => (n1 x hx).2, a4, a6, a7, a8⟩⟩, h3⟩
    · show bOk (up2 (up2 (up2 z.1.1 1 k g) 2 k w) 3 k p, z.1.2)
      rw [e2]
      exact b_told n1 (fun x hx => ⟨h1.2.1.2.1 x hx, a4 x hx⟩) (cm_z (D := up2 (up2 (up2 z.1.1 1 k g) 2 k w) 3 k p) a6)
    · show up2 (up2 (up2 z.1.1 1 k g) 2 k w) 3 k p 1 x = 0
      have q1 : rgD z.1.1 ≤ x := q1
      rw [r1 x, if_neg (by omega)]
      exact h1.2.2.1.1 x q1 q2
  · exact h
theorem ok_dust (h : OkC z) (r s n : Int32) : OkC (nDust z r s n) := by
  unfold nDust
  split
  · rename_i hg
    obtain ⟨⟨h1, h2⟩, h3⟩ := h
    obtain ⟨k, hk, -, ec⟩ := isRx h1 hg.2.1
    obtain ⟨j, hj, ej⟩ := wi_ex (by omega) hg.2.2.1
    have ecj : cl s = j := by rw [ej]; exact nI_clamp (by omega)
    obtain ⟨a1, a4, a6, a7, a8⟩ := h2.2 (st_z h2 hg.1)
    have h12 := h1.1.2.2.1
    have e2 := q2_z a7 a8
    have hg9 := le99 hg.2.2.2
    rw [ec, ecj]
    have r1 : ∀ x, up2 z.1.1 4 (5 * k + j) n 4 x = if x = 5 * k + j then n else z.1.1 4 x := fun x => by
      show va_up (z.1.1 4) (5 * k + j) n x = _
      by_cases e : x = 5 * k + j
      · rw [e, va_up_self, if_pos rfl]
      · rw [va_up_ne _ _ e, if_neg e]
    have n4 : ∀ x, x < 60 → 0 ≤ (up2 z.1.1 4 (5 * k + j) n 4 x).toInt ∧ (up2 z.1.1 4 (5 * k + j) n 4 x).toInt ≤ 99999 := fun x hx => by
      rw [r1 x]
      split
      · exact hg9
      · exact ⟨h1.2.1.2.1 x hx, a4 x hx⟩
    refine ⟨⟨⟨h1.1, ?_, ⟨h1.2.2.1.1, fun x q1 q2 => ?_, h1.2.2.1.2.2⟩, h1.2.2.2⟩, h2.1, fun _ => ⟨a1, fun x hx => (n4 x hx).2, a6, a7, a8⟩⟩, h3⟩
    · show bOk (up2 z.1.1 4 (5 * k + j) n, z.1.2)
      rw [e2]
      exact b_told (fun x hx => ⟨h1.2.1.1 x hx, a1 x hx⟩) n4 (cm_z (D := up2 z.1.1 4 (5 * k + j) n) a6)
    · show up2 z.1.1 4 (5 * k + j) n 4 x = 0
      have q1 : 5 * rgD z.1.1 ≤ x := q1
      rw [r1 x, if_neg (by omega)]
      exact h1.2.2.1.2.1 x q1 q2
  · exact h
theorem cl_i {D : DV} {k : Nat} (hk : 2 ≤ k) (hk2 : k ≤ 12) (h3 : 0 ≤ (D 0 3).toInt) : iOk (clD (nI k) D, 0, 0) := by
  have er : rgD (clD (nI k) D) = k := nI_clamp (by omega)
  have ec : cmD (clD (nI k) D) = 0 := cm_z rfl
  have z1 : ∀ x, clD (nI k) D 1 x = 0 := fun _ => rfl
  have z4 : ∀ x, clD (nI k) D 4 x = 0 := fun _ => rfl
  have t0 : (0 : Int32).toInt = 0 := by decide
  refine ⟨⟨by rw [er]; rfl, by rw [er]; exact hk, by rw [er]; exact hk2, by rw [ec]; rfl, by rw [ec]; omega, fun u hu => absurd hu (by rw [ec]; omega)⟩, b_told (fun x _ => by rw [z1, t0]; omega) (fun x _ => by rw [z4, t0]; omega) ec, ⟨fun x _ _ => z1 x, fun x _ _ => z4 x, fun u hu => absurd hu (by show ¬ u < cmD (clD (nI k) D); rw [ec]; omega)⟩, h3⟩
theorem cl_p {D : DV} {n : Int32} (h : ∃ s, s ≤ 9999 ∧ D 0 1 = nI s) : pOk (clD n D, 0, 0) := by
  have t0 : (0 : Int32).toInt ≤ 99999 := by decide
  exact ⟨h, fun _ => ⟨fun x _ => t0, fun x _ => t0, rfl, rfl, rfl⟩⟩
theorem ok_rings (h : OkC z) (n : Int32) : OkC (nRings z n) := by
  unfold nRings
  split
  · rename_i hg
    obtain ⟨⟨h1, h2⟩, h3⟩ := h
    obtain ⟨k, hk, ek⟩ := nI_ofge (Int32.le_trans (show (0 : Int32) ≤ nI 2 by decide) hg.2.1)
    have g1 : 2 ≤ k := by
      have := hg.2.1
      rw [ek, Int32.le_iff_toInt_le, nI_toInt (by omega), nI_toInt hk] at this
      omega
    have g2 : k ≤ 12 := by
      have := hg.2.2
      rw [ek, Int32.le_iff_toInt_le, nI_toInt hk, nI_toInt (by omega)] at this
      omega
    rw [ek]
    exact ⟨⟨cl_i g1 g2 h1.2.2.2, cl_p h2.1⟩, h3⟩
  · exact h
theorem ok_z0 : OkC z0C := by
  refine ⟨⟨cl_i (by omega) (by omega) (by decide), cl_p ⟨0, by omega, rfl⟩⟩, fun m q hq => (by cases hq), fun g k f hk => Or.inl rfl, ⟨0, rfl, by omega⟩, by decide, by decide, ⟨101, rfl, by omega⟩, by decide, fun p hp => (by cases hp), by decide, fun c hc => (by cases hc)⟩
end OK1
