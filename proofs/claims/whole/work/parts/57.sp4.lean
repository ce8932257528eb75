/-! nothing is lost: drift, lumps -/
section SP4
/-- while dust leaves: places from m on hold at least what they held -/
def dI (D0 : DV) (f0 : Int) (m : Nat) (q : DV × Int64) : Prop := (∀ c, c ≠ 4 → q.1 c = D0 c) ∧ (∀ k, k < 60 → 0 ≤ (q.1 4 k).toInt) ∧ (∀ k, m ≤ k → k < 60 → (D0 4 k).toInt ≤ (q.1 4 k).toInt) ∧ 0 ≤ q.2.toInt ∧ dT q.1 + q.2.toInt = dT D0 + f0 ∧ ∀ k, 5 * rgD D0 ≤ k → k < 60 → q.1 4 k = 0
theorem dI.le {D0 : DV} {f0 : Int} {m : Nat} {q : DV × Int64} (h : dI D0 f0 m q) (ht : dT D0 + f0 ≤ 7200000) : (∀ x, x < 60 → 0 ≤ (q.1 4 x).toInt ∧ (q.1 4 x).toInt ≤ 7200000) ∧ q.2.toInt ≤ 7200000 := by
  obtain ⟨h1, h2, h3, h4, h5, h6⟩ := h
  have a2 : 0 ≤ dT q.1 := zS_nn 60 (fun i hi => h2 i hi)
  refine ⟨fun x hx => ⟨h2 x hx, ?_⟩, by omega⟩
  have := zS_le (f := fun k => (q.1 4 k).toInt) 60 (fun i hi => h2 i hi) hx
  have e : zS (fun k => (q.1 4 k).toInt) 60 = dT q.1 := rfl
  rw [e] at this
  omega
theorem drAt_i {D0 : DV} {f0 : Int} {lv : Nat → Nat → Int32} {r s : Nat} {q : DV × Int64} (hD : rOk D0) (hg : gOk D0) (ht : dT D0 + f0 ≤ 7200000) (hr : r < rgD D0) (hs : s < 5) (hl : 0 ≤ (lv r s).toInt ∧ (lv r s).toInt ≤ (D0 4 (5 * r + s)).toInt) (h : dI D0 f0 (5 * r + s) q) : dI D0 f0 (5 * r + s + 1) (drAt D0 lv r s q) := by
  have h12 := hD.2.2.1
  obtain ⟨le1, le2⟩ := h.le ht
  obtain ⟨h1, h2, h3, h4, h5, h6⟩ := h
  have hp : (lv r s).toInt ≤ (q.1 4 (5 * r + s)).toInt := Int.le_trans hl.2 (h3 _ (Nat.le_refl _) (by omega))
  unfold drAt
  by_cases hw : 0 ≤ nI r + wayD D0 r
  · rw [if_pos hw]
    obtain ⟨-, ht2⟩ := toD_ok hD hg hr hw
    have hk2 : 5 * toD D0 r + s < 60 := by omega
    have hm := mv_at (D := q.1) (k := 5 * r + s) (k2 := 5 * toD D0 r + s) (p := lv r s) le1 (by omega) hk2 hl.1 hp
    refine ⟨fun c hc => ?_, fun k hk => ?_, fun k g1 g2 => ?_, h4, ?_, fun k g1 g2 => ?_⟩
    · show mvD q.1 _ _ _ c = _
      unfold mvD
      rw [up2_ne _ _ _ hc, up2_ne _ _ _ hc]
      exact h1 c hc
    · have := h2 k hk
      have e := hm k hk
      show 0 ≤ (mvD q.1 (5 * r + s) (5 * toD D0 r + s) (lv r s) 4 k).toInt
      rw [e]
      by_cases e1 : k = 5 * r + s
      · subst e1; rw [if_pos rfl]; split <;> omega
      · rw [if_neg e1]; split <;> omega
    · have := h3 k (by omega) g2
      have e := hm k g2
      show _ ≤ (mvD q.1 (5 * r + s) (5 * toD D0 r + s) (lv r s) 4 k).toInt
      rw [e, if_neg (show ¬ k = 5 * r + s by omega)]
      split <;> omega
    · have : dT (mvD q.1 (5 * r + s) (5 * toD D0 r + s) (lv r s)) = dT q.1 := zS_mv (by omega) hk2 hm
      show dT (mvD q.1 (5 * r + s) (5 * toD D0 r + s) (lv r s)) + q.2.toInt = _
      rw [this]; exact h5
    · show va_up (va_up (q.1 4) (5 * r + s) _) (5 * toD D0 r + s) _ k = 0
      rw [va_up_ne _ _ (by omega), va_up_ne _ _ (by omega)]
      exact h6 k g1 g2
  · rw [if_neg hw]
    have q0 := le1 (5 * r + s) (by omega)
    have hs' : (q.1 4 (5 * r + s) - lv r s).toInt = (q.1 4 (5 * r + s)).toInt - (lv r s).toInt := i_sub (by omega) (by omega)
    have hf : (q.2 + (lv r s).toInt64).toInt = q.2.toInt + (lv r s).toInt := by
      rw [l_add (by rw [Int32.toInt_toInt64]; omega) (by rw [Int32.toInt_toInt64]; omega), Int32.toInt_toInt64]
    have key : ∀ k, k < 60 → (va_up (q.1 4) (5 * r + s) (q.1 4 (5 * r + s) - lv r s) k).toInt = (q.1 4 k).toInt - (if k = 5 * r + s then (lv r s).toInt else 0) := by
      intro k hk
      by_cases e : k = 5 * r + s
      · subst e; rw [va_up_self, if_pos rfl, hs']
      · rw [va_up_ne _ _ e, if_neg e]; omega
    refine ⟨fun c hc => ?_, fun k hk => ?_, fun k g1 g2 => ?_, ?_, ?_, fun k g1 g2 => ?_⟩
    · show up2 q.1 _ _ _ c = _
      rw [up2_ne _ _ _ hc]
      exact h1 c hc
    · have := h2 k hk
      show 0 ≤ (va_up (q.1 4) (5 * r + s) (q.1 4 (5 * r + s) - lv r s) k).toInt
      rw [key k hk]
      by_cases e1 : k = 5 * r + s
      · subst e1; rw [if_pos rfl]; omega
      · rw [if_neg e1]; omega
    · have := h3 k (by omega) g2
      show _ ≤ (va_up (q.1 4) (5 * r + s) (q.1 4 (5 * r + s) - lv r s) k).toInt
      rw [key k g2, if_neg (show ¬ k = 5 * r + s by omega)]; omega
    · show 0 ≤ (q.2 + (lv r s).toInt64).toInt
      rw [hf]; omega
    · have e : dT (up2 q.1 4 (5 * r + s) (q.1 4 (5 * r + s) - lv r s)) = dT q.1 + ((q.1 4 (5 * r + s) - lv r s).toInt - (q.1 4 (5 * r + s)).toInt) := by
        have := zS_at (f := fun k => (q.1 4 k).toInt) (g := fun k => (va_up (q.1 4) (5 * r + s) (q.1 4 (5 * r + s) - lv r s) k).toInt) (k := 5 * r + s) (n := 60) (by omega) (fun i _ hi => by rw [va_up_ne _ _ hi])
        rw [va_up_self] at this
        exact this
      show dT (up2 q.1 4 (5 * r + s) (q.1 4 (5 * r + s) - lv r s)) + (q.2 + (lv r s).toInt64).toInt = _
      rw [e, hs', hf]; omega
    · show va_up (q.1 4) (5 * r + s) _ k = 0
      rw [va_up_ne _ _ (by omega)]
      exact h6 k g1 g2
theorem drR_i {D0 : DV} {f0 : Int} {lv : Nat → Nat → Int32} {r : Nat} (hD : rOk D0) (hg : gOk D0) (ht : dT D0 + f0 ≤ 7200000) (hr : r < rgD D0) (hl : ∀ s, s < 5 → 0 ≤ (lv r s).toInt ∧ (lv r s).toInt ≤ (D0 4 (5 * r + s)).toInt) : ∀ (c s : Nat) (q : DV × Int64), s + c = 5 → dI D0 f0 (5 * r + s) q → dI D0 f0 (5 * r + 5) (drR D0 lv r c s q) := by
  intro c
  induction c with
  | zero => intro s q hs h; have hs : s = 5 := hs; subst hs; exact h
  | succ c ih => intro s q hs h; exact ih (s + 1) _ (by omega) (drAt_i hD hg ht hr (by omega) (hl s (by omega)) h)
theorem drN_i {D0 : DV} {f0 : Int} {lv : Nat → Nat → Int32} (hD : rOk D0) (hg : gOk D0) (ht : dT D0 + f0 ≤ 7200000) (hl : ∀ r s, r < rgD D0 → s < 5 → 0 ≤ (lv r s).toInt ∧ (lv r s).toInt ≤ (D0 4 (5 * r + s)).toInt) : ∀ (c r : Nat) (q : DV × Int64), r + c = rgD D0 → dI D0 f0 (5 * r) q → dI D0 f0 (5 * rgD D0) (drN D0 lv c r q) := by
  intro c
  induction c with
  | zero => intro r q hr h; have hr : r = rgD D0 := hr; subst hr; exact h
  | succ c ih => intro r q hr h; exact ih (r + 1) _ (by omega) (drR_i hD hg ht (by omega) (fun s hs => hl r s (by omega) hs) 5 0 q rfl h)
theorem lvD_i {lw : LW} {q : QV} {G : Nat → Int32} {r s : Nat} (hl : lwOk lw) (h : iOk q) (hr : r < rgD q.1) (hs : s < 5) : 0 ≤ (lvD lw q.1 G r s).toInt ∧ (lvD lw q.1 G r s).toInt ≤ (q.1 4 (5 * r + s)).toInt := by
  have h12 := h.1.2.2.1
  have hc := h.2.1.2.1 (5 * r + s) (by omega)
  have hm := h.2.1.le.2.1 (5 * r + s) (by omega)
  unfold lvD
  by_cases hw : wayD q.1 r = 0
  · rw [if_pos hw, if_pos (by decide)]
    exact ⟨by decide, hc⟩
  · rw [if_neg hw]
    split
    · exact ⟨by decide, hc⟩
    · rename_i hn
      split
      · have hn := hl.nn (by decide) hn
        obtain ⟨-, p1, p2⟩ := prt_i hc hm hn.1 (hn.2.1 (by decide))
        exact ⟨p1, p2⟩
      · exact ⟨by decide, hc⟩
theorem iOk.kc {q : QV} {D' : DV} {f' : Int64} (h : iOk q) (h1 : ∀ c, c ≠ 4 → D' c = q.1 c) (h2 : ∀ k, k < 60 → 0 ≤ (D' 4 k).toInt) (h3 : 0 ≤ f'.toInt) (h4 : dT D' + f'.toInt = dT q.1 + q.2.1.toInt) (h5 : ∀ k, 5 * rgD q.1 ≤ k → k < 60 → D' 4 k = 0) : iOk (D', f', q.2.2) := by
  have e0 := h1 0 (by decide)
  have hk : kpD q.1 D' := ⟨by rw [e0], by rw [e0], h1 6 (by decide)⟩
  have er : rgD D' = rgD q.1 := rg_kp hk
  have ec : cmD D' = cmD q.1 := cmD_cg (by rw [e0])
  obtain ⟨b1, b2, b3, b4, b5, b6⟩ := h.2.1
  refine ⟨hk.ok h.1, ⟨fun k hk => ?_, h2, fun u hu hs => ?_, h3, b5, ?_⟩, ⟨fun k g1 g2 => ?_, fun k g1 g2 => ?_, fun u hu k g1 g2 => ?_⟩, ?_⟩
  · show 0 ≤ (D' 1 k).toInt
    rw [h1 1 (by decide)]; exact b1 k hk
  · have hu : u < cmD D' := hu
    have hs : D' 5 u = 0 := hs
    rw [ec] at hu
    rw [h1 5 (by decide)] at hs
    show 0 < (wD D' u).toInt
    rw [wD_cg (h1 7 (by decide)) (h1 11 (by decide))]
    exact b3 u hu hs
  · have eg : gT D' = gT q.1 := by unfold gT; rw [h1 1 (by decide)]
    have el : lT D' = lT q.1 := lT_cg (by rw [e0]) (h1 5 (by decide)) (h1 7 (by decide)) (h1 11 (by decide))
    unfold tT at b6
    show gT D' + dT D' + lT D' + f'.toInt + q.2.2.toInt ≤ _
    rw [eg, el]
    omega
  · have g1 : rgD D' ≤ k := g1
    rw [er] at g1
    show D' 1 k = 0
    rw [h1 1 (by decide)]; exact h.2.2.1.1 k g1 g2
  · have g1 : 5 * rgD D' ≤ k := g1
    rw [er] at g1
    exact h5 k g1 g2
  · have hu : u < cmD D' := hu
    have g1 : rgD D' ≤ k := g1
    rw [er] at g1
    rw [ec] at hu
    show D' 11 _ = 0
    rw [h1 11 (by decide)]
    exact h.2.2.1.2.2 u hu k g1 g2
  · show 0 ≤ (D' 0 3).toInt
    rw [e0]; exact h.2.2.2
theorem s3D_i {lw : LW} {q : QV} (hl : lwOk lw) (h : iOk q) : iOk ((s3D lw (q.1, q.2.1)).1, (s3D lw (q.1, q.2.1)).2, q.2.2) := by
  obtain ⟨b1, b2, b3, b4, b5, b6⟩ := id h.2.1
  have le := h.2.1.le
  have ht : dT q.1 + q.2.1.toInt ≤ 7200000 := by
    unfold tT at b6
    have := le.2.2.2.2.2
    omega
  have d := drN_i (D0 := q.1) (f0 := q.2.1.toInt) (lv := lvD lw q.1 (gapN lw q.1 (cmD q.1))) h.1 h.ok.2 ht (fun r s hr hs => lvD_i hl h hr hs) (rgD q.1) 0 (q.1, q.2.1) (Nat.zero_add _) ⟨fun _ _ => rfl, b2, fun _ _ _ => Int.le_refl _, b4, rfl, h.2.2.1.2.1⟩
  obtain ⟨d1, d2, d3, d4, d5, d6⟩ := d
  exact h.kc d1 d2 d4 d5 d6
end SP4
