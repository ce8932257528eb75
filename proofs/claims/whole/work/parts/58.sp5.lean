/-! nothing is lost: lumps -/
section SP5
variable {D D' : DV}
theorem lT_at {u0 : Nat} (h0 : D' 0 6 = D 0 6) (hu : u0 < cmD D) (h : ∀ u, u < cmD D → u ≠ u0 → lpW D' u = lpW D u) : lT D' = lT D + (lpW D' u0 - lpW D u0) := by
  unfold lT
  rw [cmD_cg h0]
  exact zS_at hu h
theorem iSum_up {f : Nat → Int32} {k i : Nat} {p : Int32} : ∀ n, iSum (va_up f (k + i) (f (k + i) + p)) k n = if i < n then iSum f k n + p else iSum f k n
  | 0 => rfl
  | n + 1 => by
    rw [iSum, iSum, iSum_up n]
    by_cases e : i = n
    · subst e; rw [if_neg (Nat.lt_irrefl _), va_up_self, if_pos (Nat.lt_succ_self _), Int32.add_assoc]
    · rw [va_up_ne _ _ (by omega)]
      by_cases h : i < n
      · rw [if_pos h, if_pos (by omega), Int32.add_assoc, Int32.add_comm p, ← Int32.add_assoc]
      · rw [if_neg h, if_neg (by omega)]
theorem iSum_add {f g h : Nat → Int32} {k m : Nat} : ∀ n, (∀ i, i < n → h (k + i) = f (k + i) + g (m + i)) → iSum h k n = iSum f k n + iSum g m n
  | 0, _ => rfl
  | n + 1, e => by
    rw [iSum, iSum, iSum, iSum_add n (fun i hi => e i (by omega)), e n (by omega)]
    rw [Int32.add_assoc, Int32.add_assoc, ← Int32.add_assoc (iSum g m n), Int32.add_comm (iSum g m n), Int32.add_assoc]
theorem wD_up11 {u r : Nat} {p : Int32} (hr : r < 12) : wD (up2 D 11 (12 * u + r) (D 11 (12 * u + r) + p)) u = wD D u + p := by
  unfold wD
  show iSum (va_up (D 11) (12 * u + r) (D 11 (12 * u + r) + p)) (12 * u) 12 + D 7 u = _
  rw [iSum_up, if_pos hr, Int32.add_assoc, Int32.add_comm p, ← Int32.add_assoc]
theorem wD_up11' {u v r : Nat} {x : Int32} (hr : r < 12) (h : v ≠ u) : wD (up2 D 11 (12 * u + r) x) v = wD D v := by
  unfold wD
  show iSum (va_up (D 11) (12 * u + r) x) (12 * v) 12 + D 7 v = _
  rw [iSum_congr (f := va_up (D 11) (12 * u + r) x) (g := D 11) (k := 12 * v) (m := 12 * v) (fun i hi => va_up_ne _ _ (by omega))]
theorem wD_up7 {u : Nat} {p : Int32} : wD (up2 D 7 u (D 7 u + p)) u = wD D u + p := by
  unfold wD
  show iSum (D 11) (12 * u) 12 + va_up (D 7) u (D 7 u + p) u = _
  rw [va_up_self, Int32.add_assoc]
theorem wD_up7' {u v : Nat} {x : Int32} (h : v ≠ u) : wD (up2 D 7 u x) v = wD D v := by
  unfold wD
  show iSum (D 11) (12 * v) 12 + va_up (D 7) u x v = _
  rw [va_up_ne _ _ h]
theorem lpW_0 {u : Nat} (h : D 5 u = 0) : lpW D u = (wD D u).toInt := if_pos h
theorem lpW_1 {u : Nat} (h : ¬ D 5 u = 0) : lpW D u = 0 := if_neg h
theorem lpW_cg {u : Nat} (h5 : D' 5 u = D 5 u) (hw : wD D' u = wD D u) : lpW D' u = lpW D u := by unfold lpW; rw [h5, hw]
/-- all dust of a place becomes a lump -/
theorem newL_i {q : QV} {r s : Nat} (h : iOk q) (hr : r < rgD q.1) (hs : s < 5) (hc : cmD q.1 < 30) (hp : 0 < (q.1 4 (5 * r + s)).toInt) : iOk (newL q.1 r s, q.2) := by
  have h12 := h.1.2.2.1
  obtain ⟨b1, b2, b3, b4, b5, b6⟩ := h.2.1
  have ec : cmD (newL q.1 r s) = cmD q.1 + 1 := nI_clamp (by omega)
  have e5 : ∀ u, u < cmD q.1 → newL q.1 r s 5 u = q.1 5 u := fun u hu => va_up_ne _ _ (by omega)
  have e5' : newL q.1 r s 5 (cmD q.1) = 0 := va_up_self _ _ _
  refine ⟨(newL_ok h.1 hr hc).1, ⟨b1, fun k hk => ?_, fun u hu h0 => ?_, b4, b5, ?_⟩, ⟨h.2.2.1.1, fun k g1 g2 => ?_, fun u hu k g1 g2 => ?_⟩, h.2.2.2⟩
  · show 0 ≤ (va_up (q.1 4) (5 * r + s) (nI 0) k).toInt
    by_cases e : k = 5 * r + s
    · rw [e, va_up_self]; decide
    · rw [va_up_ne _ _ e]; exact b2 k hk
  · have hu : u < cmD (newL q.1 r s) := hu
    show 0 < (wD (newL q.1 r s) u).toInt
    rw [ec] at hu
    by_cases e : u = cmD q.1
    · rw [e, newL_w (by omega)]; exact hp
    · rw [newL_w' (by omega)]
      exact b3 u (by omega) (by rw [← e5 u (by omega)]; exact h0)
  · have eg : gT (newL q.1 r s) = gT q.1 := rfl
    have el : lT (newL q.1 r s) = lT q.1 + (q.1 4 (5 * r + s)).toInt := by
      unfold lT
      rw [ec, zS, lpW_0 e5', newL_w (by omega)]
      rw [zS_cg (f := lpW (newL q.1 r s)) (g := lpW q.1) _ (fun u hu => lpW_cg (e5 u hu) (newL_w' hu))]
    have ed : dT (newL q.1 r s) = dT q.1 - (q.1 4 (5 * r + s)).toInt := by
      have := zS_at (f := fun k => (q.1 4 k).toInt) (g := fun k => (va_up (q.1 4) (5 * r + s) (nI 0) k).toInt) (k := 5 * r + s) (n := 60) (by omega) (fun i _ hi => by rw [va_up_ne _ _ hi])
      rw [va_up_self] at this
      have e0 : (nI 0).toInt = 0 := by decide
      rw [e0] at this
      have e : dT (newL q.1 r s) = dT q.1 + (0 - (q.1 4 (5 * r + s)).toInt) := this
      omega
    unfold tT at b6
    show gT (newL q.1 r s) + dT (newL q.1 r s) + lT (newL q.1 r s) + q.2.1.toInt + q.2.2.toInt ≤ _
    rw [eg, el, ed]
    omega
  · have g1 : 5 * rgD q.1 ≤ k := g1
    show va_up (q.1 4) (5 * r + s) (nI 0) k = 0
    rw [va_up_ne _ _ (by omega)]
    exact h.2.2.1.2.1 k g1 g2
  · have hu : u < cmD (newL q.1 r s) := hu
    have g1 : rgD q.1 ≤ k := g1
    rw [ec] at hu
    show newL q.1 r s 11 (12 * u + k) = 0
    by_cases e : u = cmD q.1
    · rw [e, newL_11 (by omega) k g2, if_neg (by omega)]
    · rw [newL_11' (by omega)]
      exact h.2.2.1.2.2 u (by omega) k g1 g2
theorem gathAt_i {lw : LW} {q : QV} {r s : Nat} (hl : lwOk lw) (h : iOk q) (hr : r < rgD q.1) (hs : s < 5) : iOk (gathAt lw q.1 r s, q.2) := by
  unfold gathAt
  split
  · exact h
  · rename_i h0
    split
    · exact h
    · rename_i h1
      split
      · exact h
      · rename_i h2
        have hn := hl.nn (k := 3) (by decide) h0
        have hle := Int32.le_iff_toInt_le.mp (Int32.not_lt.mp h1)
        refine newL_i h hr hs ?_ (by have := hn.2.2 rfl; omega)
        refine Nat.lt_of_not_le (fun q9 => h2 ?_)
        rw [h.1.2.2.2.1]
        exact nI_le q9 (by have := h.1.2.2.2.2.1; omega)
/-- dust of a place to a lump -/
theorem fdAt_i {q : QV} {r u s : Nat} {n : Int32} (h : iOk q) (hu : u < cmD q.1) (h0 : q.1 5 u = 0) (hr : r < rgD q.1) (hs : s < 5) (hn : 0 ≤ n.toInt ∧ n.toInt ≤ 100) : iOk (fdAt r u n s q.1, q.2) := by
  have h12 := h.1.2.2.1
  have hc := h.2.1.2.1 (5 * r + s) (by omega)
  have le := h.2.1.le
  have hm := le.2.1 (5 * r + s) (by omega)
  obtain ⟨-, p1, p2⟩ := prt_i hc hm hn.1 hn.2
  obtain ⟨b1, b2, b3, b4, b5, b6⟩ := h.2.1
  unfold fdAt
  obtain ⟨p, hp⟩ : ∃ p, p = prt (q.1 4 (5 * r + s)) n := ⟨_, rfl⟩
  rw [← hp] at p1 p2 ⊢
  obtain ⟨D1, hD1⟩ : ∃ D1, D1 = up2 q.1 4 (5 * r + s) (q.1 4 (5 * r + s) - p) := ⟨_, rfl⟩
  have ew : wD (up2 D1 11 (12 * u + r) (q.1 11 (12 * u + r) + p)) u = wD q.1 u + p := by
    have := wD_up11 (D := D1) (u := u) (r := r) (p := p) (by omega)
    rw [show D1 11 = q.1 11 by rw [hD1]; rfl, wD_cg (D := q.1) (D' := D1) (by rw [hD1]; rfl) (by rw [hD1]; rfl)] at this
    exact this
  have ew' : ∀ v, v ≠ u → wD (up2 D1 11 (12 * u + r) (q.1 11 (12 * u + r) + p)) v = wD q.1 v := by
    intro v hv
    rw [wD_up11' (by omega) hv, wD_cg (D := q.1) (D' := D1) (by rw [hD1]; rfl) (by rw [hD1]; rfl)]
  obtain ⟨D2, hD2⟩ : ∃ D2, D2 = up2 D1 11 (12 * u + r) (q.1 11 (12 * u + r) + p) := ⟨_, rfl⟩
  rw [← hD1, ← hD2]
  rw [← hD2] at ew ew'
  have r4 : D2 4 = va_up (q.1 4) (5 * r + s) (q.1 4 (5 * r + s) - p) := by rw [hD2, hD1]; rfl
  have rc : ∀ c, c ≠ 4 → c ≠ 11 → D2 c = q.1 c := fun c c1 c2 => by rw [hD2, up2_ne _ _ _ c2, hD1, up2_ne _ _ _ c1]
  have r11 : D2 11 = va_up (q.1 11) (12 * u + r) (q.1 11 (12 * u + r) + p) := by rw [hD2, up2_row, hD1]; rfl
  have hk : kpD q.1 D2 := ⟨by rw [rc 0 (by decide) (by decide)], by rw [rc 0 (by decide) (by decide)], rc 6 (by decide) (by decide)⟩
  have er : rgD D2 = rgD q.1 := rg_kp hk
  have ec : cmD D2 = cmD q.1 := cmD_cg (by rw [rc 0 (by decide) (by decide)])
  have hs' : (q.1 4 (5 * r + s) - p).toInt = (q.1 4 (5 * r + s)).toInt - p.toInt := i_sub (by omega) (by omega)
  have hw := b3 u hu h0
  have hwl := le.2.2.1 u hu
  rw [lpW_0 h0] at hwl
  have hww : (wD q.1 u + p).toInt = (wD q.1 u).toInt + p.toInt := i_add (by omega) (by omega)
  refine ⟨hk.ok h.1, ⟨fun k hk => ?_, fun k hk => ?_, fun v hv hv0 => ?_, b4, b5, ?_⟩, ⟨fun k g1 g2 => ?_, fun k g1 g2 => ?_, fun v hv k g1 g2 => ?_⟩, ?_⟩
  · show 0 ≤ (D2 1 k).toInt
    rw [rc 1 (by decide) (by decide)]; exact b1 k hk
  · show 0 ≤ (D2 4 k).toInt
    rw [r4]
    by_cases e : k = 5 * r + s
    · rw [e, va_up_self, hs']; omega
    · rw [va_up_ne _ _ e]; exact b2 k hk
  · have hv : v < cmD D2 := hv
    have hv0 : D2 5 v = 0 := hv0
    rw [ec] at hv
    rw [rc 5 (by decide) (by decide)] at hv0
    show 0 < (wD D2 v).toInt
    by_cases e : v = u
    · rw [e, ew, hww]; omega
    · rw [ew' v e]; exact b3 v hv hv0
  · have eg : gT D2 = gT q.1 := by unfold gT; rw [rc 1 (by decide) (by decide)]
    have el : lT D2 = lT q.1 + p.toInt := by
      rw [lT_at (u0 := u) (by rw [rc 0 (by decide) (by decide)]) hu (fun v _ hv => lpW_cg (by rw [rc 5 (by decide) (by decide)]) (ew' v hv)), lpW_0 (show D2 5 u = 0 by rw [rc 5 (by decide) (by decide)]; exact h0), lpW_0 h0, ew, hww]
      omega
    have ed : dT D2 = dT q.1 - p.toInt := by
      have := zS_at (f := fun k => (q.1 4 k).toInt) (g := fun k => (va_up (q.1 4) (5 * r + s) (q.1 4 (5 * r + s) - p) k).toInt) (k := 5 * r + s) (n := 60) (by omega) (fun i _ hi => by rw [va_up_ne _ _ hi])
      rw [va_up_self, hs'] at this
      have e : dT D2 = dT q.1 + ((q.1 4 (5 * r + s)).toInt - p.toInt - (q.1 4 (5 * r + s)).toInt) := by unfold dT; rw [r4]; exact this
      omega
    unfold tT at b6
    show gT D2 + dT D2 + lT D2 + q.2.1.toInt + q.2.2.toInt ≤ _
    rw [eg, el, ed]
    omega
  · have g1 : rgD D2 ≤ k := g1
    rw [er] at g1
    show D2 1 k = 0
    rw [rc 1 (by decide) (by decide)]; exact h.2.2.1.1 k g1 g2
  · have g1 : 5 * rgD D2 ≤ k := g1
    rw [er] at g1
    show D2 4 k = 0
    rw [r4, va_up_ne _ _ (by omega)]; exact h.2.2.1.2.1 k g1 g2
  · have g1 : rgD D2 ≤ k := g1
    have hv : v < cmD D2 := hv
    rw [er] at g1
    rw [ec] at hv
    show D2 11 (12 * v + k) = 0
    rw [r11, va_up_ne _ _ (by omega)]; exact h.2.2.1.2.2 v hv k g1 g2
  · show 0 ≤ (D2 0 3).toInt
    rw [rc 0 (by decide) (by decide)]; exact h.2.2.2
theorem fdAt_kp' {r u s : Nat} {n : Int32} : kpD D (fdAt r u n s D) ∧ fdAt r u n s D 5 = D 5 := ⟨⟨rfl, rfl, rfl⟩, rfl⟩
theorem fdR_i {r u : Nat} {n : Int32} (hn : 0 ≤ n.toInt ∧ n.toInt ≤ 100) : ∀ (c s : Nat) (q : QV), iOk q → u < cmD q.1 → q.1 5 u = 0 → r < rgD q.1 → s + c ≤ 5 → iOk (fdR r u n c s q.1, q.2) := by
  intro c
  induction c with
  | zero => intro s q h _ _ _ _; exact h
  | succ c ih =>
    intro s q h hu h0 hr hs
    obtain ⟨k1, k2⟩ := fdAt_kp' (D := q.1) (r := r) (u := u) (s := s) (n := n)
    exact ih (s + 1) (fdAt r u n s q.1, q.2) (fdAt_i h hu h0 hr (by omega) hn) (by show u < cmD _; rw [cmD_cg k1.2.1]; exact hu) (by show fdAt r u n s q.1 5 u = 0; rw [k2]; exact h0) (by show r < rgD _; rw [rg_kp k1]; exact hr) (by omega)
theorem feedAt_i {lw : LW} {q : QV} {u : Nat} (hl : lwOk lw) (h : iOk q) (hu : u < cmD q.1) : iOk (feedAt lw q.1 u, q.2) := by
  unfold feedAt
  split
  · rename_i h0
    split
    · exact h
    · rename_i h1
      have hn := hl.nn (k := 4) (f := fLu q.1 u) (by decide) (fun q => h1 (Int32.le_of_lt q))
      exact fdR_i ⟨hn.1, hn.2.1 (by decide)⟩ 5 0 q h hu h0 (h.1.2.2.2.2.2 u hu).2 (by omega)
  · exact h
/-- gas of a ring to a lump -/
theorem gs_i {q : QV} {u g : Nat} {p : Int32} (h : iOk q) (hu : u < cmD q.1) (h0 : q.1 5 u = 0) (hg : g < rgD q.1) (p1 : 0 ≤ p.toInt) (p2 : p.toInt ≤ (q.1 1 g).toInt) : iOk (up2 (up2 q.1 1 g (q.1 1 g - p)) 7 u (q.1 7 u + p), q.2) := by
  have h12 := h.1.2.2.1
  have le := h.2.1.le
  have hm := le.1 g (by omega)
  obtain ⟨b1, b2, b3, b4, b5, b6⟩ := h.2.1
  obtain ⟨D1, hD1⟩ : ∃ D1, D1 = up2 q.1 1 g (q.1 1 g - p) := ⟨_, rfl⟩
  obtain ⟨D2, hD2⟩ : ∃ D2, D2 = up2 D1 7 u (q.1 7 u + p) := ⟨_, rfl⟩
  have e17 : D1 7 = q.1 7 := by rw [hD1]; rfl
  have ew : wD D2 u = wD q.1 u + p := by
    have := wD_up7 (D := D1) (u := u) (p := p)
    rw [e17, wD_cg (D := q.1) (D' := D1) e17 (by rw [hD1]; rfl)] at this
    rw [hD2]
    exact this
  have ew' : ∀ v, v ≠ u → wD D2 v = wD q.1 v := by
    intro v hv
    rw [hD2, wD_up7' hv, wD_cg (D := q.1) (D' := D1) e17 (by rw [hD1]; rfl)]
  rw [← hD1, ← hD2]
  have r1 : D2 1 = va_up (q.1 1) g (q.1 1 g - p) := by rw [hD2, hD1]; rfl
  have rc : ∀ c, c ≠ 1 → c ≠ 7 → D2 c = q.1 c := fun c c1 c2 => by rw [hD2, up2_ne _ _ _ c2, hD1, up2_ne _ _ _ c1]
  have hk : kpD q.1 D2 := ⟨by rw [rc 0 (by decide) (by decide)], by rw [rc 0 (by decide) (by decide)], rc 6 (by decide) (by decide)⟩
  have er : rgD D2 = rgD q.1 := rg_kp hk
  have ec : cmD D2 = cmD q.1 := cmD_cg (by rw [rc 0 (by decide) (by decide)])
  have hg1 := b1 g (by omega)
  have hs' : (q.1 1 g - p).toInt = (q.1 1 g).toInt - p.toInt := i_sub (by omega) (by omega)
  have hw := b3 u hu h0
  have hwl := le.2.2.1 u hu
  rw [lpW_0 h0] at hwl
  have hww : (wD q.1 u + p).toInt = (wD q.1 u).toInt + p.toInt := i_add (by omega) (by omega)
  refine ⟨hk.ok h.1, ⟨fun k hk => ?_, fun k hk => ?_, fun v hv hv0 => ?_, b4, b5, ?_⟩, ⟨fun k g1 g2 => ?_, fun k g1 g2 => ?_, fun v hv k g1 g2 => ?_⟩, ?_⟩
  · show 0 ≤ (D2 1 k).toInt
    rw [r1]
    by_cases e : k = g
    · rw [e, va_up_self, hs']; omega
    · rw [va_up_ne _ _ e]; exact b1 k hk
  · show 0 ≤ (D2 4 k).toInt
    rw [rc 4 (by decide) (by decide)]; exact b2 k hk
  · have hv : v < cmD D2 := hv
    have hv0 : D2 5 v = 0 := hv0
    rw [ec] at hv
    rw [rc 5 (by decide) (by decide)] at hv0
    show 0 < (wD D2 v).toInt
    by_cases e : v = u
    · rw [e, ew, hww]; omega
    · rw [ew' v e]; exact b3 v hv hv0
  · have ed : dT D2 = dT q.1 := by unfold dT; rw [rc 4 (by decide) (by decide)]
    have el : lT D2 = lT q.1 + p.toInt := by
      rw [lT_at (u0 := u) (by rw [rc 0 (by decide) (by decide)]) hu (fun v _ hv => lpW_cg (by rw [rc 5 (by decide) (by decide)]) (ew' v hv)), lpW_0 (show D2 5 u = 0 by rw [rc 5 (by decide) (by decide)]; exact h0), lpW_0 h0, ew, hww]
      omega
    have eg : gT D2 = gT q.1 - p.toInt := by
      have := zS_at (f := fun k => (q.1 1 k).toInt) (g := fun k => (va_up (q.1 1) g (q.1 1 g - p) k).toInt) (k := g) (n := 12) (by omega) (fun i _ hi => by rw [va_up_ne _ _ hi])
      rw [va_up_self, hs'] at this
      have e : gT D2 = gT q.1 + ((q.1 1 g).toInt - p.toInt - (q.1 1 g).toInt) := by unfold gT; rw [r1]; exact this
      omega
    unfold tT at b6
    show gT D2 + dT D2 + lT D2 + q.2.1.toInt + q.2.2.toInt ≤ _
    rw [eg, el, ed]
    omega
  · have g1 : rgD D2 ≤ k := g1
    rw [er] at g1
    show D2 1 k = 0
    rw [r1, va_up_ne _ _ (by omega)]; exact h.2.2.1.1 k g1 g2
  · have g1 : 5 * rgD D2 ≤ k := g1
    rw [er] at g1
    show D2 4 k = 0
    rw [rc 4 (by decide) (by decide)]; exact h.2.2.1.2.1 k g1 g2
  · have g1 : rgD D2 ≤ k := g1
    have hv : v < cmD D2 := hv
    rw [er] at g1
    rw [ec] at hv
    show D2 11 (12 * v + k) = 0
    rw [rc 11 (by decide) (by decide)]; exact h.2.2.1.2.2 v hv k g1 g2
  · show 0 ≤ (D2 0 3).toInt
    rw [rc 0 (by decide) (by decide)]; exact h.2.2.2
theorem eatAt_i {lw : LW} {q : QV} {u : Nat} (hl : lwOk lw) (h : iOk q) (hu : u < cmD q.1) : iOk (eatAt lw q.1 u, q.2) := by
  have hg := (h.1.2.2.2.2.2 u hu).2
  have h12 := h.1.2.2.1
  have hc := h.2.1.1 (rg q.1 u) (by omega)
  have hm := h.2.1.le.1 (rg q.1 u) (by omega)
  unfold eatAt
  split
  · rename_i h0
    refine gs_i h hu h0 hg ?_ ?_
    · split
      · decide
      · rename_i h1
        have hn := hl.nn (k := 5) (f := fLu q.1 u) (by decide) (fun q => h1 (Int32.le_of_lt q))
        exact (prt_i hc hm hn.1 (hn.2.1 (by decide))).2.1
    · split
      · exact hc
      · rename_i h1
        have hn := hl.nn (k := 5) (f := fLu q.1 u) (by decide) (fun q => h1 (Int32.le_of_lt q))
        exact (prt_i hc hm hn.1 (hn.2.1 (by decide))).2.2
  · exact h
theorem feedN_i {lw : LW} (hl : lwOk lw) : ∀ (c u : Nat) (q : QV), iOk q → u + c ≤ cmD q.1 → iOk (feedN lw c u q.1, q.2)
  | 0, _, _, h, _ => h
  | c + 1, u, q, h, hu => feedN_i hl c (u + 1) (feedAt lw q.1 u, q.2) (feedAt_i hl h (by omega)) (by show _ ≤ cmD _; rw [cmD_cg feedAt_kp.2.1]; omega)
theorem eatN_i {lw : LW} (hl : lwOk lw) : ∀ (c u : Nat) (q : QV), iOk q → u + c ≤ cmD q.1 → iOk (eatN lw c u q.1, q.2)
  | 0, _, _, h, _ => h
  | c + 1, u, q, h, hu => eatN_i hl c (u + 1) (eatAt lw q.1 u, q.2) (eatAt_i hl h (by omega)) (by show _ ≤ cmD _; rw [cmD_cg eatAt_kp.2.1]; omega)
theorem gathR_i {lw : LW} {r : Nat} (hl : lwOk lw) : ∀ (m : Nat) (q : QV), iOk q → r < rgD q.1 → m ≤ 5 → iOk (gathR lw r m q.1, q.2)
  | 0, _, h, _, _ => h
  | m + 1, q, h, hr, hm => gathR_i hl m (gathAt lw q.1 r m, q.2) (gathAt_i hl h hr (by omega)) (by
      show r < rgD (gathAt lw q.1 r m)
      have : gathAt lw q.1 r m 0 0 = q.1 0 0 := by
        unfold gathAt
        split
        · rfl
        · split
          · rfl
          · split
            · rfl
            · rfl
      unfold rgD
      rw [this]
      exact hr) (by omega)
theorem gathN_i {lw : LW} (hl : lwOk lw) : ∀ (c r : Nat) (q : QV), iOk q → r + c = rgD q.1 → iOk (gathN lw c r q.1, q.2)
  | 0, _, _, h, _ => h
  | c + 1, r, q, h, hr => gathN_i hl c (r + 1) (gathR lw r 5 q.1, q.2) (gathR_i hl 5 q h (by omega) (Nat.le_refl _)) (by show _ = rgD (gathR lw r 5 q.1); unfold rgD; rw [(gathR_ok 5 q.1 h.1 (by omega)).2]; unfold rgD at hr; omega)
end SP5
