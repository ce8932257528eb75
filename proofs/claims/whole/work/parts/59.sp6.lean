/-! nothing is lost: lumps that wander, meet -/
section SP6
variable {D D' : DV}
theorem gone_t {q : QV} {u : Nat} {v : Int32} (h : iOk q) (hu : u < cmD q.1) (h0 : q.1 5 u = 0) (hv : ¬ v = 0) : (∀ f t : Int64, 0 ≤ f.toInt → 0 ≤ t.toInt → f.toInt + t.toInt = q.2.1.toInt + q.2.2.toInt + (wD q.1 u).toInt → iOk (up2 q.1 5 u v, f, t)) := by
  intro f t hf ht hs
  obtain ⟨b1, b2, b3, b4, b5, b6⟩ := h.2.1
  refine ⟨kpD.ok ⟨rfl, rfl, rfl⟩ h.1, ⟨b1, b2, fun w hw hw0 => ?_, hf, ht, ?_⟩, h.2.2.1, h.2.2.2⟩
  · have hw0 : va_up (q.1 5) u v w = 0 := hw0
    show 0 < (wD q.1 w).toInt
    by_cases e : w = u
    · rw [e, va_up_self] at hw0; exact absurd hw0 hv
    · rw [va_up_ne _ _ e] at hw0; exact b3 w hw hw0
  · have el : lT (up2 q.1 5 u v) = lT q.1 - (wD q.1 u).toInt := by
      rw [lT_at (D := q.1) (D' := up2 q.1 5 u v) (u0 := u) rfl hu (fun w _ hw => lpW_cg (va_up_ne _ _ hw) rfl), lpW_0 h0, lpW_1 (show ¬ up2 q.1 5 u v 5 u = 0 by rw [up2_row, va_up_self]; exact hv)]
      omega
    unfold tT at b6
    show gT q.1 + dT q.1 + lT (up2 q.1 5 u v) + f.toInt + t.toInt ≤ _
    rw [el]
    omega
theorem up6_i {q : QV} {u t : Nat} (h : iOk q) (hu : u < cmD q.1) (ht : t < rgD q.1) : iOk (up2 q.1 6 u (nI t), q.2) := by
  obtain ⟨b1, b2, b3, b4, b5, b6⟩ := h.2.1
  exact ⟨up6_ok h.1 hu ht, ⟨b1, b2, b3, b4, b5, b6⟩, h.2.2.1, h.2.2.2⟩
theorem up8_i {q : QV} {u : Nat} {v : Int32} (h : iOk q) : iOk (up2 q.1 8 u v, q.2) := by
  obtain ⟨b1, b2, b3, b4, b5, b6⟩ := h.2.1
  exact ⟨kpD.ok ⟨rfl, rfl, rfl⟩ h.1, ⟨b1, b2, b3, b4, b5, b6⟩, h.2.2.1, h.2.2.2⟩
theorem up01_i {q : QV} {v : Int32} (h : iOk q) : iOk (up2 q.1 0 1 v, q.2) := by
  obtain ⟨b1, b2, b3, b4, b5, b6⟩ := h.2.1
  exact ⟨kpD.ok ⟨rfl, rfl, rfl⟩ h.1, ⟨b1, b2, b3, b4, b5, b6⟩, h.2.2.1, h.2.2.2⟩
/-- what falls or is thrown fits -/
theorem wl_i {q : QV} {u : Nat} (h : iOk q) (hu : u < cmD q.1) (h0 : q.1 5 u = 0) : 0 < (wD q.1 u).toInt ∧ (wD q.1 u).toInt ≤ 7200000 := by
  have := h.2.1.le.2.2.1 u hu
  rw [lpW_0 h0] at this
  exact ⟨h.2.1.2.2.1 u hu h0, this⟩
theorem fl_i {f : Int64} {w : Int32} (hf : 0 ≤ f.toInt) (hf2 : f.toInt ≤ 7200000) (hw : 0 ≤ w.toInt) (hw2 : w.toInt ≤ 7200000) : (f + w.toInt64).toInt = f.toInt + w.toInt := by
  rw [l_add (by rw [Int32.toInt_toInt64]; omega) (by rw [Int32.toInt_toInt64]; omega), Int32.toInt_toInt64]
theorem goD_i {q : QV} {u : Nat} (h : iOk q) (hu : u < cmD q.1) (h0 : q.1 5 u = 0) : iOk ((goD (q.1, q.2.1) u).1, (goD (q.1, q.2.1) u).2, q.2.2) := by
  have hg := (h.1.2.2.2.2.2 u hu).2
  obtain ⟨w1, w2⟩ := wl_i h hu h0
  have le := h.2.1.le
  unfold goD
  split
  · rename_i hw
    exact up6_i h hu (toD_ok h.1 h.ok.2 hg hw).2
  · have e := fl_i (f := q.2.1) (w := wD q.1 u) h.2.1.2.2.2.1 le.2.2.2.1 (by omega) w2
    exact gone_t h hu h0 (by decide) _ _ (by show 0 ≤ (q.2.1 + (wD q.1 u).toInt64).toInt; rw [e]; have := h.2.1.2.2.2.1; omega) h.2.1.2.2.2.2.1 (by show (q.2.1 + (wD q.1 u).toInt64).toInt + _ = _; rw [e]; omega)
theorem wanAt_i {lw : LW} {q : QV} {u : Nat} (h : iOk q) (hu : u < cmD q.1) : iOk ((wanAt lw (q.1, q.2.1) u).1, (wanAt lw (q.1, q.2.1) u).2, q.2.2) := by
  unfold wanAt
  split
  · rename_i h0
    split
    · exact h
    · split
      · split
        · exact up8_i h
        · exact goD_i (q := (up2 q.1 8 u (nI 0), q.2)) (up8_i h) hu h0
      · exact h
  · exact h
theorem wanN_i {lw : LW} : ∀ (c u : Nat) (q : QV), iOk q → u + c ≤ cmD q.1 → iOk ((wanN lw c u (q.1, q.2.1)).1, (wanN lw c u (q.1, q.2.1)).2, q.2.2)
  | 0, _, _, h, _ => h
  | c + 1, u, q, h, hu => wanN_i c (u + 1) ((wanAt lw (q.1, q.2.1) u).1, (wanAt lw (q.1, q.2.1) u).2, q.2.2) (wanAt_i h (by omega)) (by
      show _ ≤ cmD (wanAt lw (q.1, q.2.1) u).1
      have k := wanAt_kw (lw := lw) (q := (q.1, q.2.1)) (u := u) h.1 h.ok.2 (by show u < cmD q.1; omega)
      have : cmD (wanAt lw (q.1, q.2.1) u).1 = cmD q.1 := by
        have e := k.1
        unfold cmD
        rw [e]
      omega)
theorem mdR_ne {s o x : Nat} (hx : x ≠ 11) : ∀ (c q : Nat) (D : DV), mdR s o c q D x = D x
  | 0, _, _ => rfl
  | c + 1, q, D => by
    show mdR s o c (q + 1) (up2 D 11 (12 * s + q) _) x = _
    rw [mdR_ne hx c, up2_ne _ _ _ hx]
theorem mdR_11 {s o : Nat} (hne : s ≠ o) : ∀ (c q : Nat) (D : DV), q + c ≤ 12 → ∀ x, mdR s o c q D 11 x = if 12 * s + q ≤ x ∧ x < 12 * s + q + c then D 11 x + D 11 (12 * o + (x - 12 * s)) else D 11 x := by
  intro c
  induction c with
  | zero => intro q D _ x; rw [if_neg (by omega)]; rfl
  | succ c ih =>
    intro q D hq x
    show mdR s o c (q + 1) (up2 D 11 (12 * s + q) (D 11 (12 * s + q) + D 11 (12 * o + q))) 11 x = _
    rw [ih (q + 1) _ (by omega) x]
    by_cases h1 : 12 * s + (q + 1) ≤ x ∧ x < 12 * s + (q + 1) + c
    · rw [if_pos h1, if_pos (by omega), up2_row, va_up_ne _ _ (by omega), va_up_ne _ _ (by omega)]
    · rw [if_neg h1, up2_row]
      by_cases e : x = 12 * s + q
      · subst e
        rw [va_up_self, if_pos (by omega), show 12 * s + q - 12 * s = q by omega]
      · rw [va_up_ne _ _ e, if_neg (by omega)]
/-- the base that the dust then goes to -/
def etB (D : DV) (s o : Nat) : DV := up2 (up2 (up2 D 5 o (nI 1)) 10 o (nI s)) 7 s (D 7 s + D 7 o)
theorem eatL_ne {s o x : Nat} (hx : x ≠ 11) : eatL D s o x = etB D s o x := mdR_ne hx 12 0 _
theorem eatL_11 {s o : Nat} (hne : s ≠ o) : (∀ i, i < 12 → eatL D s o 11 (12 * s + i) = D 11 (12 * s + i) + D 11 (12 * o + i)) ∧ ∀ k, (k < 12 * s ∨ 12 * s + 12 ≤ k) → eatL D s o 11 k = D 11 k := by
  refine ⟨fun i hi => ?_, fun k hk => ?_⟩
  · have := mdR_11 hne 12 0 (etB D s o) (by omega) (12 * s + i)
    rw [if_pos (by omega), show 12 * s + i - 12 * s = i by omega] at this
    exact this
  · have := mdR_11 hne 12 0 (etB D s o) (by omega) k
    rw [if_neg (by omega)] at this
    exact this
theorem eatL_w {s o : Nat} (hne : s ≠ o) : wD (eatL D s o) s = wD D s + wD D o := by
  unfold wD
  rw [iSum_add (f := D 11) (g := D 11) (h := eatL D s o 11) (k := 12 * s) (m := 12 * o) 12 (eatL_11 hne).1]
  rw [show eatL D s o 7 s = D 7 s + D 7 o by rw [eatL_ne (by decide)]; exact va_up_self _ _ _]
  rw [Int32.add_assoc, Int32.add_assoc, ← Int32.add_assoc (iSum (D 11) (12 * o) 12), Int32.add_comm (iSum (D 11) (12 * o) 12) (D 7 s), Int32.add_assoc]
theorem eatL_w' {s o v : Nat} (hne : s ≠ o) (hv : v ≠ s) : wD (eatL D s o) v = wD D v := by
  unfold wD
  rw [iSum_congr (f := eatL D s o 11) (g := D 11) (k := 12 * v) (m := 12 * v) (fun i hi => (eatL_11 hne).2 _ (by omega))]
  rw [show eatL D s o 7 v = D 7 v by rw [eatL_ne (by decide)]; exact va_up_ne _ _ hv]
theorem eatL_i {q : QV} {s o : Nat} (h : iOk q) (hs : s < cmD q.1) (ho : o < cmD q.1) (hne : s ≠ o) (s0 : q.1 5 s = 0) (o0 : q.1 5 o = 0) : iOk (eatL q.1 s o, q.2) := by
  obtain ⟨ws1, ws2⟩ := wl_i h hs s0
  obtain ⟨wo1, wo2⟩ := wl_i h ho o0
  have hww : (wD q.1 s + wD q.1 o).toInt = (wD q.1 s).toInt + (wD q.1 o).toInt := i_add (by omega) (by omega)
  obtain ⟨b1, b2, b3, b4, b5, b6⟩ := h.2.1
  have hk : kpD q.1 (eatL q.1 s o) := eatL_kp
  have er : rgD (eatL q.1 s o) = rgD q.1 := rg_kp hk
  have ec : cmD (eatL q.1 s o) = cmD q.1 := cmD_cg hk.2.1
  have e5 : eatL q.1 s o 5 = va_up (q.1 5) o (nI 1) := eatL_ne (by decide)
  have e1 : eatL q.1 s o 1 = q.1 1 := eatL_ne (by decide)
  have e4 : eatL q.1 s o 4 = q.1 4 := eatL_ne (by decide)
  have e0 : eatL q.1 s o 0 = q.1 0 := eatL_ne (by decide)
  have n1 : ¬ nI 1 = 0 := by decide
  refine ⟨hk.ok h.1, ⟨fun k hk => ?_, fun k hk => ?_, fun v hv hv0 => ?_, b4, b5, ?_⟩, ⟨fun k g1 g2 => ?_, fun k g1 g2 => ?_, fun v hv k g1 g2 => ?_⟩, ?_⟩
  · show 0 ≤ (eatL q.1 s o 1 k).toInt; rw [e1]; exact b1 k hk
  · show 0 ≤ (eatL q.1 s o 4 k).toInt; rw [e4]; exact b2 k hk
  · have hv : v < cmD (eatL q.1 s o) := hv
    have hv0 : eatL q.1 s o 5 v = 0 := hv0
    rw [ec] at hv
    rw [e5] at hv0
    show 0 < (wD (eatL q.1 s o) v).toInt
    by_cases e : v = s
    · rw [e, eatL_w hne, hww]; omega
    · rw [eatL_w' hne e]
      by_cases e' : v = o
      · rw [e', va_up_self] at hv0; exact absurd hv0 n1
      · rw [va_up_ne _ _ e'] at hv0; exact b3 v hv hv0
  · have eg : gT (eatL q.1 s o) = gT q.1 := by unfold gT; rw [e1]
    have ed : dT (eatL q.1 s o) = dT q.1 := by unfold dT; rw [e4]
    have el : lT (eatL q.1 s o) = lT q.1 := by
      have l1 : lT (up2 q.1 5 o (nI 1)) = lT q.1 - (wD q.1 o).toInt := by
        rw [lT_at (D := q.1) (D' := up2 q.1 5 o (nI 1)) (u0 := o) rfl ho (fun w _ hw => lpW_cg (va_up_ne _ _ hw) rfl), lpW_0 o0, lpW_1 (show ¬ up2 q.1 5 o (nI 1) 5 o = 0 by rw [up2_row, va_up_self]; exact n1)]
        omega
      have l2 : lT (eatL q.1 s o) = lT (up2 q.1 5 o (nI 1)) + (wD q.1 o).toInt := by
        rw [lT_at (D := up2 q.1 5 o (nI 1)) (D' := eatL q.1 s o) (u0 := s) (by rw [e0]; rfl) hs (fun w _ hw => lpW_cg (by rw [e5]; rfl) (eatL_w' hne hw)), lpW_0 (show eatL q.1 s o 5 s = 0 by rw [e5, va_up_ne _ _ hne]; exact s0), lpW_0 (show up2 q.1 5 o (nI 1) 5 s = 0 by rw [up2_row, va_up_ne _ _ hne]; exact s0), eatL_w hne, hww]
        have : wD (up2 q.1 5 o (nI 1)) s = wD q.1 s := rfl
        rw [this]
        omega
      rw [l2, l1]
      omega
    unfold tT at b6
    show gT (eatL q.1 s o) + dT (eatL q.1 s o) + lT (eatL q.1 s o) + q.2.1.toInt + q.2.2.toInt ≤ _
    rw [eg, ed, el]
    exact b6
  · have g1 : rgD (eatL q.1 s o) ≤ k := g1
    rw [er] at g1
    show eatL q.1 s o 1 k = 0
    rw [e1]; exact h.2.2.1.1 k g1 g2
  · have g1 : 5 * rgD (eatL q.1 s o) ≤ k := g1
    rw [er] at g1
    show eatL q.1 s o 4 k = 0
    rw [e4]; exact h.2.2.1.2.1 k g1 g2
  · have g1 : rgD (eatL q.1 s o) ≤ k := g1
    have hv : v < cmD (eatL q.1 s o) := hv
    rw [er] at g1
    rw [ec] at hv
    show eatL q.1 s o 11 (12 * v + k) = 0
    by_cases e : v = s
    · rw [e, (eatL_11 hne).1 k g2, h.2.2.1.2.2 s hs k g1 g2, h.2.2.1.2.2 o ho k g1 g2]; rfl
    · rw [(eatL_11 hne).2 _ (by omega)]; exact h.2.2.1.2.2 v hv k g1 g2
  · show 0 ≤ (eatL q.1 s o 0 3).toInt
    rw [e0]; exact h.2.2.2
theorem mtD_i {share : Int32} {q : QV} {s o : Nat} (h : iOk q) (hs : s < cmD q.1) (ho : o < cmD q.1) (hne : s ≠ o) (s0 : q.1 5 s = 0) (o0 : q.1 5 o = 0) : iOk ((mtD share (q.1, q.2.2) s o).1, q.2.1, (mtD share (q.1, q.2.2) s o).2) := by
  obtain ⟨w1, w2⟩ := wl_i h ho o0
  have le := h.2.1.le
  unfold mtD
  split
  · exact eatL_i h hs ho hne s0 o0
  · split
    · exact eatL_i h hs ho hne s0 o0
    · have e := fl_i (f := q.2.2) (w := wD q.1 o) h.2.1.2.2.2.2.1 le.2.2.2.2.1 (by omega) w2
      exact gone_t h ho o0 (by decide) _ _ h.2.1.2.2.2.1 (by show 0 ≤ (q.2.2 + (wD q.1 o).toInt64).toInt; rw [e]; have := h.2.1.2.2.2.2.1; omega) (by show _ + (q.2.2 + (wD q.1 o).toInt64).toInt = _; rw [e]; omega)
theorem mtAt_i {share : Int32} {q : QV} {f s : Nat} (h : iOk q) (hf : f < cmD q.1) (hs : s < cmD q.1) (hne : f ≠ s) (f0 : q.1 5 f = 0) (s0 : q.1 5 s = 0) : iOk ((mtAt share (q.1, q.2.2) f s).1, q.2.1, (mtAt share (q.1, q.2.2) f s).2) := by
  unfold mtAt
  split
  · exact mtD_i h hf hs hne f0 s0
  · exact mtD_i h hs hf (Ne.symm hne) s0 f0
/-- who stays is there, and all behind are as they were -/
theorem mt_st {share : Int32} {q : DV × Int64} {f s : Nat} (hne : f ≠ s) (f0 : q.1 5 f = 0) (s0 : q.1 5 s = 0) : (mtAt share q f s).1 5 (win q.1 f s) = 0 ∧ ∀ v, v ≠ f → v ≠ s → (mtAt share q f s).1 5 v = q.1 5 v := by
  unfold mtAt win
  split
  · obtain ⟨⟨z, hz, e⟩, -⟩ := mtD_56 (share := share) (q := q) (s := f) (o := s)
    rw [e]
    exact ⟨by rw [va_up_ne _ _ hne]; exact f0, fun v _ hv => va_up_ne _ _ hv⟩
  · obtain ⟨⟨z, hz, e⟩, -⟩ := mtD_56 (share := share) (q := q) (s := s) (o := f)
    rw [e]
    exact ⟨by rw [va_up_ne _ _ (Ne.symm hne)]; exact s0, fun v hv _ => va_up_ne _ _ hv⟩
theorem win_lt {f s n : Nat} (hf : f < n) (hs : s < n) : win D f s < n := by unfold win; split <;> assumption
theorem psN_i {share : Int32} {r n : Nat} : ∀ (c u : Nat) (st : Option Nat) (q : QV), u + c = n → n = cmD q.1 → (∀ f, st = some f → f < u ∧ q.1 5 f = 0) → iOk q → iOk ((psN share r c u st (q.1, q.2.2)).1, q.2.1, (psN share r c u st (q.1, q.2.2)).2) := by
  intro c
  induction c with
  | zero => intro u st q _ _ _ h; exact h
  | succ c ih =>
    intro u st q hu hn hst h
    rw [psN_s]
    split
    · rename_i hin
      cases st with
      | none => exact ih (u + 1) (some u) q (by omega) hn (fun f hf => by cases hf; exact ⟨by omega, hin.1⟩) h
      | some f =>
        obtain ⟨g1, g2⟩ := hst f rfl
        have m := mt_st (share := share) (q := (q.1, q.2.2)) (f := f) (s := u) (by omega) g2 hin.1
        refine ih (u + 1) (some (win q.1 f u)) ((mtAt share (q.1, q.2.2) f u).1, q.2.1, (mtAt share (q.1, q.2.2) f u).2) (by omega) ?_ (fun x hx => ?_) (mtAt_i h (by omega) (by omega) (by omega) g2 hin.1)
        · show n = cmD (mtAt share (q.1, q.2.2) f u).1
          rw [cmD_cg mtAt_kp.2.1]; exact hn
        · cases hx
          exact ⟨win_lt (by omega) (by omega), m.1⟩
    · exact ih (u + 1) st q (by omega) hn (fun f hf => ⟨by have := (hst f hf).1; omega, (hst f hf).2⟩) h
theorem msN_i {share : Int32} : ∀ (c r : Nat) (q : QV), iOk q → iOk ((msN share c r (q.1, q.2.2)).1, q.2.1, (msN share c r (q.1, q.2.2)).2) := by
  intro c
  induction c with
  | zero => intro r q h; exact h
  | succ c ih =>
    intro r q h
    exact ih (r + 1) ((psN share r (cmD q.1) 0 none (q.1, q.2.2)).1, q.2.1, (psN share r (cmD q.1) 0 none (q.1, q.2.2)).2) (psN_i (cmD q.1) 0 none q (Nat.zero_add _) rfl (fun f hf => by cases hf) h)
end SP6
