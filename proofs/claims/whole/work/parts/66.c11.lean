/-! the class's course: wander, meet, a step -/
section C11
variable {l : Launch} {S : HS} {I I' : HI} {J J' : HJ} {b la : Nat} {D : DV} {L : List Law} {e lk : Nat} {q : QV}
/-- one number of a lump has changed -/
theorem CQ.lf {u x c : Nat} {v : Int32} (h : CQ I J b q) (hu : u < cmD q.1) (hc : (x = 1 ∧ c = 6) ∨ (x = 4 ∧ c = 10) ∨ (x = 6 ∧ c = 8)) : CQ (up2 I (b + 20 + 10 * u) x v) J b (up2 q.1 c u v, q.2) := by
  obtain ⟨⟨w0, w1, w2, w3, w4, w5, w6⟩, w7⟩ := h.1.2.2.2 u hu
  obtain ⟨I2, hI2⟩ : ∃ I2, I2 = up2 I (b + 20 + 10 * u) x v := ⟨_, rfl⟩
  rw [← hI2]
  have eb : I2 b = I b := by rw [hI2, up2_ne _ _ _ (by omega)]
  have ea : I2 (b + 20 + 10 * u) = va_up (I (b + 20 + 10 * u)) x v := by rw [hI2, up2_row]
  have e8 : I2 (b + 20 + 10 * u + 8) = I (b + 20 + 10 * u + 8) := by rw [hI2, up2_ne _ _ _ (by omega)]
  refine h.of ?_ (by rw [eb]) (by rw [eb])
  have hD : ∀ d, d ≠ c → up2 q.1 c u v d = q.1 d := fun d hd => up2_ne _ _ _ hd
  have ew : wD (up2 q.1 c u v) u = wD q.1 u := wD_cg (hD 7 (by omega)) (hD 11 (by omega)) u
  refine h.1.lump (u0 := u) (fun a h1 _ _ => by rw [hI2, up2_ne _ _ _ h1]) (by rw [eb]; exact ⟨rfl, rfl, rfl, rfl⟩) (by rw [eb, thD_cg (by rw [hD 0 (by omega)]) (hD 5 (by omega))]; exact h.1.1.2.2.2.2.2) rfl (fun d hd => hD d (by omega)) (fun d h1 h2 w hw => ?_) (fun k hk => by rw [hD 11 (by omega)]) ⟨?_, fun k hk => by rw [e8, hD 11 (by omega)]; exact w7 k hk⟩
  · by_cases ed : d = c
    · subst ed; rw [up2_row, va_up_ne _ _ hw]
    · rw [hD d ed]
  · rw [ea, ew, hD 5 (by omega), hD 7 (by omega), hD 9 (by omega), va_up_ne _ _ (show 0 ≠ x by omega), va_up_ne _ _ (show 2 ≠ x by omega), va_up_ne _ _ (show 3 ≠ x by omega), va_up_ne _ _ (show 5 ≠ x by omega)]
    rcases hc with ⟨rfl, rfl⟩ | ⟨rfl, rfl⟩ | ⟨rfl, rfl⟩
    · exact ⟨w0, (by rw [up2_row, va_up_self, va_up_self]), w2, w3, w4, w5, w6⟩
    · exact ⟨w0, w1, w2, w3, (by rw [up2_row, va_up_self, va_up_self]), w5, w6⟩
    · exact ⟨w0, w1, w2, w3, w4, w5, (by rw [up2_row, va_up_self, va_up_self])⟩
/-- a lump is gone -/
theorem CD.gone {u : Nat} {v : Int32} (h : CD I J b D) (hu : u < cmD D) (h0 : D 5 u = 0) (hv : ¬ v = 0) : CD (up2 (up2 I (b + 20 + 10 * u) 0 v) b 7 (I b 7 - nI 1)) J b (up2 D 5 u v) := by
  obtain ⟨⟨w0, w1, w2, w3, w4, w5, w6⟩, w7⟩ := h.2.2.2 u hu
  obtain ⟨I2, hI2⟩ : ∃ I2, I2 = up2 (up2 I (b + 20 + 10 * u) 0 v) b 7 (I b 7 - nI 1) := ⟨_, rfl⟩
  rw [← hI2]
  have eb : I2 b = va_up (I b) 7 (I b 7 - nI 1) := by rw [hI2, up2_row, up2_ne _ _ _ (by omega)]
  have ea : I2 (b + 20 + 10 * u) = va_up (I (b + 20 + 10 * u)) 0 v := by rw [hI2, up2_ne _ _ _ (by omega), up2_row]
  have e8 : I2 (b + 20 + 10 * u + 8) = I (b + 20 + 10 * u + 8) := by rw [hI2, up2_ne _ _ _ (by omega), up2_ne _ _ _ (by omega)]
  refine h.lump (u0 := u) (fun a h1 _ h3 => by rw [hI2, up2_ne _ _ _ h3, up2_ne _ _ _ h1]) (by rw [eb]; exact ⟨rfl, rfl, rfl, rfl⟩) (by rw [eb, va_up_self, thD_up hu h0 hv, h.1.2.2.2.2.2]) rfl (fun d hd => up2_ne _ _ _ (by omega)) (fun d h1 h2 w hw => ?_) (fun k hk => rfl) ⟨?_, fun k hk => by rw [e8]; exact w7 k hk⟩
  · by_cases ed : d = 5
    · subst ed; rw [up2_row, va_up_ne _ _ hw]
    · rw [up2_ne _ _ _ ed]
  · rw [ea]
    exact ⟨by rw [va_up_self]; exact (va_up_self _ _ _).symm, w1, w2, w3, w4, w5, w6⟩
theorem toI64 {a : Int32} {f : Int64} (h : a.toInt64 = f) : a.toInt = f.toInt := by rw [← Int32.toInt_toInt64, h]
theorem sum64 {a w : Int32} {f : Int64} (h : a.toInt64 = f) (h1 : 0 ≤ f.toInt) (h2 : f.toInt ≤ 7200000) (h3 : 0 ≤ w.toInt) (h4 : w.toInt ≤ 7200000) : (a + w).toInt64 = f + w.toInt64 := by
  have e := toI64 h
  apply Int64.toInt_inj.mp
  rw [Int32.toInt_toInt64, i_add (by omega) (by omega), fl_i h1 h2 h3 h4, e]
set_option maxRecDepth 100000 in
set_option maxHeartbeats 2000000 in
theorem c_wander (hX : CoS S b la) (hG : cG I la L e lk) (hQ : CQ I J b q) (hi : iOk q) : Mn l yX0_wander cX0_wander 4 none 4 [.ref 1140] S I J (fun v I' J' => v = none ∧ CQ I' J b ((s5D (kcl L (nI e)) (q.1, q.2.1)).1, (s5D (kcl L (nI e)) (q.1, q.2.1)).2, q.2.2) ∧ FC b I J I' J ∧ J' = J) := by
  refine Mn.of (by decide) (fun ad => by simp [lg_sl, vv, Value.category]) (fun X P hP hn C => ?_)
  have hX' := hX
  obtain ⟨hF, hd0, hl1, hK, hL, hb, hla⟩ := hX
  have hK1 := hK.1
  obtain ⟨lw, hlw⟩ : ∃ lw, lw = kcl L (nI e) := ⟨_, rfl⟩
  have hlO : lwOk lw := by rw [hlw]; exact hG.2.2.2.2.2
  obtain ⟨n, hnn⟩ : ∃ n, n = cmD q.1 := ⟨_, rfl⟩
  have n30 : n ≤ 30 := by rw [hnn]; exact hi.1.2.2.2.2.1
  have outer : ∀ (c u : Nat) (Dc : DV) (fc : Int64) (Ic : HI) (x2 x3 : Option Value), u + c = n → cmD Dc = n → FC b I J Ic J → CQ Ic J b (Dc, fc, q.2.2) → iOk (Dc, fc, q.2.2) → wanN lw c u (Dc, fc) = wanN lw n 0 (q.1, q.2.1) → V X P 0 0 2 [some (.ref 1140), some (.int (nI u)), x2, x3] [] S Ic J := by
    intro c
    induction c with
    | zero =>
      intro u Dc fc Ic x2 x3 hu hc hf hq hio he
      have hu : u = n := hu
      have e6 : Ic b 6 = nI n := by rw [← hc]; exact hq.1.cm hio.1
      have he : (Dc, fc) = wanN lw n 0 (q.1, q.2.1) := he
      refine V_iload_n C dX0_wander_2 rfl ?_
      refine V_aload_n C dX0_wander_3 rfl ?_
      refine V_getR C fl_X0_12 (ob_K hF) hd0 rfl dX0_wander_4 ?_
      refine V_getI C fl_X0_137 (ob_K hK1) rfl dX0_wander_7 ?_
      refine V_icmp_ge C 106 dX0_wander_10 (by decide) (fun h10 => ?_) (fun h10 => absurd (by rw [e6, hu]; exact Int32.le_refl _) h10)
      exact V_vret C (Nat.zero_le _) (Nat.zero_le _) dX0_wander_106 (hP _ _ _ ⟨rfl, by unfold s5D; rw [← hlw, ← hnn, ← he]; exact hq, hf, rfl⟩)
    | succ c ih =>
      intro u Dc fc Ic x2 x3 hu hc hf hq hio he
      have e6 : Ic b 6 = nI n := by rw [← hc]; exact hq.1.cm hio.1
      have huc : u < cmD Dc := by omega
      obtain ⟨hLu, hRu⟩ := hK.2 u (by omega)
      have hlr := hq.1.2.2.2 u huc
      obtain ⟨⟨w0, w1, w2, w3, w4, w5, w6⟩, w7⟩ := hlr
      obtain ⟨s1, s2⟩ := hio.1.2.2.2.2.2 u huc
      have h12 := hio.1.2.2.1
      have s2 : rg Dc u < rgD Dc := s2
      have s1 : Dc 6 u = nI (rg Dc u) := s1
      have h12 : rgD Dc ≤ 12 := h12
      have hDc : rOk Dc := hio.1
      have hgc : gOk Dc := hio.ok.2
      have hGc := hG.fc hb hla hf
      have fin : ∀ (In : HI) (x2 x3 : Option Value), FC b Ic J In J → CQ In J b ((wanAt lw (Dc, fc) u).1, (wanAt lw (Dc, fc) u).2, q.2.2) → V X P 0 0 100 [some (.ref 1140), some (.int (nI u)), x2, x3] [] S In J := by
        intro In x2 x3 f2 q2
        have kw := wanAt_kw (lw := lw) (q := (Dc, fc)) (u := u) hDc hgc huc
        have nx := ih (u + 1) (wanAt lw (Dc, fc) u).1 (wanAt lw (Dc, fc) u).2 In x2 x3 (by omega) (by unfold cmD; rw [kw.1]; exact hc) (hf.tr f2) q2 (wanAt_i (q := (Dc, fc, q.2.2)) hio huc) he
        refine V_iincU C dX0_wander_100 rfl (hn _ (by decide)) ?_
        refine V_goto C 2 dX0_wander_103 (by decide) ?_
        exact nx
      by_cases h0 : Dc 5 u = 0
      · have after : ∀ (I1 : HI) (nv : Int32), Sk Ic I1 → nv = lw 6 (fLu Dc u) → V X P 0 0 41 [some (.ref 1140), some (.int (nI u)), some (.ref (b + 20 + 10 * u)), x3] [.int nv] S I1 J := by
          intro I1 nv sk hnv
          have q1 := hq.sk hb sk hio.1.2.2.2.2.1
          have ea : I1 (b + 20 + 10 * u) = Ic (b + 20 + 10 * u) := sk _ (by omega) (by omega) (by omega) (by omega) (by omega)
          by_cases hm : nv = -1
          · have same : wanAt lw (Dc, fc) u = (Dc, fc) := by unfold wanAt; rw [if_pos h0, if_pos (by rw [← hnv, hm]; decide)]
            refine V_istore_n C dX0_wander_41 (hn _ (by decide)) ?_
            refine V_iload_n C dX0_wander_42 rfl ?_
            refine V_iconst C (v := (-1)) dX0_wander_43 (by decide +kernel) ?_
            refine V_icmp_eq C 100 dX0_wander_44 (by decide) (fun h44 => ?_) (fun h44 => absurd (hm) h44)
            exact fin _ _ _ (sk.fc) (by rw [same]; exact q1)
          · have nn : ¬ lw 6 (fLu Dc u) < 0 := fun h => hm (by rw [hnv]; exact (hlO.n1 (by decide)).mp h)
            by_cases hlk : lockD Dc u = 0
            · obtain ⟨I2, hI2⟩ : ∃ I2, I2 = up2 I1 (b + 20 + 10 * u) 6 (Dc 8 u + nI 1) := ⟨_, rfl⟩
              have q2 : CQ I2 J b (up2 Dc 8 u (Dc 8 u + nI 1), fc, q.2.2) := by rw [hI2]; exact q1.lf huc (Or.inr (Or.inr ⟨rfl, rfl⟩))
              have e60 : I1 (b + 20 + 10 * u) 6 + nI 1 = Dc 8 u + nI 1 := by rw [ea, w6]
              have e69 : I2 (b + 20 + 10 * u) 6 = Dc 8 u + nI 1 := by rw [hI2, up2_row, va_up_self]
              by_cases hlt : Dc 8 u + nI 1 < nv
              · have ew : wanAt lw (Dc, fc) u = (up2 Dc 8 u (Dc 8 u + nI 1), fc) := by
                  unfold wanAt
                  rw [if_pos h0, if_neg nn, if_pos hlk, if_pos (by rw [← hnv]; exact hlt)]
                refine V_istore_n C dX0_wander_41 (hn _ (by decide)) ?_
                refine V_iload_n C dX0_wander_42 rfl ?_
                refine V_iconst C (v := (-1)) dX0_wander_43 (by decide +kernel) ?_
                refine V_icmp_eq C 100 dX0_wander_44 (by decide) (fun h44 => absurd h44 (hm)) (fun h44 => ?_)
                refine V_aload_n C dX0_wander_47 rfl ?_
                refine V_getR C fl_X0_12 (ob_K hF) hd0 rfl dX0_wander_48 ?_
                refine V_aload_n C dX0_wander_51 rfl ?_
                refine V_callV (F := fun _ => True) C (c_isLocked hK q1.1 hDc huc) mi_X1_isLocked ml_X0_174 rfl (ob_K hK1) (by decide) (by decide) (by decide) (Nat.le_of_ble_eq_true rfl) (fun _ _ => trivial) (fun v _ => clo_T v) rfl dX0_wander_52 ?_
                rintro v S' I' J' ⟨hS9, rfl, hI9, hJ9⟩
                obtain rfl := hS9.symm
                obtain rfl := hI9.symm
                obtain rfl := hJ9.symm
                refine V_if_ne C 100 dX0_wander_55 (by decide) (fun h55 => absurd (hlk) h55) (fun h55 => ?_)
                refine V_aload_n C dX0_wander_58 rfl ?_
                refine V_dup C dX0_wander_59 rfl ?_
                refine V_getI C fl_X0_178 (ob_K hLu) rfl dX0_wander_60 ?_
                refine V_iconst C (v := nI 1) dX0_wander_63 (by decide +kernel) ?_
                refine V_iadd C dX0_wander_64 ?_
                rw [e60]
                refine V_putI C fl_X0_178 (ob_K hLu) rfl rfl dX0_wander_65 ?_
                rw [← hI2]
                refine V_aload_n C dX0_wander_68 rfl ?_
                refine V_getI C fl_X0_178 (ob_K hLu) rfl dX0_wander_69 ?_
                refine V_iload_n C dX0_wander_72 rfl ?_
                refine V_icmp_lt C 100 dX0_wander_73 (by decide) (fun h73 => ?_) (fun h73 => absurd (by rw [e69]; exact hlt) h73)
                exact fin _ _ _ ((sk.fc).tr (by rw [hI2]; exact FC.up (by omega))) (by rw [ew]; exact q2)
              · obtain ⟨I3, hI3⟩ : ∃ I3, I3 = up2 I2 (b + 20 + 10 * u) 6 (nI 0) := ⟨_, rfl⟩
                have q3 : CQ I3 J b (up2 Dc 8 u (nI 0), fc, q.2.2) := by
                  have := q2.lf (u := u) (x := 6) (c := 8) (v := nI 0) huc (Or.inr (Or.inr ⟨rfl, rfl⟩))
                  rw [← hI3] at this
                  have e : up2 (up2 Dc 8 u (Dc 8 u + nI 1)) 8 u (nI 0) = up2 Dc 8 u (nI 0) := up2_up2 _ _ _ _ _
                  rw [show ((up2 Dc 8 u (Dc 8 u + nI 1), fc, q.2.2) : QV).1 = up2 Dc 8 u (Dc 8 u + nI 1) from rfl, e] at this
                  exact this
                have ew : wanAt lw (Dc, fc) u = goD (up2 Dc 8 u (nI 0), fc) u := by
                  unfold wanAt
                  rw [if_pos h0, if_neg nn, if_pos hlk, if_neg (by rw [← hnv]; exact hlt)]
                obtain ⟨D3, hD3⟩ : ∃ D3, D3 = up2 Dc 8 u (nI 0) := ⟨_, rfl⟩
                rw [← hD3] at q3 ew
                have i3 : iOk (D3, fc, q.2.2) := by rw [hD3]; exact up8_i hio
                have u3 : u < cmD D3 := by rw [hD3]; exact huc
                have g3 : rg D3 u = rg Dc u := by rw [hD3]; rfl
                have z3 : D3 5 u = 0 := by rw [hD3]; exact h0
                have er3 : I3 (b + 20 + 10 * u) 1 = nI (rg D3 u) := by
                  have := (q3.1.2.2.2 u u3).1.2.1
                  rw [this]
                  exact (i3.1.2.2.2.2.2 u u3).1
                have hr3 : rg D3 u < rgD D3 := (i3.1.2.2.2.2.2 u u3).2
                have h123 : rgD D3 ≤ 12 := i3.1.2.2.1
                have f3 : FC b I1 J I3 J := by rw [hI3, hI2]; exact (FC.up (by omega)).tr (FC.up (by omega))
                obtain ⟨v1, v2⟩ := wl_i i3 u3 z3
                have le := i3.2.1.le
                have last : ∀ I4, I4 = (if nI (rg D3 u) + wayD D3 (rg D3 u) = -1 then up2 (up2 (up2 I3 (b + 20 + 10 * u) 0 (nI 2)) b 7 (I3 b 7 - nI 1)) b 4 (I3 b 4 + I3 (b + 20 + 10 * u) 2) else up2 I3 (b + 20 + 10 * u) 1 (nI (rg D3 u) + wayD D3 (rg D3 u))) → CQ I4 J b ((goD (D3, fc) u).1, (goD (D3, fc) u).2, q.2.2) ∧ FC b I3 J I4 J := by
                  intro I4 h4
                  by_cases hneg : nI (rg D3 u) + wayD D3 (rg D3 u) = -1
                  · rw [if_pos hneg] at h4
                    have hno : ¬ 0 ≤ nI (rg D3 u) + wayD D3 (rg D3 u) := by rw [hneg]; decide
                    have eg : goD (D3, fc) u = (up2 D3 5 u (nI 2), fc + (wD D3 u).toInt64) := by unfold goD; rw [if_neg hno]
                    rw [eg, h4]
                    refine ⟨⟨(q3.1.gone u3 z3 (by decide)).oth (Or.inl rfl), ?_, ?_⟩, ((FC.up (by omega)).tr (FC.up (by omega))).tr (FC.up (by omega))⟩
                    · rw [up2_row, va_up_self, (q3.1.2.2.2 u u3).1.2.2.1]
                      exact sum64 q3.2.1 i3.2.1.2.2.2.1 le.2.2.2.1 (Int.le_of_lt v1) v2
                    · rw [up2_row, va_up_ne _ _ (by decide), up2_row, va_up_ne _ _ (by decide), up2_ne _ _ _ (by omega)]
                      exact q3.2.2
                  · rw [if_neg hneg] at h4
                    have hyes : 0 ≤ nI (rg D3 u) + wayD D3 (rg D3 u) := Decidable.not_not.mp (fun h => hneg ((to_neg (D := D3) (r := rg D3 u) (by omega)).mp h))
                    have eg : goD (D3, fc) u = (up2 D3 6 u (nI (toD D3 (rg D3 u))), fc) := by unfold goD; rw [if_pos hyes]
                    rw [(toD_ok i3.1 i3.ok.2 hr3 hyes).1] at h4
                    rw [eg, h4]
                    exact ⟨q3.lf u3 (Or.inl ⟨rfl, rfl⟩), FC.up (by omega)⟩
                refine V_istore_n C dX0_wander_41 (hn _ (by decide)) ?_
                refine V_iload_n C dX0_wander_42 rfl ?_
                refine V_iconst C (v := (-1)) dX0_wander_43 (by decide +kernel) ?_
                refine V_icmp_eq C 100 dX0_wander_44 (by decide) (fun h44 => absurd h44 (hm)) (fun h44 => ?_)
                refine V_aload_n C dX0_wander_47 rfl ?_
                refine V_getR C fl_X0_12 (ob_K hF) hd0 rfl dX0_wander_48 ?_
                refine V_aload_n C dX0_wander_51 rfl ?_
                refine V_callV (F := fun _ => True) C (c_isLocked hK q1.1 hDc huc) mi_X1_isLocked ml_X0_174 rfl (ob_K hK1) (by decide) (by decide) (by decide) (Nat.le_of_ble_eq_true rfl) (fun _ _ => trivial) (fun v _ => clo_T v) rfl dX0_wander_52 ?_
                rintro v S' I' J' ⟨hS9, rfl, hI9, hJ9⟩
                obtain rfl := hS9.symm
                obtain rfl := hI9.symm
                obtain rfl := hJ9.symm
                refine V_if_ne C 100 dX0_wander_55 (by decide) (fun h55 => absurd (hlk) h55) (fun h55 => ?_)
                refine V_aload_n C dX0_wander_58 rfl ?_
                refine V_dup C dX0_wander_59 rfl ?_
                refine V_getI C fl_X0_178 (ob_K hLu) rfl dX0_wander_60 ?_
                refine V_iconst C (v := nI 1) dX0_wander_63 (by decide +kernel) ?_
                refine V_iadd C dX0_wander_64 ?_
                rw [e60]
                refine V_putI C fl_X0_178 (ob_K hLu) rfl rfl dX0_wander_65 ?_
                rw [← hI2]
                refine V_aload_n C dX0_wander_68 rfl ?_
                refine V_getI C fl_X0_178 (ob_K hLu) rfl dX0_wander_69 ?_
                refine V_iload_n C dX0_wander_72 rfl ?_
                refine V_icmp_lt C 100 dX0_wander_73 (by decide) (fun h73 => absurd h73 (by rw [e69]; exact hlt)) (fun h73 => ?_)
                refine V_aload_n C dX0_wander_76 rfl ?_
                refine V_iconst C (v := nI 0) dX0_wander_77 (by decide +kernel) ?_
                refine V_putI C fl_X0_178 (ob_K hLu) rfl rfl dX0_wander_78 ?_
                rw [← hI3]
                refine V_aload_n C dX0_wander_81 rfl ?_
                refine V_getR C fl_X0_12 (ob_K hF) hd0 rfl dX0_wander_82 ?_
                refine V_aload_n C dX0_wander_85 rfl ?_
                refine V_aload_n C dX0_wander_86 rfl ?_
                refine V_getR C fl_X0_12 (ob_K hF) hd0 rfl dX0_wander_87 ?_
                refine V_aload_n C dX0_wander_90 rfl ?_
                refine V_getI C fl_X0_87 (ob_K hLu) rfl dX0_wander_91 ?_
                rw [er3]
                refine V_callV (F := fun _ => True) C (c_wayFrom hK q3.1 i3.1 hr3) mi_X1_wayFrom ml_X0_151 rfl (ob_K hK1) (by decide) (by decide) (by decide) (Nat.le_of_ble_eq_true rfl) (fun _ _ => trivial) (fun v _ => clo_T v) rfl dX0_wander_94 ?_
                rintro v S' I' J' ⟨hS9, rfl, hI9, hJ9⟩
                obtain rfl := hS9.symm
                obtain rfl := hI9.symm
                obtain rfl := hJ9.symm
                refine V_callV (F := fun _ => True) C (c_moveLump hK hLu (by omega) _) mi_X1_moveLump ml_X0_181 rfl (ob_K hK1) (by decide) (by decide) (by decide) (Nat.le_of_ble_eq_true rfl) (fun _ _ => trivial) (fun v _ => clo_T v) rfl dX0_wander_97 ?_
                rintro v S' I4 J4 ⟨hS9, rfl, h4, hJ9⟩
                obtain rfl := hS9.symm
                obtain rfl := hJ9.symm
                obtain ⟨l1, l2⟩ := last _ h4
                exact fin _ _ _ (((sk.fc).tr f3).tr l2) (by rw [ew]; exact l1)
            · have same : wanAt lw (Dc, fc) u = (Dc, fc) := by unfold wanAt; rw [if_pos h0, if_neg nn, if_neg hlk]
              refine V_istore_n C dX0_wander_41 (hn _ (by decide)) ?_
              refine V_iload_n C dX0_wander_42 rfl ?_
              refine V_iconst C (v := (-1)) dX0_wander_43 (by decide +kernel) ?_
              refine V_icmp_eq C 100 dX0_wander_44 (by decide) (fun h44 => absurd h44 (hm)) (fun h44 => ?_)
              refine V_aload_n C dX0_wander_47 rfl ?_
              refine V_getR C fl_X0_12 (ob_K hF) hd0 rfl dX0_wander_48 ?_
              refine V_aload_n C dX0_wander_51 rfl ?_
              refine V_callV (F := fun _ => True) C (c_isLocked hK q1.1 hDc huc) mi_X1_isLocked ml_X0_174 rfl (ob_K hK1) (by decide) (by decide) (by decide) (Nat.le_of_ble_eq_true rfl) (fun _ _ => trivial) (fun v _ => clo_T v) rfl dX0_wander_52 ?_
              rintro v S' I' J' ⟨hS9, rfl, hI9, hJ9⟩
              obtain rfl := hS9.symm
              obtain rfl := hI9.symm
              obtain rfl := hJ9.symm
              refine V_if_ne C 100 dX0_wander_55 (by decide) (fun h55 => ?_) (fun h55 => absurd h55 (hlk))
              exact fin _ _ _ (sk.fc) (by rw [same]; exact q1)
        refine V_iload_n C dX0_wander_2 rfl ?_
        refine V_aload_n C dX0_wander_3 rfl ?_
        refine V_getR C fl_X0_12 (ob_K hF) hd0 rfl dX0_wander_4 ?_
        refine V_getI C fl_X0_137 (ob_K hK1) rfl dX0_wander_7 ?_
        refine V_icmp_ge C 106 dX0_wander_10 (by decide) (fun h10 => absurd h10 (by rw [e6]; exact nI_ge (by omega) (by omega))) (fun h10 => ?_)
        refine V_aload_n C dX0_wander_13 rfl ?_
        refine V_getR C fl_X0_12 (ob_K hF) hd0 rfl dX0_wander_14 ?_
        refine V_getR C fl_X0_140 (ob_K hK1) (ob_R hK1 12 (b + 13) rfl rfl) rfl dX0_wander_17 ?_
        refine V_iload_n C dX0_wander_20 rfl ?_
        refine V_aald C (u) (ob_A2 hK1 12 (b + 13) rfl rfl) (by first | rfl | (simp only [nI_add, pk_mul]; done) | (simp only [nI_add, pk_mul]; congr 1; omega)) (by rw [ob_N hK1 12 (b + 13) rfl rfl]; omega) (by rw [ob_N hK1 12 (b + 13) rfl rfl]; decide) hRu dX0_wander_21 ?_
        refine V_astore_n C dX0_wander_22 (hn _ (by decide)) ?_
        refine V_aload_n C dX0_wander_23 rfl ?_
        refine V_getI C fl_X0_144 (ob_K hLu) rfl dX0_wander_24 ?_
        refine V_if_ne C 40 dX0_wander_27 (by decide) (fun h27 => absurd (w0.trans h0) h27) (fun h27 => ?_)
        refine V_aload_n C dX0_wander_30 rfl ?_
        refine V_bipush C (v := nI 6) dX0_wander_31 (by decide +kernel) ?_
        refine V_aload_n C dX0_wander_33 rfl ?_
        refine V_callV (F := fun _ => True) C (c_lawForLump hX' hGc hq.1 hio.1 (k := 6) (u := u) (by decide) huc) mi_X0_lawForLump ml_X0_147 rfl (ob_K hF) (by decide) (by decide) (by decide) (Nat.le_of_ble_eq_true rfl) (fun _ _ => trivial) (fun v _ => clo_T v) rfl dX0_wander_34 ?_
        rintro v S' I2 J2 ⟨hS9, rfl, sn, hJ9⟩
        obtain rfl := hS9.symm
        obtain rfl := hJ9.symm
        rw [← hlw]
        refine V_goto C 41 dX0_wander_37 (by decide) ?_
        exact after _ _ sn.k rfl
      · have same : wanAt lw (Dc, fc) u = (Dc, fc) := by unfold wanAt; rw [if_neg h0]
        refine V_iload_n C dX0_wander_2 rfl ?_
        refine V_aload_n C dX0_wander_3 rfl ?_
        refine V_getR C fl_X0_12 (ob_K hF) hd0 rfl dX0_wander_4 ?_
        refine V_getI C fl_X0_137 (ob_K hK1) rfl dX0_wander_7 ?_
        refine V_icmp_ge C 106 dX0_wander_10 (by decide) (fun h10 => absurd h10 (by rw [e6]; exact nI_ge (by omega) (by omega))) (fun h10 => ?_)
        refine V_aload_n C dX0_wander_13 rfl ?_
        refine V_getR C fl_X0_12 (ob_K hF) hd0 rfl dX0_wander_14 ?_
        refine V_getR C fl_X0_140 (ob_K hK1) (ob_R hK1 12 (b + 13) rfl rfl) rfl dX0_wander_17 ?_
        refine V_iload_n C dX0_wander_20 rfl ?_
        refine V_aald C (u) (ob_A2 hK1 12 (b + 13) rfl rfl) (by first | rfl | (simp only [nI_add, pk_mul]; done) | (simp only [nI_add, pk_mul]; congr 1; omega)) (by rw [ob_N hK1 12 (b + 13) rfl rfl]; omega) (by rw [ob_N hK1 12 (b + 13) rfl rfl]; decide) hRu dX0_wander_21 ?_
        refine V_astore_n C dX0_wander_22 (hn _ (by decide)) ?_
        refine V_aload_n C dX0_wander_23 rfl ?_
        refine V_getI C fl_X0_144 (ob_K hLu) rfl dX0_wander_24 ?_
        refine V_if_ne C 40 dX0_wander_27 (by decide) (fun h27 => ?_) (fun h27 => absurd h27 (by rw [w0]; exact h0))
        refine V_iconst C (v := (-1)) dX0_wander_40 (by decide +kernel) ?_
        refine V_istore_n C dX0_wander_41 (hn _ (by decide)) ?_
        refine V_iload_n C dX0_wander_42 rfl ?_
        refine V_iconst C (v := (-1)) dX0_wander_43 (by decide +kernel) ?_
        refine V_icmp_eq C 100 dX0_wander_44 (by decide) (fun h44 => ?_) (fun h44 => absurd (rfl) h44)
        exact fin _ _ _ FC.re (by rw [same]; exact hq)
  refine V_iconst C (v := nI 0) dX0_wander_0 (by decide +kernel) ?_
  refine V_istore_n C dX0_wander_1 (hn _ (by decide)) ?_
  exact outer n 0 q.1 q.2.1 I _ _ (Nat.zero_add _) hnn.symm FC.re hQ hi rfl
end C11
