/-! the class's face: mark -/
section C25
variable {l : Launch} {S S' S2 : HS} {I I' I2 : HI} {J J' J2 : HJ} {z : SV} {la lb b x ci : Nat}
theorem arr_le {kd ln : Nat} (h : arrOf ci x = some (kd, ln)) : x ≤ 51 := by
  rcases Nat.lt_or_ge 51 x with g | g
  · exfalso
    unfold arrOf at h
    split at h <;> first | omega | (cases h; done)
  · exact g
/-- S' is as S but at the disk b, and in the row of marks -/
def outS (b : Nat) (S S' : HS) : Prop := ∀ a, (a < b ∨ b + 400 ≤ a) → S'.1 a = S.1 a ∧ S'.2.1 a = S.2.1 a ∧ (a ≠ 1103 → S'.2.2 a = S.2.2 a)
theorem Ob.out {a : Nat} (h : Ob S ci a) (ho : outS b S S') (ha : a + 52 < b ∨ b + 400 ≤ a) (h3 : a ≠ 1103) : Ob S' ci a := by
  refine ⟨by rw [(ho a (by omega)).1]; exact h.1, fun x kd ln hx => ?_⟩
  have hl := arr_le hx
  obtain ⟨g1, g2, g3⟩ := h.2 x kd ln hx
  obtain ⟨e1, e2, -⟩ := ho (a + 1 + x) (by omega)
  exact ⟨by rw [(ho a (by omega)).2.2 h3]; exact g1, by rw [e1]; exact g2, by rw [e2]; exact g3⟩
theorem Dk.out {c : Nat} (h : Dk S c) (ho : outS b S S') (hc : c + 400 ≤ b ∨ b + 400 ≤ c) (h5 : 1500 ≤ c) : Dk S' c := ⟨h.1.out ho (by omega) (by omega), fun x hx => ⟨(h.2 x hx).1.out ho (by omega) (by omega), by rw [(ho (c + 13) (by omega)).2.2 (by omega)]; exact (h.2 x hx).2⟩⟩
theorem SS.out (h : SS S la lb) (ho : outS b S S') (hb : 1900 ≤ b) (hb2 : b + 400 ≤ 4300) (hw : wfS S') : SS S' la lb := by
  obtain ⟨h1, h2, h3, h4, h5, h6, h7, h8, h9, h10, h11, -⟩ := h
  exact ⟨h1.out ho (by omega) (by omega), by rw [(ho 1100 (by omega)).2.2 (by omega)]; exact h2, h3.out ho (by omega) (by omega), by rw [(ho 1140 (by omega)).2.2 (by omega)]; exact h4, ⟨h5.1.out ho (by omega) (by omega), by rw [(ho 1130 (by omega)).2.2 (by omega)]; exact h5.2⟩, h6.out ho (by omega) (by omega), h7.out ho (by omega) (by omega), h8.out ho (by omega) (by omega), h9.out ho (by omega) (by omega), h10.out ho (by omega) (by omega), h11, hw⟩
/-- the mark k holds the disk -/
theorem CR.mk {k : Nat} (hO : OkC z) (hla : la = 1160 ∨ la = 1180) (hk : k < 6) (eb : b = 1900 + 400 * k) (h : CR la z S I J) (hq : CQ I' J' b z.1) (hI : ∀ a, ouK b a → I' a = I a) (hJ : ∀ a, (a < b ∨ b + 400 ≤ a) → J' a = J a) (ho : outS b S S') (hm : S'.2.2 1103 k = some b) (hn : ∀ m, m ≠ k → S'.2.2 1103 m = S.2.2 1103 m) (hd : Dk S' b) : CR la (z.1, va_up z.2.1 k (some z.1), z.2.2) S' I' J' := by
  obtain ⟨g1, g2, g3, g4, g5, g6, g7, g8⟩ := h
  have r : ∀ a, (a < b ∨ b + 400 ≤ a) → a ≠ 1146 → a ≠ 1147 → a ≠ 1148 → a ≠ 1172 → a ≠ 1192 → I' a = I a := fun a h0 h1 h2 h3 h4 h5 => hI a ⟨h0, h1, h2, h3, h4, h5⟩
  refine ⟨g1.same (fun a q1 q2 => r a (by omega) (by omega) (by omega) (by omega) (by omega) (by omega)) (hJ _ (by omega)) hO.1.1.1.2.2.2.2.1, fun m hm6 => ?_, g3.cg (fun x _ => by rw [r la (by omega) (by omega) (by omega) (by omega) (by omega) (by omega)]) (fun a q1 q2 => r a (by omega) (by omega) (by omega) (by omega) (by omega) (by omega)), by rw [r 1100 (by omega) (by omega) (by omega) (by omega) (by omega) (by omega)]; exact g4, by rw [r 1140 (by omega) (by omega) (by omega) (by omega) (by omega) (by omega)]; exact g5, by rw [r 1140 (by omega) (by omega) (by omega) (by omega) (by omega) (by omega)]; exact g6, ?_, ?_⟩
  · have hm2 := g2 m hm6
    show mkC (z.1, va_up z.2.1 k (some z.1), z.2.2) S' I' J' m
    unfold mkC at hm2 ⊢
    show (match va_up z.2.1 k (some z.1) m with | none => S'.2.2 1103 m = none ∧ ∀ a, 1900 + 400 * m ≤ a → a < 2300 + 400 * m → S'.1 a = 0 | some q => S'.2.2 1103 m = some (1900 + 400 * m) ∧ Dk S' (1900 + 400 * m) ∧ CQ I' J' (1900 + 400 * m) q)
    by_cases e : m = k
    · subst e
      rw [va_up_self]
      dsimp only
      rw [← eb]
      exact ⟨hm, hd, hq⟩
    · rw [va_up_ne _ _ e]
      cases hz : z.2.1 m with
      | none =>
        rw [hz] at hm2
        dsimp only at hm2 ⊢
        exact ⟨by rw [hn m e]; exact hm2.1, fun a q1 q2 => by rw [(ho a (by omega)).1]; exact hm2.2 a q1 q2⟩
      | some q2 =>
        rw [hz] at hm2
        dsimp only at hm2 ⊢
        exact ⟨by rw [hn m e]; exact hm2.1, hm2.2.1.out ho (by omega) (by omega), hm2.2.2.same (fun a q1 q2 => r a (by omega) (by omega) (by omega) (by omega) (by omega) (by omega)) (hJ _ (by omega)) (hO.2.1 m q2 hz).1.1.2.2.2.2.1⟩
  · show tpK I' z.2.2.2.1
    unfold tpK
    rw [r 1120 (by omega) (by omega) (by omega) (by omega) (by omega) (by omega), r 1122 (by omega) (by omega) (by omega) (by omega) (by omega) (by omega)]
    exact g7
  · show tdK I' z.2.2.2.2
    unfold tdK
    rw [r 1100 (by omega) (by omega) (by omega) (by omega) (by omega) (by omega), r 1110 (by omega) (by omega) (by omega) (by omega) (by omega) (by omega), r 1111 (by omega) (by omega) (by omega) (by omega) (by omega) (by omega)]
    exact g8
set_option maxRecDepth 100000 in
set_option maxHeartbeats 1000000 in
theorem f_mark (hR : ClsR z S I J) (hO : OkC z) (m g : Int32) : Mt l yX6_mark cX6_mark 4 (some .boolean) (rmc 4 66 739) (fun c => ¬ (1900 ≤ c ∧ c < 4300)) [.ref 1100, .int m, .int g] S I J (fun v S' I' J' => v = some (.int (bI (okMark z m g))) ∧ ClsR (nMark z m g) S' I' J') := by
  refine Mt.of (by decide) (fun ad => by simp [lg_sl, vv, Value.category]) (fun c hc => by show ¬ (1900 ≤ c ∧ c < 4300); omega) (fun X hX hN hF C => ?_)
  have hn : ∀ k, k < 4 → k < xn X := fun k hk => by rw [hN]; exact hk
  have hR0 := hR
  obtain ⟨la, lb, hS, hC⟩ := hR
  have hla : la = 1160 ∨ la = 1180 := by have := hS.2.2.2.2.2.2.2.2.2.2; omega
  obtain ⟨h1, ⟨r0, r1, r3, r4, r5, r6, r7⟩, hFF, -, -, -, -, -, h9, h10, -, hw⟩ := id hS
  have hK1 := h9.1
  generalize hPd : (fun (v : Option Value) (S' : HS) (I' : HI) (J' : HJ) => v = some (.int (bI (okMark z m g))) ∧ ClsR (nMark z m g) S' I' J') = P
  have hP : ∀ v S' I' J', v = some (.int (bI (okMark z m g))) ∧ ClsR (nMark z m g) S' I' J' → P v S' I' J' := fun v S' I' J' h => by rw [← hPd]; exact h
  have rest : wi m (nI 0) (nI 5) → V X P 0 0 11 [some (.ref 1100), some (.int m), some (.int g), none] [] S I J := by
    intro hm
    obtain ⟨k, hk, ek⟩ := wi_ex (by omega) hm
    have ec : cl m = k := by rw [ek]; exact nI_clamp (by omega)
    have hmk := hC.2.1 k (by omega)
    unfold mkC at hmk
    obtain ⟨B, hB⟩ : ∃ B, B = 1900 + 400 * k := ⟨_, rfl⟩
    refine V_aload_n C dX6_mark_11 rfl ?_
    refine V_getR C fl_X6_16 (ob_K h1) (ob_R h1 2 1103 rfl rfl) rfl dX6_mark_12 ?_
    refine V_iload_n C dX6_mark_15 rfl ?_
    cases hz : z.2.1 k with
    | none =>
      rw [hz] at hmk
      dsimp only at hmk
      refine V_aald C k (ob_A2 h1 2 1103 rfl rfl) ek (by rw [ob_N h1 2 1103 rfl rfl]; omega) (by rw [ob_N h1 2 1103 rfl rfl]; decide) hmk.1 dX6_mark_16 ?_
      refine V_astore_nN C dX6_mark_17 (hn _ (by decide)) ?_
      by_cases hg : g = 0
      · have ok : okMark z m g := ⟨hm, Or.inl hg⟩
        have en : nMark z m g = (z.1, va_up z.2.1 k (some z.1), z.2.2) := by rw [nMark, if_pos ok, if_pos hg, ec]
        have nF : ∀ c, B ≤ c → c < B + 400 → ¬ xF X c := fun c q1 q2 => by rw [hF]; exact fun q => q ⟨by omega, by omega⟩
        have hfr : ∀ a, B ≤ a → a < B + 400 → S.1 a = 0 := fun a q1 q2 => hmk.2 a (by omega) (by omega)
        have cl4 : ∀ c, c ≠ 1100 → ∀ v, some v ∈ [some (Value.ref 1100), some (.int m), some (.int g), some .null] → clo (fun d => d ≠ c) v := by
          intro c hc v hv
          rcases List.mem_cons.mp hv with e | e
          · rw [Option.some.inj e]; exact fun q => hc q.symm
          rcases List.mem_cons.mp e with e | e
          · rw [Option.some.inj e]; trivial
          rcases List.mem_cons.mp e with e | e
          · rw [Option.some.inj e]; trivial
          · rw [List.mem_singleton] at e; rw [Option.some.inj e]; trivial
        have last : ∀ (S3 : HS) (I3 : HI) (J3 : HJ), Dk S3 B → wfS S3 → outS B S S3 → S3.2.2 1103 k = some B → (∀ m, m ≠ k → S3.2.2 1103 m = S.2.2 1103 m) → (∀ a, ouK B a → I3 a = I a) → (∀ a, (a < B ∨ B + 400 ≤ a) → J3 a = J a) → V X P 66 739 57 [some (.ref 1100), some (.int m), some (.int g), some (.ref B)] [] S3 I3 J3 := by
          intro S3 I3 J3 d3 w3 o3 m3 n3 i3 j3
          have hS3 := hS.out o3 (by omega) (by omega) w3
          obtain ⟨k1, ⟨s0, -, -, -, -, -, -⟩, -, -, -, -, -, -, k9, -, -, -⟩ := id hS3
          have q3 : CQ I3 J3 1500 z.1 := hC.1.same (fun a q1 q2 => i3 a ⟨by omega, by omega, by omega, by omega, by omega, by omega⟩) (j3 _ (by omega)) hO.1.1.1.2.2.2.2.1
          refine V_aload_n C dX6_mark_57 rfl ?_
          refine V_aload_n C dX6_mark_58 rfl ?_
          refine V_getR C fl_X6_10 (ob_K k1) s0 rfl dX6_mark_59 ?_
          refine V_callV (F := fun _ => True) C (c_diskLike d3 k9 (by omega) q3 hO.1.1.1) mi_X1_becomeLike ml_X6_233 rfl (ob_K d3.1) (by decide) (by decide) (by decide) (Nat.le_of_ble_eq_true rfl) (fun _ _ => trivial) (fun v _ => clo_T v) rfl dX6_mark_62 ?_
          rintro v S' I4 J4 ⟨hS9, rfl, q4, f4, g4⟩
          obtain rfl := hS9.symm
          refine V_iconst C (v := nI 1) dX6_mark_65 rfl ?_
          refine V_zret C (Or.inr rfl) (by decide) (by decide) dX6_mark_66 (hP _ _ _ _ ⟨by rw [bI_t ok]; rfl, la, lb, hS3, ?_⟩)
          rw [en]
          exact hC.mk hO hla (by omega) hB q4 (fun a ha => (f4 a ha.1).trans (i3 a ha)) (fun a ha => (g4 a ha).trans (j3 a ha)) o3 m3 n3 d3
        refine V_iload_n C dX6_mark_18 rfl ?_
        refine V_if_eq C 38 dX6_mark_19 (by decide) (fun _ => ?_) (fun h => absurd hg h)
        refine V_aload_nN C dX6_mark_38 rfl ?_
        refine V_ifnonnullN C dX6_mark_39 ?_
        refine V_new C (ci := 1) B (by decide) ki_1.1 ki_1.2.1 ki_1.2.2 (hfr B (by omega) (by omega)) hw (nF B (by omega) (by omega)) (cl4 B (by omega)) (fun v hv => by cases hv) (by decide) (by decide) dX6_mark_42 ?_
        refine V_dup C dX6_mark_45 rfl ?_
        have sB : (nwS S B 2 0).1 B = 2 := va_up_self _ _ _
        have sF : ∀ a, B < a → a < B + 400 → (nwS S B 2 0).1 a = 0 := fun a q1 q2 => (va_up_ne _ _ (by omega)).trans (hfr a (by omega) q2)
        have zI : nwI I B B 1 = 0 ∧ nwI I B B 2 = 0 ∧ nwJ J B B 3 = 0 := by unfold nwI nwJ; rw [va_up_self, va_up_self]; exact ⟨rfl, rfl, rfl⟩
        refine V_callI (F := fun c => ¬ (B < c ∧ c < B + 400)) C (c_diskInit sB sF (hw.nw (by decide)) (by omega) (by omega) zI) mc_X1_init ml_X6_9 rfl (by decide) (by decide) (Nat.le_of_ble_eq_true rfl) (fun c hc q => nF c (by omega) (by omega) hc) (fun v hv => ?_) rfl dX6_mark_46 ?_
        · rcases hv with hv | hv
          · have hv : some v ∈ [some (Value.ref 1100), some (.int m), some (.int g), some .null] := hv
            rcases List.mem_cons.mp hv with e | e
            · rw [Option.some.inj e]; show ¬ (B < 1100 ∧ 1100 < B + 400); omega
            rcases List.mem_cons.mp e with e | e
            · rw [Option.some.inj e]; trivial
            rcases List.mem_cons.mp e with e | e
            · rw [Option.some.inj e]; trivial
            · rw [List.mem_singleton] at e; rw [Option.some.inj e]; trivial
          · rw [List.mem_singleton] at hv; rw [hv]; show ¬ (B < B ∧ B < B + 400); omega
        rintro v S2 I2 J2 ⟨rfl, d2, w2, m2, -⟩
        have o2 : outS B S S2 := fun a ha => by
          obtain ⟨e1, e2, e3, -, -⟩ := m2 a ha
          exact ⟨e1.trans (va_up_ne _ _ (by omega)), e2.trans (va_up_ne _ _ (by omega)), fun _ => e3.trans (va_up_ne _ _ (by omega))⟩
        have r2 : S2.2.2 1103 = S.2.2 1103 := by
          obtain ⟨e1, e2, e3, -, -⟩ := m2 1103 (by omega)
          exact e3.trans (va_up_ne _ _ (by omega))
        have k1 : Ob S2 6 1100 := h1.out o2 (by omega) (by omega)
        refine V_astore_n C dX6_mark_49 (hn _ (by decide)) ?_
        refine V_aload_n C dX6_mark_50 rfl ?_
        refine V_getR C fl_X6_16 (ob_K k1) (ob_R k1 2 1103 rfl rfl) rfl dX6_mark_51 ?_
        refine V_iload_n C dX6_mark_54 rfl ?_
        refine V_aload_n C dX6_mark_55 rfl ?_
        refine V_aast C (ci := 1) k (Or.inl ⟨ob_A k1 2 1103 rfl rfl, rfl⟩) (ob_K d2.1) ek (by rw [ob_N k1 2 1103 rfl rfl]; omega) (by rw [ob_N k1 2 1103 rfl rfl]; decide) dX6_mark_56 ?_
        have ho3 : outS B S (S2.1, S2.2.1, up2 S2.2.2 1103 k (some B)) := fun a ha => by
          obtain ⟨e1, e2, e3⟩ := o2 a ha
          exact ⟨e1, e2, fun h3 => (up2_ne _ _ _ h3).trans (e3 h3)⟩
        have hw3 : wfS (S2.1, S2.2.1, up2 S2.2.2 1103 k (some B)) := by
          intro a y c ha hy
          by_cases e : a = 1103 ∧ y = k
          · have hy : up2 S2.2.2 1103 k (some B) a y = some c := hy
            rw [e.1, e.2, up2_row, va_up_self] at hy
            show S2.1 c ≠ 0
            rw [← Option.some.inj hy, ob_K d2.1]
            omega
          · refine w2 a y c ha ?_
            rw [← hy]
            show _ = up2 S2.2.2 1103 k (some B) a y
            by_cases e1 : a = 1103
            · subst e1; rw [up2_row, va_up_ne _ _ (fun q => e ⟨rfl, q⟩)]
            · rw [up2_ne _ _ _ e1]
        have hd3 : Dk (S2.1, S2.2.1, up2 S2.2.2 1103 k (some B)) B := ⟨⟨d2.1.1, fun x kd ln hx => ⟨by show up2 S2.2.2 1103 k (some B) B x = _; rw [up2_ne _ _ _ (by omega)]; exact (d2.1.2 x kd ln hx).1, (d2.1.2 x kd ln hx).2⟩⟩, fun x hx => ⟨⟨(d2.2 x hx).1.1, fun y kd ln hy => ⟨by show up2 S2.2.2 1103 k (some B) (B + 20 + 10 * x) y = _; rw [up2_ne _ _ _ (by omega)]; exact ((d2.2 x hx).1.2 y kd ln hy).1, ((d2.2 x hx).1.2 y kd ln hy).2⟩⟩, by show up2 S2.2.2 1103 k (some B) (B + 13) x = _; rw [up2_ne _ _ _ (by omega)]; exact (d2.2 x hx).2⟩⟩
        exact last _ _ _ hd3 hw3 ho3 (by show up2 S2.2.2 1103 k (some B) 1103 k = _; rw [up2_row, va_up_self]) (fun m hm => by show up2 S2.2.2 1103 k (some B) 1103 m = _; rw [up2_row, va_up_ne _ _ hm, r2]) (fun a ha => ((m2 a ha.1).2.2.2.2 ha).trans (va_up_ne _ _ (by have := ha.1; omega))) (fun a ha => ((m2 a ha).2.2.2.1).trans (va_up_ne _ _ (by omega)))
      · have no : ¬ okMark z m g := fun q => q.2.elim hg (fun q => by rw [ec, hz] at q; cases q)
        refine V_iload_n C dX6_mark_18 rfl ?_
        refine V_if_eq C 38 dX6_mark_19 (by decide) (fun h => absurd h hg) (fun _ => ?_)
        refine V_aload_nN C dX6_mark_22 rfl ?_
        refine V_ifnonnullN C dX6_mark_23 ?_
        refine V_iconst C (v := nI 0) dX6_mark_26 rfl ?_
        exact V_zret C (Or.inl rfl) (by decide) (by decide) dX6_mark_27 (hP _ _ _ _ ⟨by rw [bI_f no]; rfl, by rw [nMark, if_neg no]; exact hR0⟩)
    | some q =>
      rw [hz] at hmk
      dsimp only at hmk
      rw [← hB] at hmk
      have hqO := hO.2.1 k q hz
      refine V_aald C k (ob_A2 h1 2 1103 rfl rfl) ek (by rw [ob_N h1 2 1103 rfl rfl]; omega) (by rw [ob_N h1 2 1103 rfl rfl]; decide) hmk.1 dX6_mark_16 ?_
      refine V_astore_n (x := B) C dX6_mark_17 (hn _ (by decide)) ?_
      have ok : okMark z m g := ⟨hm, Or.inr (by rw [ec, hz]; rfl)⟩
      by_cases hg : g = 0
      · have en : nMark z m g = (z.1, va_up z.2.1 k (some z.1), z.2.2) := by rw [nMark, if_pos ok, if_pos hg, ec]
        refine V_iload_n C dX6_mark_18 rfl ?_
        refine V_if_eq C 38 dX6_mark_19 (by decide) (fun _ => ?_) (fun h => absurd hg h)
        refine V_aload_n C dX6_mark_38 rfl ?_
        refine V_ifnonnull C 57 dX6_mark_39 (by decide) ?_
        refine V_aload_n C dX6_mark_57 rfl ?_
        refine V_aload_n C dX6_mark_58 rfl ?_
        refine V_getR C fl_X6_10 (ob_K h1) r0 rfl dX6_mark_59 ?_
        refine V_callV (F := fun _ => True) C (c_diskLike hmk.2.1 h9 (by omega) hC.1 hO.1.1.1) mi_X1_becomeLike ml_X6_233 rfl (ob_K hmk.2.1.1) (by decide) (by decide) (by decide) (Nat.le_of_ble_eq_true rfl) (fun _ _ => trivial) (fun v _ => clo_T v) rfl dX6_mark_62 ?_
        rintro v S' I4 J4 ⟨hS9, rfl, q4, f4, g4⟩
        obtain rfl := hS9.symm
        refine V_iconst C (v := nI 1) dX6_mark_65 rfl ?_
        refine V_zret C (Or.inr rfl) (by decide) (by decide) dX6_mark_66 (hP _ _ _ _ ⟨by rw [bI_t ok]; rfl, la, lb, hS, ?_⟩)
        rw [en]
        exact hC.mk hO hla (by omega) hB q4 (fun a ha => f4 a ha.1) g4 (fun a ha => ⟨rfl, rfl, fun _ => rfl⟩) hmk.1 (fun _ _ => rfl) hmk.2.1
      · have en : nMark z m g = setQ z q := by rw [nMark, if_pos ok, if_neg hg, ec, hz]; rfl
        refine V_iload_n C dX6_mark_18 rfl ?_
        refine V_if_eq C 38 dX6_mark_19 (by decide) (fun h => absurd h hg) (fun _ => ?_)
        refine V_aload_n C dX6_mark_22 rfl ?_
        refine V_ifnonnull C 28 dX6_mark_23 (by decide) ?_
        refine V_aload_n C dX6_mark_28 rfl ?_
        refine V_getR C fl_X6_10 (ob_K h1) r0 rfl dX6_mark_29 ?_
        refine V_aload_n C dX6_mark_32 rfl ?_
        refine V_callV (F := fun _ => True) C (c_diskLike h9 hmk.2.1 (by omega) hmk.2.2 hqO.1.1) mi_X1_becomeLike ml_X6_233 rfl (ob_K hK1) (by decide) (by decide) (by decide) (Nat.le_of_ble_eq_true rfl) (fun _ _ => trivial) (fun v _ => clo_T v) rfl dX6_mark_33 ?_
        rintro v S' I4 J4 ⟨hS9, rfl, q4, f4, g4⟩
        obtain rfl := hS9.symm
        refine V_iconst C (v := nI 1) dX6_mark_36 rfl ?_
        refine V_zret C (Or.inr rfl) (by decide) (by decide) dX6_mark_37 (hP _ _ _ _ ⟨by rw [bI_t ok]; rfl, la, lb, hS, ?_⟩)
        rw [en]
        exact hC.d hO hla q4 ⟨fun a ha => f4 a ha.1, g4⟩
  refine V_iload_n C dX6_mark_0 rfl ?_
  refine V_iconst C (v := nI 0) dX6_mark_1 (by decide +kernel) ?_
  refine V_iconst C (v := nI 5) dX6_mark_2 (by decide +kernel) ?_
  refine V_callS (F := fun _ => True) C (m_isW _ _ _) ms_X6_isWithin ml_X6_71 rfl (by decide) (by decide) (Nat.le_of_ble_eq_true rfl) (fun _ _ => trivial) (fun v _ => clo_T v) rfl dX6_mark_3 ?_
  rintro v S' I' J' ⟨hS9, rfl, hI9, hJ9⟩
  obtain rfl := hS9.symm
  obtain rfl := hI9.symm
  obtain rfl := hJ9.symm
  refine V_if_ne C 11 dX6_mark_6 (by decide) (fun h6 => ?_) (fun h6 => ?_)
  · exact rest (Decidable.not_not.mp (fun q => h6 (bI_0.mpr q)))
  · refine V_iconst C (v := nI 0) dX6_mark_9 (by decide +kernel) ?_
    exact V_zret C (by first | exact Or.inl rfl | exact Or.inr rfl | (simp only [bI]; split <;> first | exact Or.inl rfl | exact Or.inr rfl) | assumption) (Nat.zero_le _) (Nat.zero_le _) dX6_mark_10 (hP _ _ _ _ (by have no : ¬ okMark z m g := (fun q => bI_0.mp h6 q.1); exact ⟨by rw [bI_f no]; rfl, by rw [nMark, if_neg no]; exact hR0⟩))
end C25
