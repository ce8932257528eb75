/-! the class's course: gaps, drift -/
section C8
variable {l : Launch} {S : HS} {I I' : HI} {J J' : HJ} {b la : Nat} {D : DV} {L : List Law} {e lk : Nat} {q : QV}
theorem gapN_no {lw : LW} (h : ∀ f, lw 7 f < 0) : ∀ n, gapN lw D n = gapN lw D 0 := by
  intro n
  induction n with
  | zero => rfl
  | succ n ih =>
    show gapAt lw D (gapN lw D n) n = _
    unfold gapAt
    split
    · rw [if_pos (h _), ih]
      funext x
      by_cases e : x = rg D n
      · subst e; rw [va_up_self]
      · rw [va_up_ne _ _ e]
    · exact ih
/-- the row of gaps is G -/
def gpR (I : HI) (G : Nat → Int32) : Prop := ∀ k, k < 12 → I 1148 k = G k
set_option maxRecDepth 100000 in
set_option maxHeartbeats 1000000 in
theorem c_findGaps (hX : CoS S b la) (hG : cG I la L e lk) (hC : CD I J b D) (hD : rOk D) : Mn l yX0_findGaps cX0_findGaps 4 none 4 [.ref 1140] S I J (fun v I' J' => v = none ∧ Sk I I' ∧ (nxI 2 0 L = -1 ∨ gpR I' (gapN (kcl L (nI e)) D (cmD D))) ∧ J' = J) := by
  refine Mn.of (by decide) (fun ad => by simp [lg_sl, vv, Value.category]) (fun X P hP hn C => ?_)
  have hX' := hX
  obtain ⟨hF, hd0, hl1, hK, hL, hb, hla⟩ := hX
  have hK1 := hK.1
  have h30 := hD.2.2.2.2.1
  have h12 := hD.2.2.1
  obtain ⟨lw, hlw⟩ : ∃ lw, lw = kcl L (nI e) := ⟨_, rfl⟩
  have hlO : lwOk lw := by rw [hlw]; exact hG.2.2.2.2.2
  have loop2 : ∀ (c x : Nat) (In : HI) (x2 x3 : Option Value), x + c = cmD D → Sk I In → gpR In (gapN lw D x) → V X P 0 0 47 [some (.ref 1140), some (.int (nI x)), x2, x3] [] S In J := by
    intro c
    induction c with
    | zero =>
      intro x In x2 x3 hx sk hg
      have hx : x = cmD D := hx
      have e6 : In b 6 = nI (cmD D) := by rw [sk b (by omega) (by omega) (by omega) (by omega) (by omega)]; exact hC.cm hD
      rw [hx] at hg
      refine V_iload_n C dX0_findGaps_47 rfl ?_
      refine V_aload_n C dX0_findGaps_48 rfl ?_
      refine V_getR C fl_X0_12 (ob_K hF) hd0 rfl dX0_findGaps_49 ?_
      refine V_getI C fl_X0_137 (ob_K hK1) rfl dX0_findGaps_52 ?_
      refine V_icmp_ge C 121 dX0_findGaps_55 (by decide) (fun h55 => ?_) (fun h55 => absurd (by rw [e6, hx]; exact Int32.le_refl _) h55)
      exact V_vret C (Nat.zero_le _) (Nat.zero_le _) dX0_findGaps_121 (hP _ _ _ ⟨rfl, sk, Or.inr (by rw [← hlw]; exact hg), rfl⟩)
    | succ c ih =>
      intro x In x2 x3 hx sk hg
      have cd := hC.sk hb sk h30
      have hGc := hG.fc hb hla (sk.fc (b := b) (J := J))
      have e6 : In b 6 = nI (cmD D) := cd.cm hD
      obtain ⟨hLx, hRx⟩ := hK.2 x (by omega)
      obtain ⟨⟨w0, w1, -⟩, -⟩ := cd.2.2.2 x (by omega)
      obtain ⟨s1, s2⟩ := hD.2.2.2.2.2 x (by omega)
      have nx := fun I2 (sk2 : Sk In I2) (h : gpR I2 (gapN lw D (x + 1))) x2 x3 => ih (x + 1) I2 x2 x3 (by omega) (sk.tr sk2) h
      have eg : gapN lw D (x + 1) = gapAt lw D (gapN lw D x) x := rfl
      by_cases h0 : D 5 x = 0
      · have after : ∀ (I2 : HI) (nv : Int32), Sk In I2 → I2 1148 = In 1148 → nv = lw 7 (fLu D x) → V X P 0 0 86 [some (.ref 1140), some (.int (nI x)), some (.ref (b + 20 + 10 * x)), x3] [.int nv] S I2 J := by
          intro I2 nv sk2 e48 hnv
          have hg2 : gpR I2 (gapN lw D x) := fun k hk => by rw [e48]; exact hg k hk
          have er : I2 (b + 20 + 10 * x) 1 = nI (rg D x) := by rw [sk2 _ (by omega) (by omega) (by omega) (by omega) (by omega)]; exact w1.trans s1
          have eg2 : gapAt lw D (gapN lw D x) x = va_up (gapN lw D x) (rg D x) (if nv < 0 then gapN lw D x (rg D x) else if gapN lw D x (rg D x) ≤ nv then gapN lw D x (rg D x) else nv) := by
            unfold gapAt; rw [if_pos h0, ← hnv]
          have keep : ∀ v, v = gapN lw D x (rg D x) → va_up (gapN lw D x) (rg D x) v = gapN lw D x := by
            intro v hv
            funext y
            by_cases ey : y = rg D x
            · subst ey; rw [va_up_self, hv]
            · rw [va_up_ne _ _ ey]
          have eG : I2 1148 (rg D x) = gapN lw D x (rg D x) := hg2 _ (by omega)
          by_cases hm : nv = -1
          · refine V_istore_n C dX0_findGaps_86 (hn _ (by decide)) ?_
            refine V_iload_n C dX0_findGaps_87 rfl ?_
            refine V_iconst C (v := (-1)) dX0_findGaps_88 (by decide +kernel) ?_
            refine V_icmp_eq C 115 dX0_findGaps_89 (by decide) (fun h89 => ?_) (fun h89 => absurd (hm) h89)
            refine V_iincU C dX0_findGaps_115 rfl (hn _ (by decide)) ?_
            refine V_goto C 47 dX0_findGaps_118 (by decide) ?_
            exact nx _ sk2 (by rw [eg, eg2, if_pos (by rw [hm]; decide), keep _ rfl]; exact hg2) _ _
          · have nn : ¬ nv < 0 := fun q => hm (by rw [hnv]; exact (hlO.n1 (by decide)).mp (by rw [← hnv]; exact q))
            by_cases hle : gapN lw D x (rg D x) ≤ nv
            · refine V_istore_n C dX0_findGaps_86 (hn _ (by decide)) ?_
              refine V_iload_n C dX0_findGaps_87 rfl ?_
              refine V_iconst C (v := (-1)) dX0_findGaps_88 (by decide +kernel) ?_
              refine V_icmp_eq C 115 dX0_findGaps_89 (by decide) (fun h89 => absurd h89 (hm)) (fun h89 => ?_)
              refine V_iload_n C dX0_findGaps_92 rfl ?_
              refine V_aload_n C dX0_findGaps_93 rfl ?_
              refine V_getR C fl_X0_36 (ob_K hF) (ob_R hF 7 1148 rfl rfl) rfl dX0_findGaps_94 ?_
              refine V_aload_n C dX0_findGaps_97 rfl ?_
              refine V_getI C fl_X0_87 (ob_K hLx) rfl dX0_findGaps_98 ?_
              refine V_iald C (rg D x) (ob_A hF 7 1148 rfl rfl) er (by rw [ob_N hF 7 1148 rfl rfl]; omega) (by rw [ob_N hF 7 1148 rfl rfl]; decide) dX0_findGaps_101 ?_
              refine V_icmp_ge C 115 dX0_findGaps_102 (by decide) (fun h102 => ?_) (fun h102 => absurd (by rw [eG]; exact hle) h102)
              refine V_iincU C dX0_findGaps_115 rfl (hn _ (by decide)) ?_
              refine V_goto C 47 dX0_findGaps_118 (by decide) ?_
              exact nx _ sk2 (by rw [eg, eg2, if_neg nn, if_pos hle, keep _ rfl]; exact hg2) _ _
            · have g3 : gpR (up2 I2 1148 (rg D x) nv) (gapN lw D (x + 1)) := by
                intro k hk
                rw [eg, eg2, if_neg nn, if_neg hle, up2_row]
                by_cases ek : k = rg D x
                · rw [ek, va_up_self, va_up_self]
                · rw [va_up_ne _ _ ek, va_up_ne _ _ ek]; exact hg2 k hk
              refine V_istore_n C dX0_findGaps_86 (hn _ (by decide)) ?_
              refine V_iload_n C dX0_findGaps_87 rfl ?_
              refine V_iconst C (v := (-1)) dX0_findGaps_88 (by decide +kernel) ?_
              refine V_icmp_eq C 115 dX0_findGaps_89 (by decide) (fun h89 => absurd h89 (hm)) (fun h89 => ?_)
              refine V_iload_n C dX0_findGaps_92 rfl ?_
              refine V_aload_n C dX0_findGaps_93 rfl ?_
              refine V_getR C fl_X0_36 (ob_K hF) (ob_R hF 7 1148 rfl rfl) rfl dX0_findGaps_94 ?_
              refine V_aload_n C dX0_findGaps_97 rfl ?_
              refine V_getI C fl_X0_87 (ob_K hLx) rfl dX0_findGaps_98 ?_
              refine V_iald C (rg D x) (ob_A hF 7 1148 rfl rfl) er (by rw [ob_N hF 7 1148 rfl rfl]; omega) (by rw [ob_N hF 7 1148 rfl rfl]; decide) dX0_findGaps_101 ?_
              refine V_icmp_ge C 115 dX0_findGaps_102 (by decide) (fun h102 => absurd h102 (by rw [eG]; exact hle)) (fun h102 => ?_)
              refine V_aload_n C dX0_findGaps_105 rfl ?_
              refine V_getR C fl_X0_36 (ob_K hF) (ob_R hF 7 1148 rfl rfl) rfl dX0_findGaps_106 ?_
              refine V_aload_n C dX0_findGaps_109 rfl ?_
              refine V_getI C fl_X0_87 (ob_K hLx) rfl dX0_findGaps_110 ?_
              refine V_iload_n C dX0_findGaps_113 rfl ?_
              refine V_iast C (rg D x) (ob_A hF 7 1148 rfl rfl) er (by rw [ob_N hF 7 1148 rfl rfl]; omega) (by rw [ob_N hF 7 1148 rfl rfl]; decide) dX0_findGaps_114 ?_
              refine V_iincU C dX0_findGaps_115 rfl (hn _ (by decide)) ?_
              refine V_goto C 47 dX0_findGaps_118 (by decide) ?_
              exact nx _ (sk2.tr (Sk.up (by omega))) g3 _ _
        refine V_iload_n C dX0_findGaps_47 rfl ?_
        refine V_aload_n C dX0_findGaps_48 rfl ?_
        refine V_getR C fl_X0_12 (ob_K hF) hd0 rfl dX0_findGaps_49 ?_
        refine V_getI C fl_X0_137 (ob_K hK1) rfl dX0_findGaps_52 ?_
        refine V_icmp_ge C 121 dX0_findGaps_55 (by decide) (fun h55 => absurd h55 (by rw [e6]; exact nI_ge (by omega) (by omega))) (fun h55 => ?_)
        refine V_aload_n C dX0_findGaps_58 rfl ?_
        refine V_getR C fl_X0_12 (ob_K hF) hd0 rfl dX0_findGaps_59 ?_
        refine V_getR C fl_X0_140 (ob_K hK1) (ob_R hK1 12 (b + 13) rfl rfl) rfl dX0_findGaps_62 ?_
        refine V_iload_n C dX0_findGaps_65 rfl ?_
        refine V_aald C (x) (ob_A2 hK1 12 (b + 13) rfl rfl) (by first | rfl | (simp only [nI_add, pk_mul]; done) | (simp only [nI_add, pk_mul]; congr 1; omega)) (by rw [ob_N hK1 12 (b + 13) rfl rfl]; omega) (by rw [ob_N hK1 12 (b + 13) rfl rfl]; decide) hRx dX0_findGaps_66 ?_
        refine V_astore_n C dX0_findGaps_67 (hn _ (by decide)) ?_
        refine V_aload_n C dX0_findGaps_68 rfl ?_
        refine V_getI C fl_X0_144 (ob_K hLx) rfl dX0_findGaps_69 ?_
        refine V_if_ne C 85 dX0_findGaps_72 (by decide) (fun h72 => absurd (w0.trans h0) h72) (fun h72 => ?_)
        refine V_aload_n C dX0_findGaps_75 rfl ?_
        refine V_bipush C (v := nI 7) dX0_findGaps_76 (by decide +kernel) ?_
        refine V_aload_n C dX0_findGaps_78 rfl ?_
        refine V_callV (F := fun _ => True) C (c_lawForLump hX' hGc cd hD (k := 7) (u := x) (by decide) (by omega)) mi_X0_lawForLump ml_X0_147 rfl (ob_K hF) (by decide) (by decide) (by decide) (Nat.le_of_ble_eq_true rfl) (fun _ _ => trivial) (fun v _ => clo_T v) rfl dX0_findGaps_79 ?_
        rintro v S' I2 J2 ⟨hS9, rfl, sn2, hJ9⟩
        have sk2 := sn2.k
        have e48 := sn2 1148 (by decide) (by decide) (by decide)
        obtain rfl := hS9.symm
        obtain rfl := hJ9.symm
        rw [← hlw]
        refine V_goto C 86 dX0_findGaps_82 (by decide) ?_
        exact after _ _ sk2 e48 rfl
      · have same : gapAt lw D (gapN lw D x) x = gapN lw D x := by unfold gapAt; rw [if_neg h0]
        refine V_iload_n C dX0_findGaps_47 rfl ?_
        refine V_aload_n C dX0_findGaps_48 rfl ?_
        refine V_getR C fl_X0_12 (ob_K hF) hd0 rfl dX0_findGaps_49 ?_
        refine V_getI C fl_X0_137 (ob_K hK1) rfl dX0_findGaps_52 ?_
        refine V_icmp_ge C 121 dX0_findGaps_55 (by decide) (fun h55 => absurd h55 (by rw [e6]; exact nI_ge (by omega) (by omega))) (fun h55 => ?_)
        refine V_aload_n C dX0_findGaps_58 rfl ?_
        refine V_getR C fl_X0_12 (ob_K hF) hd0 rfl dX0_findGaps_59 ?_
        refine V_getR C fl_X0_140 (ob_K hK1) (ob_R hK1 12 (b + 13) rfl rfl) rfl dX0_findGaps_62 ?_
        refine V_iload_n C dX0_findGaps_65 rfl ?_
        refine V_aald C (x) (ob_A2 hK1 12 (b + 13) rfl rfl) (by first | rfl | (simp only [nI_add, pk_mul]; done) | (simp only [nI_add, pk_mul]; congr 1; omega)) (by rw [ob_N hK1 12 (b + 13) rfl rfl]; omega) (by rw [ob_N hK1 12 (b + 13) rfl rfl]; decide) hRx dX0_findGaps_66 ?_
        refine V_astore_n C dX0_findGaps_67 (hn _ (by decide)) ?_
        refine V_aload_n C dX0_findGaps_68 rfl ?_
        refine V_getI C fl_X0_144 (ob_K hLx) rfl dX0_findGaps_69 ?_
        refine V_if_ne C 85 dX0_findGaps_72 (by decide) (fun h72 => ?_) (fun h72 => absurd h72 (by rw [w0]; exact h0))
        refine V_iconst C (v := (-1)) dX0_findGaps_85 (by decide +kernel) ?_
        refine V_istore_n C dX0_findGaps_86 (hn _ (by decide)) ?_
        refine V_iload_n C dX0_findGaps_87 rfl ?_
        refine V_iconst C (v := (-1)) dX0_findGaps_88 (by decide +kernel) ?_
        refine V_icmp_eq C 115 dX0_findGaps_89 (by decide) (fun h89 => ?_) (fun h89 => absurd (rfl) h89)
        refine V_iincU C dX0_findGaps_115 rfl (hn _ (by decide)) ?_
        refine V_goto C 47 dX0_findGaps_118 (by decide) ?_
        exact nx _ Sk.re (by rw [eg, same]; exact hg) _ _
  have mid : ∀ In, Sk I In → gpR In (fun _ => nI 5) → ∀ x1, V X P 0 0 21 [some (.ref 1140), x1, none, none] [] S In J := by
    intro In sk hg x1
    have hGc := hG.fc hb hla (sk.fc (b := b) (J := J))
    by_cases h7 : nxI 7 0 L = -1
    · have no7 : ∀ f, lw 7 f < 0 := fun f => by rw [hlw, show kcl L (nI e) 7 f = -1 from nxI_n L 0 (by have := hG.1.2.2.2.1; omega) h7]; decide
      refine V_aload_n C dX0_findGaps_21 rfl ?_
      refine V_getR C fl_X0_21 (ob_K hF) hl1 rfl dX0_findGaps_22 ?_
      refine V_bipush C (v := nI 7) dX0_findGaps_25 (by decide +kernel) ?_
      refine V_callV (F := fun _ => True) C (c_hasNone hL hGc.1 (k := 7) (by decide)) mi_X2_hasNone ml_X0_72 rfl (ob_K hL) (by decide) (by decide) (by decide) (Nat.le_of_ble_eq_true rfl) (fun _ _ => trivial) (fun v _ => clo_T v) rfl dX0_findGaps_27 ?_
      rintro v S' I' J' ⟨hS9, rfl, hI9, hJ9⟩
      obtain rfl := hS9.symm
      obtain rfl := hI9.symm
      obtain rfl := hJ9.symm
      refine V_if_ne C 44 dX0_findGaps_30 (by decide) (fun h30 => ?_) (fun h30 => absurd h30 (by rw [bI_0]; exact fun q => q h7))
      exact V_vret C (Nat.zero_le _) (Nat.zero_le _) dX0_findGaps_44 (hP _ _ _ ⟨rfl, sk, Or.inr (by rw [← hlw, gapN_no no7]; exact hg), rfl⟩)
    · by_cases h2 : nxI 2 0 L = -1
      · refine V_aload_n C dX0_findGaps_21 rfl ?_
        refine V_getR C fl_X0_21 (ob_K hF) hl1 rfl dX0_findGaps_22 ?_
        refine V_bipush C (v := nI 7) dX0_findGaps_25 (by decide +kernel) ?_
        refine V_callV (F := fun _ => True) C (c_hasNone hL hGc.1 (k := 7) (by decide)) mi_X2_hasNone ml_X0_72 rfl (ob_K hL) (by decide) (by decide) (by decide) (Nat.le_of_ble_eq_true rfl) (fun _ _ => trivial) (fun v _ => clo_T v) rfl dX0_findGaps_27 ?_
        rintro v S' I' J' ⟨hS9, rfl, hI9, hJ9⟩
        obtain rfl := hS9.symm
        obtain rfl := hI9.symm
        obtain rfl := hJ9.symm
        refine V_if_ne C 44 dX0_findGaps_30 (by decide) (fun h30 => absurd (bI_f h7) h30) (fun h30 => ?_)
        refine V_aload_n C dX0_findGaps_33 rfl ?_
        refine V_getR C fl_X0_21 (ob_K hF) hl1 rfl dX0_findGaps_34 ?_
        refine V_iconst C (v := nI 2) dX0_findGaps_37 (by decide +kernel) ?_
        refine V_callV (F := fun _ => True) C (c_hasNone hL hGc.1 (k := 2) (by decide)) mi_X2_hasNone ml_X0_72 rfl (ob_K hL) (by decide) (by decide) (by decide) (Nat.le_of_ble_eq_true rfl) (fun _ _ => trivial) (fun v _ => clo_T v) rfl dX0_findGaps_38 ?_
        rintro v S' I' J' ⟨hS9, rfl, hI9, hJ9⟩
        obtain rfl := hS9.symm
        obtain rfl := hI9.symm
        obtain rfl := hJ9.symm
        refine V_if_eq C 45 dX0_findGaps_41 (by decide) (fun h41 => absurd h41 (by rw [bI_0]; exact fun q => q h2)) (fun h41 => ?_)
        exact V_vret C (Nat.zero_le _) (Nat.zero_le _) dX0_findGaps_44 (hP _ _ _ ⟨rfl, sk, Or.inl h2, rfl⟩)
      · refine V_aload_n C dX0_findGaps_21 rfl ?_
        refine V_getR C fl_X0_21 (ob_K hF) hl1 rfl dX0_findGaps_22 ?_
        refine V_bipush C (v := nI 7) dX0_findGaps_25 (by decide +kernel) ?_
        refine V_callV (F := fun _ => True) C (c_hasNone hL hGc.1 (k := 7) (by decide)) mi_X2_hasNone ml_X0_72 rfl (ob_K hL) (by decide) (by decide) (by decide) (Nat.le_of_ble_eq_true rfl) (fun _ _ => trivial) (fun v _ => clo_T v) rfl dX0_findGaps_27 ?_
        rintro v S' I' J' ⟨hS9, rfl, hI9, hJ9⟩
        obtain rfl := hS9.symm
        obtain rfl := hI9.symm
        obtain rfl := hJ9.symm
        refine V_if_ne C 44 dX0_findGaps_30 (by decide) (fun h30 => absurd (bI_f h7) h30) (fun h30 => ?_)
        refine V_aload_n C dX0_findGaps_33 rfl ?_
        refine V_getR C fl_X0_21 (ob_K hF) hl1 rfl dX0_findGaps_34 ?_
        refine V_iconst C (v := nI 2) dX0_findGaps_37 (by decide +kernel) ?_
        refine V_callV (F := fun _ => True) C (c_hasNone hL hGc.1 (k := 2) (by decide)) mi_X2_hasNone ml_X0_72 rfl (ob_K hL) (by decide) (by decide) (by decide) (Nat.le_of_ble_eq_true rfl) (fun _ _ => trivial) (fun v _ => clo_T v) rfl dX0_findGaps_38 ?_
        rintro v S' I' J' ⟨hS9, rfl, hI9, hJ9⟩
        obtain rfl := hS9.symm
        obtain rfl := hI9.symm
        obtain rfl := hJ9.symm
        refine V_if_eq C 45 dX0_findGaps_41 (by decide) (fun h41 => ?_) (fun h41 => absurd (bI_f h2) h41)
        refine V_iconst C (v := nI 0) dX0_findGaps_45 (by decide +kernel) ?_
        refine V_istore_n C dX0_findGaps_46 (hn _ (by decide)) ?_
        exact loop2 _ 0 _ _ _ (Nat.zero_add _) sk hg
  have loop1 : ∀ (c x : Nat) (In : HI), x + c = 12 → Sk I In → (∀ k, k < x → In 1148 k = nI 5) → V X P 0 0 2 [some (.ref 1140), some (.int (nI x)), none, none] [] S In J := by
    intro c
    induction c with
    | zero =>
      intro x In hx sk hg
      have hx : x = 12 := hx
      subst hx
      refine V_iload_n C dX0_findGaps_2 rfl ?_
      refine V_bipush C (v := nI 12) dX0_findGaps_3 (by decide +kernel) ?_
      refine V_icmp_ge C 21 dX0_findGaps_5 (by decide) (fun h5 => ?_) (fun h5 => absurd (by decide) h5)
      exact mid _ sk hg _
    | succ c ih =>
      intro x In hx sk hg
      have nx := ih (x + 1) (up2 In 1148 x (nI 5)) (by omega) (sk.tr (Sk.up (by omega))) (fun k hk => by
        rw [up2_row]
        by_cases ek : k = x
        · rw [ek, va_up_self]
        · rw [va_up_ne _ _ ek]; exact hg k (by omega))
      refine V_iload_n C dX0_findGaps_2 rfl ?_
      refine V_bipush C (v := nI 12) dX0_findGaps_3 (by decide +kernel) ?_
      refine V_icmp_ge C 21 dX0_findGaps_5 (by decide) (fun h5 => absurd h5 (nI_ge (by omega) (by omega))) (fun h5 => ?_)
      refine V_aload_n C dX0_findGaps_8 rfl ?_
      refine V_getR C fl_X0_36 (ob_K hF) (ob_R hF 7 1148 rfl rfl) rfl dX0_findGaps_9 ?_
      refine V_iload_n C dX0_findGaps_12 rfl ?_
      refine V_iconst C (v := nI 5) dX0_findGaps_13 (by decide +kernel) ?_
      refine V_iast C (x) (ob_A hF 7 1148 rfl rfl) (by first | rfl | (simp only [nI_add, pk_mul]; done) | (simp only [nI_add, pk_mul]; congr 1; omega)) (by rw [ob_N hF 7 1148 rfl rfl]; omega) (by rw [ob_N hF 7 1148 rfl rfl]; decide) dX0_findGaps_14 ?_
      refine V_iincU C dX0_findGaps_15 rfl (hn _ (by decide)) ?_
      refine V_goto C 2 dX0_findGaps_18 (by decide) ?_
      exact nx
  refine V_iconst C (v := nI 0) dX0_findGaps_0 (by decide +kernel) ?_
  refine V_istore_n C dX0_findGaps_1 (hn _ (by decide)) ?_
  exact loop1 12 0 _ rfl Sk.re (fun k hk => absurd hk (Nat.not_lt_zero _))
theorem to_neg {r : Nat} (hr : r < 12) : (¬ 0 ≤ nI r + wayD D r) ↔ nI r + wayD D r = -1 := by
  constructor
  · intro h
    rcases wayD_cases D r with w | w | w
    · rw [w, nI_1] at h; exact absurd (nI_pos' (by omega)) h
    · rw [w, Int32.add_zero] at h; exact absurd (nI_pos' (by omega)) h
    · cases r with
      | zero => rw [w]; decide
      | succ r => rw [w, pk_m1] at h; exact absurd (nI_pos' (by omega)) h
  · intro h; rw [h]; decide
set_option maxRecDepth 100000 in
set_option maxHeartbeats 1000000 in
theorem c_leave (hX : CoS S b la) {D0 Dc : DV} {f0 : Int} {fc t : Int64} {lv : Nat → Nat → Int32} {r : Nat} (hD : rOk D0) (hg : gOk D0) (ht : dT D0 + f0 ≤ 7200000) (hr : r < rgD D0) (hl : ∀ s, s < 5 → 0 ≤ (lv r s).toInt ∧ (lv r s).toInt ≤ (D0 4 (5 * r + s)).toInt) (hdi : dI D0 f0 (5 * r) (Dc, fc)) (hQ : CQ I J b (Dc, fc, t)) (hlv : ∀ s, s < 5 → I 1147 (5 * r + s) = lv r s) : Mn l yX0_leave cX0_leave 5 none 0 [.ref 1140, .int (nI r), .int (nI r + wayD D0 r)] S I J (fun v I' J' => v = none ∧ CQ I' J b ((drR D0 lv r 5 0 (Dc, fc)).1, (drR D0 lv r 5 0 (Dc, fc)).2, t) ∧ FC b I J I' J ∧ I' 1147 = I 1147 ∧ J' = J) := by
  refine Mn.of (by decide) (fun ad => by simp [lg_sl, vv, Value.category]) (fun X P hP hn C => ?_)
  obtain ⟨hF, hd0, hl1, hK, hL, hb, hla⟩ := hX
  have hK1 := hK.1
  have h12 := hD.2.2.1
  have loop : ∀ (c s : Nat) (p : DV × Int64) (In : HI) (x4 : Option Value), s + c = 5 → dI D0 f0 (5 * r + s) p → CQ In J b (p.1, p.2, t) → FC b I J In J → In 1147 = I 1147 → drR D0 lv r c s p = drR D0 lv r 5 0 (Dc, fc) → V X P 0 0 2 [some (.ref 1140), some (.int (nI r)), some (.int (nI r + wayD D0 r)), some (.int (nI s)), x4] [] S In J := by
    intro c
    induction c with
    | zero =>
      intro s p In x4 hs hd hq hf e47 he
      have hs : s = 5 := hs
      subst hs
      have he : p = drR D0 lv r 5 0 (Dc, fc) := he
      refine V_iload_n C dX0_leave_2 rfl ?_
      refine V_iconst C (v := nI 5) dX0_leave_3 (by decide +kernel) ?_
      refine V_icmp_ge C 83 dX0_leave_4 (by decide) (fun h4 => ?_) (fun h4 => absurd (by decide) h4)
      exact V_vret C (Nat.zero_le _) (Nat.zero_le _) dX0_leave_83 (hP _ _ _ ⟨rfl, by rw [← he]; exact hq, hf, e47, rfl⟩)
    | succ c ih =>
      intro s p In x4 hs hd hq hf e47 he
      have eidx : nI r * nI 5 + nI s = nI (5 * r + s) := by rw [pk_mul, nI_add, Nat.mul_comm]
      have hk : 5 * r + s < 60 := by omega
      have hd2 := drAt_i (s := s) hD hg ht hr (by omega) (hl s (by omega)) hd
      have e16 : In 1147 (5 * r + s) = lv r s := by rw [e47]; exact hlv s (by omega)
      have nx := fun In x4 q f e47 => ih (s + 1) (drAt D0 lv r s p) In x4 (by omega) hd2 q f e47 he
      have b47 : (1147 : Nat) ≠ b + 12 := by omega
      have b47' : (1147 : Nat) ≠ b := by omega
      by_cases hw : 0 ≤ nI r + wayD D0 r
      · obtain ⟨t1, t2⟩ := toD_ok hD hg hr hw
        have ed : drAt D0 lv r s p = (mvD p.1 (5 * r + s) (5 * toD D0 r + s) (lv r s), p.2) := by unfold drAt; rw [if_pos hw]
        have eto : (nI r + wayD D0 r) * nI 5 + nI s = nI (5 * toD D0 r + s) := by rw [t1, pk_mul, nI_add, Nat.mul_comm]
        have q3 := hq.mv (k := 5 * r + s) (k2 := 5 * toD D0 r + s) (p := lv r s) hk (by omega)
        rw [ed] at nx
        refine V_iload_n C dX0_leave_2 rfl ?_
        refine V_iconst C (v := nI 5) dX0_leave_3 (by decide +kernel) ?_
        refine V_icmp_ge C 83 dX0_leave_4 (by decide) (fun h4 => absurd h4 (nI_ge (by omega) (by omega))) (fun h4 => ?_)
        refine V_aload_n C dX0_leave_7 rfl ?_
        refine V_getR C fl_X0_33 (ob_K hF) (ob_R hF 6 1147 rfl rfl) rfl dX0_leave_8 ?_
        refine V_iload_n C dX0_leave_11 rfl ?_
        refine V_iconst C (v := nI 5) dX0_leave_12 (by decide +kernel) ?_
        refine V_imul C dX0_leave_13 ?_
        refine V_iload_n C dX0_leave_14 rfl ?_
        refine V_iadd C dX0_leave_15 ?_
        refine V_iald C (5 * r + s) (ob_A hF 6 1147 rfl rfl) eidx (by rw [ob_N hF 6 1147 rfl rfl]; omega) (by rw [ob_N hF 6 1147 rfl rfl]; decide) dX0_leave_16 ?_
        rw [e16]
        refine V_istore C dX0_leave_17 (hn _ (by decide)) ?_
        refine V_aload_n C dX0_leave_19 rfl ?_
        refine V_getR C fl_X0_12 (ob_K hF) hd0 rfl dX0_leave_20 ?_
        refine V_getR C fl_X0_80 (ob_K hK1) (ob_R hK1 11 (b + 12) rfl rfl) rfl dX0_leave_23 ?_
        refine V_iload_n C dX0_leave_26 rfl ?_
        refine V_iconst C (v := nI 5) dX0_leave_27 (by decide +kernel) ?_
        refine V_imul C dX0_leave_28 ?_
        refine V_iload_n C dX0_leave_29 rfl ?_
        refine V_iadd C dX0_leave_30 ?_
        refine V_dup2 C dX0_leave_31 rfl rfl ?_
        refine V_iald C (5 * r + s) (ob_A hK1 11 (b + 12) rfl rfl) eidx (by rw [ob_N hK1 11 (b + 12) rfl rfl]; omega) (by rw [ob_N hK1 11 (b + 12) rfl rfl]; decide) dX0_leave_32 ?_
        refine V_iload C dX0_leave_33 rfl ?_
        refine V_isub C dX0_leave_35 ?_
        refine V_iast C (5 * r + s) (ob_A hK1 11 (b + 12) rfl rfl) eidx (by rw [ob_N hK1 11 (b + 12) rfl rfl]; omega) (by rw [ob_N hK1 11 (b + 12) rfl rfl]; decide) dX0_leave_36 ?_
        refine V_iload_n C dX0_leave_37 rfl ?_
        refine V_iconst C (v := (-1)) dX0_leave_38 (by decide +kernel) ?_
        refine V_icmp_ne C 59 dX0_leave_39 (by decide) (fun h39 => ?_) (fun h39 => absurd h39 (fun q => (to_neg (D := D0) (r := r) (by omega)).mpr q hw))
        refine V_aload_n C dX0_leave_59 rfl ?_
        refine V_getR C fl_X0_12 (ob_K hF) hd0 rfl dX0_leave_60 ?_
        refine V_getR C fl_X0_80 (ob_K hK1) (ob_R hK1 11 (b + 12) rfl rfl) rfl dX0_leave_63 ?_
        refine V_iload_n C dX0_leave_66 rfl ?_
        refine V_iconst C (v := nI 5) dX0_leave_67 (by decide +kernel) ?_
        refine V_imul C dX0_leave_68 ?_
        refine V_iload_n C dX0_leave_69 rfl ?_
        refine V_iadd C dX0_leave_70 ?_
        refine V_dup2 C dX0_leave_71 rfl rfl ?_
        refine V_iald C (5 * toD D0 r + s) (ob_A hK1 11 (b + 12) rfl rfl) eto (by rw [ob_N hK1 11 (b + 12) rfl rfl]; omega) (by rw [ob_N hK1 11 (b + 12) rfl rfl]; decide) dX0_leave_72 ?_
        refine V_iload C dX0_leave_73 rfl ?_
        refine V_iadd C dX0_leave_75 ?_
        refine V_iast C (5 * toD D0 r + s) (ob_A hK1 11 (b + 12) rfl rfl) eto (by rw [ob_N hK1 11 (b + 12) rfl rfl]; omega) (by rw [ob_N hK1 11 (b + 12) rfl rfl]; decide) dX0_leave_76 ?_
        refine V_iincU C dX0_leave_77 rfl (hn _ (by decide)) ?_
        refine V_goto C 2 dX0_leave_80 (by decide) ?_
        exact nx _ _ q3 (hf.tr FC.mv) (by rw [up2_ne _ _ _ b47, up2_ne _ _ _ b47]; exact e47)
      · have em := (to_neg (D := D0) (r := r) (by omega)).mp hw
        have ed : drAt D0 lv r s p = (up2 p.1 4 (5 * r + s) (p.1 4 (5 * r + s) - lv r s), p.2 + (lv r s).toInt64) := by unfold drAt; rw [if_neg hw]
        obtain ⟨le1, le2⟩ := hd.le ht
        have hls := hl s (by omega)
        have h0f := hd.2.2.2.1
        have hD0 := hd.2.2.1 (5 * r + s) (Nat.le_refl _) hk
        have hlm := (le1 (5 * r + s) hk).2
        have e4 : In (b + 12) (5 * r + s) = p.1 4 (5 * r + s) := hq.1.2.2.1 _ hk
        have hf4 : (In b 4).toInt = p.2.toInt := by rw [← Int32.toInt_toInt64]; exact congrArg Int64.toInt hq.2.1
        have hsum : (In b 4 + lv r s).toInt64 = p.2 + (lv r s).toInt64 := by
          apply Int64.toInt_inj.mp
          rw [Int32.toInt_toInt64, i_add (by omega) (by omega), l_add (by rw [Int32.toInt_toInt64]; omega) (by rw [Int32.toInt_toInt64]; omega), Int32.toInt_toInt64, hf4]
        rw [ed] at nx
        have q3 : CQ (up2 (up2 In (b + 12) (5 * r + s) (p.1 4 (5 * r + s) - lv r s)) b 4 (In b 4 + lv r s)) J b (up2 p.1 4 (5 * r + s) (p.1 4 (5 * r + s) - lv r s), p.2 + (lv r s).toInt64, t) := by
          refine ⟨(hq.1.dust).oth (Or.inl rfl), ?_, ?_⟩
          · rw [up2_row, va_up_self]; exact hsum
          · rw [up2_row, va_up_ne _ _ (by decide), up2_ne _ _ _ (by omega)]; exact hq.2.2
        have e47b : up2 In (b + 12) (5 * r + s) (p.1 4 (5 * r + s) - lv r s) b 4 = In b 4 := by rw [up2_ne _ _ _ (by omega)]
        refine V_iload_n C dX0_leave_2 rfl ?_
        refine V_iconst C (v := nI 5) dX0_leave_3 (by decide +kernel) ?_
        refine V_icmp_ge C 83 dX0_leave_4 (by decide) (fun h4 => absurd h4 (nI_ge (by omega) (by omega))) (fun h4 => ?_)
        refine V_aload_n C dX0_leave_7 rfl ?_
        refine V_getR C fl_X0_33 (ob_K hF) (ob_R hF 6 1147 rfl rfl) rfl dX0_leave_8 ?_
        refine V_iload_n C dX0_leave_11 rfl ?_
        refine V_iconst C (v := nI 5) dX0_leave_12 (by decide +kernel) ?_
        refine V_imul C dX0_leave_13 ?_
        refine V_iload_n C dX0_leave_14 rfl ?_
        refine V_iadd C dX0_leave_15 ?_
        refine V_iald C (5 * r + s) (ob_A hF 6 1147 rfl rfl) eidx (by rw [ob_N hF 6 1147 rfl rfl]; omega) (by rw [ob_N hF 6 1147 rfl rfl]; decide) dX0_leave_16 ?_
        rw [e16]
        refine V_istore C dX0_leave_17 (hn _ (by decide)) ?_
        refine V_aload_n C dX0_leave_19 rfl ?_
        refine V_getR C fl_X0_12 (ob_K hF) hd0 rfl dX0_leave_20 ?_
        refine V_getR C fl_X0_80 (ob_K hK1) (ob_R hK1 11 (b + 12) rfl rfl) rfl dX0_leave_23 ?_
        refine V_iload_n C dX0_leave_26 rfl ?_
        refine V_iconst C (v := nI 5) dX0_leave_27 (by decide +kernel) ?_
        refine V_imul C dX0_leave_28 ?_
        refine V_iload_n C dX0_leave_29 rfl ?_
        refine V_iadd C dX0_leave_30 ?_
        refine V_dup2 C dX0_leave_31 rfl rfl ?_
        refine V_iald C (5 * r + s) (ob_A hK1 11 (b + 12) rfl rfl) eidx (by rw [ob_N hK1 11 (b + 12) rfl rfl]; omega) (by rw [ob_N hK1 11 (b + 12) rfl rfl]; decide) dX0_leave_32 ?_
        refine V_iload C dX0_leave_33 rfl ?_
        refine V_isub C dX0_leave_35 ?_
        rw [e4]
        refine V_iast C (5 * r + s) (ob_A hK1 11 (b + 12) rfl rfl) eidx (by rw [ob_N hK1 11 (b + 12) rfl rfl]; omega) (by rw [ob_N hK1 11 (b + 12) rfl rfl]; decide) dX0_leave_36 ?_
        refine V_iload_n C dX0_leave_37 rfl ?_
        refine V_iconst C (v := (-1)) dX0_leave_38 (by decide +kernel) ?_
        refine V_icmp_ne C 59 dX0_leave_39 (by decide) (fun h39 => absurd (em) h39) (fun h39 => ?_)
        refine V_aload_n C dX0_leave_42 rfl ?_
        refine V_getR C fl_X0_12 (ob_K hF) hd0 rfl dX0_leave_43 ?_
        refine V_dup C dX0_leave_46 rfl ?_
        refine V_getI C fl_X0_158 (ob_K hK1) rfl dX0_leave_47 ?_
        rw [e47b]
        refine V_iload C dX0_leave_50 rfl ?_
        refine V_iadd C dX0_leave_52 ?_
        refine V_putI C fl_X0_158 (ob_K hK1) rfl rfl dX0_leave_53 ?_
        refine V_goto C 77 dX0_leave_56 (by decide) ?_
        refine V_iincU C dX0_leave_77 rfl (hn _ (by decide)) ?_
        refine V_goto C 2 dX0_leave_80 (by decide) ?_
        exact nx _ _ q3 ((hf.tr (FC.up (by omega))).tr (FC.up (by omega))) (by rw [up2_ne _ _ _ b47', up2_ne _ _ _ b47]; exact e47)
  refine V_iconst C (v := nI 0) dX0_leave_0 (by decide +kernel) ?_
  refine V_istore_n C dX0_leave_1 (hn _ (by decide)) ?_
  exact loop 5 0 (Dc, fc) I _ rfl hdi hQ FC.re rfl rfl
end C8
