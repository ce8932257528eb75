/-! the class's reader: a law, all laws -/
section C38
variable {l : Launch} {S : HS} {I I' I2 : HI} {J : HJ} {la : Nat} {T : List Int32}
def nuP (K : List Tok) (op k a : Nat) : Except Int32 (Int32 × Int32 × Option Nat × Nat) := match numP K a (leK k) (moK k) with
  | .error e => .error e
  | .ok (lo, a1) => match hiP K op k lo a1 with
    | .error e => .error e
    | .ok (hi, ob, a2) => .ok (lo, hi, ob, a2)
theorem lawK_nu {K : List Tok} {op k a : Nat} : lawK K op k a = match nuP K op k (a + 1) with
  | .error e => .error e
  | .ok (lo, hi, ob, a2) => enP K k lo hi ob a2 := by
  unfold lawK nuP
  cases numP K (a + 1) (leK k) (moK k) with
  | error e => rfl
  | ok x =>
    obtain ⟨lo, a1⟩ := x
    dsimp only
    cases hiP K op k lo a1 with
    | error e => rfl
    | ok y => rfl
theorem nLM : ∀ k, k < 9 → nLeast.getD k 0 = leK k ∧ nMost.getD k 0 = moK k := by decide +kernel
def NuQ (T : List Int32) (la : Nat) (L : List Law) (k a : Nat) (I I' : HI) (r : Except Int32 (Int32 × Int32 × Option Nat × Nat)) : Prop := match r with
  | .error e => 0 < e ∧ I' 1130 2 = e ∧ ∀ b, b ≠ 1130 → I' b = I b
  | .ok (lo, hi, ob, a2) => a < a2 ∧ a2 < (toks T).length ∧ RSt I' T a2 0 ∧ BLw I' la (L ++ [(k, lo, hi, ob, [])]) ∧ ∀ b, b ≠ 1130 → (b < la ∨ la + 10 < b) → I' b = I b
theorem BLw.rd {L : List Law} (hla : hLA la) (h : BLw I la L) (f : ∀ b, b ≠ 1130 → I' b = I b) : BLw I' la L := by
  obtain ⟨⟨b0, b1, b2, b7⟩, b9, bc⟩ := h
  have r : ∀ x, I' (la + x) = I (la + x) := fun x => f _ (by omega)
  have r0 : I' la = I la := f _ (by omega)
  exact ⟨⟨by rw [r0]; exact b0, by rw [r0]; exact b1, by rw [r0]; exact b2, by rw [r 7]; exact b7⟩, fun k hk => ⟨by rw [r 9]; exact (b9 k hk).1, by rw [r 10]; exact (b9 k hk).2⟩, cLaws_cg (fun a h1 h2 => f a (by omega)) L 0 0 bc⟩
theorem RSt.kp {a : Nat} {f : Int32} (h : RSt I T a f) (e : I' 1130 = I 1130) : RSt I' T a f := by
  unfold RSt rdT
  rw [e]
  exact h
set_option maxRecDepth 100000 in
set_option maxHeartbeats 2000000 in
theorem c_readNumbers (hR : RdS S la) (hla : hLA la) (hE : TG I T) {a k : Nat} (hs : RSt I T a 0) (ha : a < (toks T).length) {L : List Law} (hB : BLw I la L) (h24 : L.length < 24) (hop : opN L ≤ 4) (hk : k < 9) : Mn l yX4_readNumbers cX4_readNumbers 4 none 6 [.ref 1130, .int (nI k)] S I J (fun v I' J' => v = none ∧ NuQ T la L k a I I' (nuP (toks T) (opN L) k a) ∧ J' = J) := by
  refine Mn.of (by decide) (fun ad => by simp [lg_sl, vv, Value.category]) (fun X P hP hn C => ?_)
  have hR0 := hR
  obtain ⟨hM, hT0, hT1, hTp, hLa⟩ := hR
  obtain ⟨eL, eM⟩ := nLM k hk
  have h1000 := hE.2.1
  have bad : ∀ (In : HI) (e : Int32) (x2 x3 : Option Value), nuP (toks T) (opN L) k a = .error e → 0 < e → In 1130 2 = e → (∀ b, b ≠ 1130 → In b = I b) → V X P 0 0 90 [some (.ref 1130), some (.int (nI k)), x2, x3] [] S In J := by
    intro In e x2 x3 hnu he h2 f
    have nf : ¬ In 1130 2 = 0 := by rw [h2]; exact pos_ne he
    refine V_aload_n C dX4_readNumbers_90 rfl ?_
    refine V_getI C fl_X4_24 (ob_K hM) rfl dX4_readNumbers_91 ?_
    refine V_if_ne C 107 dX4_readNumbers_94 (by decide) (fun h94 => ?_) (fun h94 => absurd h94 (nf))
    exact V_vret C (Nat.zero_le _) (Nat.zero_le _) dX4_readNumbers_107 (hP _ _ _ ⟨rfl, by rw [hnu]; exact ⟨he, h2, f⟩, rfl⟩)
  have good : ∀ (In : HI) (lo hi : Int32) (a2 : Nat), nuP (toks T) (opN L) k a = .ok (lo, hi, (if lo < hi then some (opN L) else none), a2) → a < a2 → a2 < (toks T).length → RSt In T a2 0 → (∀ b, b ≠ 1130 → In b = I b) → (lo < hi → opN L < 4) → V X P 0 0 90 [some (.ref 1130), some (.int (nI k)), some (.int lo), some (.int hi)] [] S In J := by
    intro In lo hi a2 hnu h1 h2 h3 f h4
    have hBn := hB.rd hla f
    refine V_aload_n C dX4_readNumbers_90 rfl ?_
    refine V_getI C fl_X4_24 (ob_K hM) rfl dX4_readNumbers_91 ?_
    refine V_if_ne C 107 dX4_readNumbers_94 (by decide) (fun h94 => absurd (h3.1) h94) (fun h94 => ?_)
    refine V_aload_n C dX4_readNumbers_97 rfl ?_
    refine V_getR C fl_X4_15 (ob_K hM) hT1 rfl dX4_readNumbers_98 ?_
    refine V_iload_n C dX4_readNumbers_101 rfl ?_
    refine V_iload_n C dX4_readNumbers_102 rfl ?_
    refine V_iload_n C dX4_readNumbers_103 rfl ?_
    refine V_callV (F := fun _ => True) C (c_addLaw hLa hBn h24 hk lo hi h4) mi_X2_addLaw ml_X4_137 rfl (ob_K hLa) (by decide) (by decide) (by decide) (Nat.le_of_ble_eq_true rfl) (fun _ _ => trivial) (fun v _ => clo_T v) rfl dX4_readNumbers_104 ?_
    rintro v S' I4 J4 ⟨hS9, rfl, z1, z2, hJ9⟩
    obtain rfl := hS9.symm
    obtain rfl := hJ9.symm
    exact V_vret C (Nat.zero_le _) (Nat.zero_le _) dX4_readNumbers_107 (hP _ _ _ ⟨rfl, by rw [hnu]; exact ⟨h1, h2, h3.kp (z2 1130 (by omega)), z1, fun b hb hb2 => (z2 b hb2).trans (f b hb)⟩, rfl⟩)
  have k14 : ∀ (v : Option Value) (In : HI), NQ I T (numP (toks T) a (leK k) (moK k)) v In → ∃ x, v = some (.int x) ∧ V X P 0 0 14 [some (.ref 1130), some (.int (nI k)), none, none] [.int x] S In J := by
    intro v In hq
    cases hnu : numP (toks T) a (leK k) (moK k) with
    | error e =>
      rw [hnu] at hq
      obtain ⟨q1, ⟨x, q2⟩, q3⟩ := hq
      refine ⟨x, q2, ?_⟩
      have e2 : In 1130 2 = e := by rw [q3, r_at]
      have nf : ¬ In 1130 2 = 0 := by rw [e2]; exact pos_ne q1
      have fin := fun x2 x3 => bad In e x2 x3 (by rw [nuP, hnu]) q1 e2 (fun b hb => by rw [q3, up2_ne _ _ _ hb])
      refine V_istore_n C dX4_readNumbers_14 (hn _ (by decide)) ?_
      refine V_iload_n C dX4_readNumbers_15 rfl ?_
      refine V_istore_n C dX4_readNumbers_16 (hn _ (by decide)) ?_
      refine V_aload_n C dX4_readNumbers_17 rfl ?_
      refine V_getI C fl_X4_24 (ob_K hM) rfl dX4_readNumbers_18 ?_
      refine V_if_ne C 90 dX4_readNumbers_21 (by decide) (fun h21 => ?_) (fun h21 => absurd h21 (nf))
      exact fin _ _
    | ok r =>
      obtain ⟨lo, a1⟩ := r
      rw [hnu] at hq
      obtain ⟨q1, q2, q3⟩ := hq
      refine ⟨lo, q1, ?_⟩
      obtain ⟨ea1, h2⟩ := numP_ok hnu
      have hlt1 : a1 < (toks T).length := by rw [ea1]; exact (tk_wf ha).2.2 (by rw [h2]; decide)
      obtain ⟨w, w1, w2, w3⟩ := nu_tok ha h2
      have elo : lo = nI w := by
        unfold numP at hnu
        rw [if_pos h2] at hnu
        by_cases g : (leK k).toInt64 ≤ (tk (toks T) a).2.2.1 ∧ (tk (toks T) a).2.2.1 ≤ (moK k).toInt64
        · rw [if_pos g] at hnu
          injection hnu with hnu
          rw [← w3]
          exact (congrArg Prod.fst hnu).symm
        · rw [if_neg g] at hnu; cases hnu
      have hEn := hE.cg q2
      have hnu2 : nuP (toks T) (opN L) k a = match hiP (toks T) (opN L) k lo a1 with
        | .error e => .error e
        | .ok (hi, ob, a2) => .ok (lo, hi, ob, a2) := by rw [nuP, hnu]
      by_cases gto : isWP (toks T) a1 9
      · have ehi : hiP (toks T) (opN L) k lo a1 = hiP (toks T) (opN L) k lo a1 := rfl
        conv at ehi => rhs; rw [hiP, if_pos gto]
        have hlt2 : a1 + 1 < (toks T).length := (tk_wf hlt1).2.2 (by rw [gto.1]; decide)
        have ew : fwN (toks T) a1 9 1 = nI 0 := fwN_at (j := 0) gto 1 (by decide) (by decide)
        have k37 : ∀ In2 : HI, RSt In2 T (a1 + 1) 0 → (∀ b, b ≠ 1130 → In2 b = I b) → V X P 0 0 37 [some (.ref 1130), some (.int (nI k)), some (.int lo), some (.int lo)] [] S In2 J := by
          intro In2 s2 f2
          have hE2 := hE.cg f2
          have k79 : ¬ (opN L = 4 ∧ (tk (toks T) (a1 + 1)).1 = 2 ∧ wi (In2 1130 6) (lo + nI 1) (moK k)) → V X P 0 0 79 [some (.ref 1130), some (.int (nI k)), some (.int lo), some (.int lo)] [] S In2 J := by
            intro hno
            have k89 : ∀ (v : Option Value) (I3 : HI), NQ In2 T (numP (toks T) (a1 + 1) lo (moK k)) v I3 → ∃ x, v = some (.int x) ∧ V X P 0 0 89 [some (.ref 1130), some (.int (nI k)), some (.int lo), some (.int lo)] [.int x] S I3 J := by
              intro v I3 hq
              cases hnh : numP (toks T) (a1 + 1) lo (moK k) with
              | error e =>
                rw [hnh] at hq ehi
                obtain ⟨q1, ⟨x, q2⟩, q3⟩ := hq
                refine ⟨x, q2, ?_⟩
                have fin := fun x2 x3 => bad I3 e x2 x3 (by rw [hnu2, ehi]) q1 (by rw [q3, r_at]) (fun b hb => by rw [q3, up2_ne _ _ _ hb]; exact f2 b hb)
                refine V_istore_n C dX4_readNumbers_89 (hn _ (by decide)) ?_
                exact fin _ _
              | ok r =>
                obtain ⟨hi, a2⟩ := r
                rw [hnh] at hq ehi
                obtain ⟨q1, q2, q3⟩ := hq
                refine ⟨hi, q1, ?_⟩
                obtain ⟨ea2, hh2⟩ := numP_ok hnh
                have hlt3 : a2 < (toks T).length := by rw [ea2]; exact (tk_wf hlt2).2.2 (by rw [hh2]; decide)
                obtain ⟨w', w1', w2', w3'⟩ := nu_tok hlt2 hh2
                have hhi : hi = nI w' ∧ hi ≤ moK k := by
                  unfold numP at hnh
                  rw [if_pos hh2] at hnh
                  by_cases g : lo.toInt64 ≤ (tk (toks T) (a1 + 1)).2.2.1 ∧ (tk (toks T) (a1 + 1)).2.2.1 ≤ (moK k).toInt64
                  · rw [if_pos g] at hnh
                    injection hnh with hnh
                    have e1 : hi = nI w' := by rw [← w3']; exact (congrArg Prod.fst hnh).symm
                    refine ⟨e1, ?_⟩
                    rw [w2', ← nI_64 (show w' < 2 ^ 31 by omega), le_64, le_64] at g
                    rw [e1]; exact g.2
                  · rw [if_neg g] at hnh; cases hnh
                have h4 : lo < hi → opN L < 4 := by
                  intro hl
                  rcases Nat.lt_or_ge (opN L) 4 with g | g
                  · exact g
                  · exfalso
                    refine hno ⟨by omega, hh2, ?_⟩
                    rw [(s2.2.2.2.2 hh2).trans w3', elo, nI_add]
                    rw [elo, hhi.1] at hl
                    refine ⟨nI_le ?_ (by omega), hhi.1 ▸ hhi.2⟩
                    rcases Nat.lt_or_ge w w' with g2 | g2
                    · exact g2
                    · exact absurd hl (nI_nlt (by omega) (by omega))
                have hob : hiP (toks T) (opN L) k lo a1 = .ok (hi, (if lo < hi then some (opN L) else none), a2) := by
                  rw [ehi]
                  dsimp only
                  by_cases g : lo < hi
                  · have := h4 g
                    rw [if_neg (Int32.not_le.mpr g), if_neg (by omega), if_pos g]
                  · rw [if_pos (Int32.not_lt.mp g), if_neg g]
                have fin := good I3 lo hi a2 (by rw [hnu2, hob]) (by omega) hlt3 q3 (fun b hb => (q2 b hb).trans (f2 b hb)) h4
                refine V_istore_n C dX4_readNumbers_89 (hn _ (by decide)) ?_
                exact fin
            refine V_aload_n C dX4_readNumbers_79 rfl ?_
            refine V_iload_n C dX4_readNumbers_80 rfl ?_
            refine V_gets C (v := .ref 5101) (Cx.xt C).2.2.2.2.1 (by show 5000 ≤ 5101; omega) wX_121 dX4_readNumbers_81 ?_
            refine V_iload_n C dX4_readNumbers_84 rfl ?_
            refine V_ialdM C (k) rfl (by omega) dX4_readNumbers_85 ?_
            rw [eM]
            refine V_callV (F := fun _ => True) C (c_readN hR0 hE2 s2 hlt2 lo (moK k)) mi_X4_readN ml_X4_124 rfl (ob_K hM) (by decide) (by decide) (by decide) (Nat.le_of_ble_eq_true rfl) (fun _ _ => trivial) (fun v _ => clo_T v) rfl dX4_readNumbers_86 ?_
            rintro v S' I4 J4 ⟨hS9, hp, hJ9⟩
            obtain rfl := hS9.symm
            obtain rfl := hJ9.symm
            obtain ⟨x9, rfl, k9⟩ := k89 _ _ hp
            exact k9
          by_cases g2 : (tk (toks T) (a1 + 1)).1 = 2
          · obtain ⟨w', w1', w2', w3'⟩ := nu_tok hlt2 g2
            have e6 : In2 1130 6 = nI w' := (s2.2.2.2.2 g2).trans w3'
            have eo : In2 la 1 = nI (opN L) := by rw [f2 la (by omega)]; exact hB.1.2.1
            by_cases gw : wi (In2 1130 6) (lo + nI 1) (moK k)
            · by_cases g4 : opN L = 4
              · have hpos := (errP_pos (K := toks T) (a := a1 + 1) (w := 5) (by have := (tk_wf hlt2).1; omega) (by decide) (by decide)).1
                have hw2 : w < w' ∧ nI w' ≤ moK k := by
                  rw [e6, elo, nI_add] at gw
                  refine ⟨?_, gw.2⟩
                  rcases Nat.lt_or_ge w w' with q | q
                  · exact q
                  · exact absurd gw.1 (nI_ge (by omega) (by omega))
                have hnh : numP (toks T) (a1 + 1) lo (moK k) = .ok (nI w', a1 + 2) := by
                  unfold numP
                  rw [if_pos g2, w3', w2', ← nI_64 (show w' < 2 ^ 31 by omega), if_pos ⟨le_64.mpr (by rw [elo]; exact nI_le (by omega) (by omega)), le_64.mpr hw2.2⟩]
                rw [hnh] at ehi
                dsimp only at ehi
                rw [if_neg (by rw [elo]; exact nI_ge hw2.1 (by omega)), if_pos g4] at ehi
                obtain ⟨I3, hI3⟩ : ∃ I3, I3 = up2 In2 1130 2 (errP (toks T) (a1 + 1) 5) := ⟨_, rfl⟩
                have s3 : RSt I3 T (a1 + 1) (errP (toks T) (a1 + 1) 5) := by rw [hI3]; exact s2.f
                have f3 : ∀ b, b ≠ 1130 → I3 b = I b := fun b hb => by rw [hI3, up2_ne _ _ _ hb]; exact f2 b hb
                have fin := fun I4 x2 x3 h1 h2 => bad I4 _ x2 x3 (by rw [hnu2, ehi]) hpos h1 h2
                refine V_aload_n C dX4_readNumbers_37 rfl ?_
                refine V_getI C fl_X4_34 (ob_K hM) rfl dX4_readNumbers_38 ?_
                rw [s2.2.1]
                refine V_iconst C (v := nI 2) dX4_readNumbers_41 (by decide +kernel) ?_
                refine V_icmp_ne C 79 dX4_readNumbers_42 (by decide) (fun h42 => absurd (by rw [g2]) h42) (fun h42 => ?_)
                refine V_aload_n C dX4_readNumbers_45 rfl ?_
                refine V_getI C fl_X4_72 (ob_K hM) rfl dX4_readNumbers_46 ?_
                refine V_iload_n C dX4_readNumbers_49 rfl ?_
                refine V_iconst C (v := nI 1) dX4_readNumbers_50 (by decide +kernel) ?_
                refine V_iadd C dX4_readNumbers_51 ?_
                refine V_gets C (v := .ref 5101) (Cx.xt C).2.2.2.2.1 (by show 5000 ≤ 5101; omega) wX_121 dX4_readNumbers_52 ?_
                refine V_iload_n C dX4_readNumbers_55 rfl ?_
                refine V_ialdM C (k) rfl (by omega) dX4_readNumbers_56 ?_
                rw [eM]
                refine V_callSN (F := fun _ => True) C (m_isW _ _ _) ms_X6_isWithin (fun q => q.2.2.1) rfl (by decide) (by decide) (Nat.le_of_ble_eq_true rfl) (fun _ _ => trivial) (fun v _ => clo_T v) rfl dX4_readNumbers_57 ?_
                rintro v S' I' J' ⟨hS9, rfl, hI9, hJ9⟩
                obtain rfl := hS9.symm
                obtain rfl := hI9.symm
                obtain rfl := hJ9.symm
                refine V_if_eq C 79 dX4_readNumbers_60 (by decide) (fun h60 => absurd h60 (by rw [bI_0]; exact fun r => r gw)) (fun h60 => ?_)
                refine V_aload_n C dX4_readNumbers_63 rfl ?_
                refine V_getR C fl_X4_15 (ob_K hM) hT1 rfl dX4_readNumbers_64 ?_
                refine V_getI C fl_X4_134 (ob_K hLa) rfl dX4_readNumbers_67 ?_
                rw [eo, g4]
                refine V_iconst C (v := nI 4) dX4_readNumbers_70 (by decide +kernel) ?_
                refine V_icmp_lt C 79 dX4_readNumbers_71 (by decide) (fun h71 => absurd h71 (by decide)) (fun h71 => ?_)
                refine V_aload_n C dX4_readNumbers_74 rfl ?_
                refine V_iconst C (v := nI 5) dX4_readNumbers_75 (by decide +kernel) ?_
                refine V_callV (F := fun _ => True) C (c_refuse hR0 s2) mi_X4_refuse ml_X4_86 rfl (ob_K hM) (by decide) (by decide) (by decide) (Nat.le_of_ble_eq_true rfl) (fun _ _ => trivial) (fun v _ => clo_T v) rfl dX4_readNumbers_76 ?_
                rintro v S' I' J' ⟨hS9, rfl, hI9, hJ9⟩
                obtain rfl := hS9.symm
                obtain rfl := hI9.symm
                obtain rfl := hJ9.symm
                rw [← hI3]
                refine V_aload_n C dX4_readNumbers_79 rfl ?_
                refine V_iload_n C dX4_readNumbers_80 rfl ?_
                refine V_gets C (v := .ref 5101) (Cx.xt C).2.2.2.2.1 (by show 5000 ≤ 5101; omega) wX_121 dX4_readNumbers_81 ?_
                refine V_iload_n C dX4_readNumbers_84 rfl ?_
                refine V_ialdM C (k) rfl (by omega) dX4_readNumbers_85 ?_
                rw [eM]
                refine V_callV (F := fun _ => True) C (c_readNF hR0 (hE.cg f3) (pos_ne hpos) s3 hlt2 lo (moK k)) mi_X4_readN ml_X4_124 rfl (ob_K hM) (by decide) (by decide) (by decide) (Nat.le_of_ble_eq_true rfl) (fun _ _ => trivial) (fun v _ => clo_T v) rfl dX4_readNumbers_86 ?_
                rintro v S' I4 J4 ⟨hS9, ⟨x9, rfl⟩, z1, z2, hJ9⟩
                obtain rfl := hS9.symm
                obtain rfl := hJ9.symm
                refine V_istore_n C dX4_readNumbers_89 (hn _ (by decide)) ?_
                exact fin I4 _ _ z2 (fun b hb => (z1 b hb).trans (f3 b hb))
              · have st := k79 (fun q => g4 q.1)
                refine V_aload_n C dX4_readNumbers_37 rfl ?_
                refine V_getI C fl_X4_34 (ob_K hM) rfl dX4_readNumbers_38 ?_
                rw [s2.2.1]
                refine V_iconst C (v := nI 2) dX4_readNumbers_41 (by decide +kernel) ?_
                refine V_icmp_ne C 79 dX4_readNumbers_42 (by decide) (fun h42 => absurd (by rw [g2]) h42) (fun h42 => ?_)
                refine V_aload_n C dX4_readNumbers_45 rfl ?_
                refine V_getI C fl_X4_72 (ob_K hM) rfl dX4_readNumbers_46 ?_
                refine V_iload_n C dX4_readNumbers_49 rfl ?_
                refine V_iconst C (v := nI 1) dX4_readNumbers_50 (by decide +kernel) ?_
                refine V_iadd C dX4_readNumbers_51 ?_
                refine V_gets C (v := .ref 5101) (Cx.xt C).2.2.2.2.1 (by show 5000 ≤ 5101; omega) wX_121 dX4_readNumbers_52 ?_
                refine V_iload_n C dX4_readNumbers_55 rfl ?_
                refine V_ialdM C (k) rfl (by omega) dX4_readNumbers_56 ?_
                rw [eM]
                refine V_callSN (F := fun _ => True) C (m_isW _ _ _) ms_X6_isWithin (fun q => q.2.2.1) rfl (by decide) (by decide) (Nat.le_of_ble_eq_true rfl) (fun _ _ => trivial) (fun v _ => clo_T v) rfl dX4_readNumbers_57 ?_
                rintro v S' I' J' ⟨hS9, rfl, hI9, hJ9⟩
                obtain rfl := hS9.symm
                obtain rfl := hI9.symm
                obtain rfl := hJ9.symm
                refine V_if_eq C 79 dX4_readNumbers_60 (by decide) (fun h60 => absurd h60 (by rw [bI_0]; exact fun r => r gw)) (fun h60 => ?_)
                refine V_aload_n C dX4_readNumbers_63 rfl ?_
                refine V_getR C fl_X4_15 (ob_K hM) hT1 rfl dX4_readNumbers_64 ?_
                refine V_getI C fl_X4_134 (ob_K hLa) rfl dX4_readNumbers_67 ?_
                rw [eo]
                refine V_iconst C (v := nI 4) dX4_readNumbers_70 (by decide +kernel) ?_
                refine V_icmp_lt C 79 dX4_readNumbers_71 (by decide) (fun h71 => ?_) (fun h71 => absurd (nI_lt (by omega) (by omega)) h71)
                exact st
            · have st := k79 (fun q => gw q.2.2)
              refine V_aload_n C dX4_readNumbers_37 rfl ?_
              refine V_getI C fl_X4_34 (ob_K hM) rfl dX4_readNumbers_38 ?_
              rw [s2.2.1]
              refine V_iconst C (v := nI 2) dX4_readNumbers_41 (by decide +kernel) ?_
              refine V_icmp_ne C 79 dX4_readNumbers_42 (by decide) (fun h42 => absurd (by rw [g2]) h42) (fun h42 => ?_)
              refine V_aload_n C dX4_readNumbers_45 rfl ?_
              refine V_getI C fl_X4_72 (ob_K hM) rfl dX4_readNumbers_46 ?_
              refine V_iload_n C dX4_readNumbers_49 rfl ?_
              refine V_iconst C (v := nI 1) dX4_readNumbers_50 (by decide +kernel) ?_
              refine V_iadd C dX4_readNumbers_51 ?_
              refine V_gets C (v := .ref 5101) (Cx.xt C).2.2.2.2.1 (by show 5000 ≤ 5101; omega) wX_121 dX4_readNumbers_52 ?_
              refine V_iload_n C dX4_readNumbers_55 rfl ?_
              refine V_ialdM C (k) rfl (by omega) dX4_readNumbers_56 ?_
              rw [eM]
              refine V_callSN (F := fun _ => True) C (m_isW _ _ _) ms_X6_isWithin (fun q => q.2.2.1) rfl (by decide) (by decide) (Nat.le_of_ble_eq_true rfl) (fun _ _ => trivial) (fun v _ => clo_T v) rfl dX4_readNumbers_57 ?_
              rintro v S' I' J' ⟨hS9, rfl, hI9, hJ9⟩
              obtain rfl := hS9.symm
              obtain rfl := hI9.symm
              obtain rfl := hJ9.symm
              refine V_if_eq C 79 dX4_readNumbers_60 (by decide) (fun h60 => ?_) (fun h60 => absurd (bI_f gw) h60)
              exact st
          · have st := k79 (fun q => g2 q.2.1)
            have h4 := (tk_wf hlt2).2.1
            refine V_aload_n C dX4_readNumbers_37 rfl ?_
            refine V_getI C fl_X4_34 (ob_K hM) rfl dX4_readNumbers_38 ?_
            rw [s2.2.1]
            refine V_iconst C (v := nI 2) dX4_readNumbers_41 (by decide +kernel) ?_
            refine V_icmp_ne C 79 dX4_readNumbers_42 (by decide) (fun h42 => ?_) (fun h42 => absurd h42 (fun q => g2 ((nI_eq (by omega) (by omega)).mp q)))
            exact st
        refine V_istore_n C dX4_readNumbers_14 (hn _ (by decide)) ?_
        refine V_iload_n C dX4_readNumbers_15 rfl ?_
        refine V_istore_n C dX4_readNumbers_16 (hn _ (by decide)) ?_
        refine V_aload_n C dX4_readNumbers_17 rfl ?_
        refine V_getI C fl_X4_24 (ob_K hM) rfl dX4_readNumbers_18 ?_
        refine V_if_ne C 90 dX4_readNumbers_21 (by decide) (fun h21 => absurd (q3.1) h21) (fun h21 => ?_)
        refine V_aload_n C dX4_readNumbers_24 rfl ?_
        refine V_ldcS C rfl 2 (by decide) rfl dX4_readNumbers_25 ?_
        refine V_callV (F := fun _ => True) C (c_wordAmong hR0 hEn (i := 2) (w0 := 9) (c := 1) (by decide) q3 hlt1) mi_X4_wordAmong ml_X4_92 rfl (ob_K hM) (by decide) (by decide) (by decide) (Nat.le_of_ble_eq_true rfl) (fun _ _ => trivial) (fun v _ => clo_T v) rfl dX4_readNumbers_27 ?_
        rintro v S' I' J' ⟨hS9, rfl, hI9, hJ9⟩
        obtain rfl := hS9.symm
        obtain rfl := hI9.symm
        obtain rfl := hJ9.symm
        rw [ew]
        refine V_if_ne C 90 dX4_readNumbers_30 (by decide) (fun h30 => absurd (rfl) h30) (fun h30 => ?_)
        refine V_aload_n C dX4_readNumbers_33 rfl ?_
        refine V_callV (F := fun _ => True) C (c_adv hR0 hEn q3 hlt1 (by rw [gto.1]; decide)) mi_X4_advance ml_X4_31 rfl (ob_K hM) (by decide) (by decide) (by decide) (Nat.le_of_ble_eq_true rfl) (fun _ _ => trivial) (fun v _ => clo_T v) rfl dX4_readNumbers_34 ?_
        rintro v S' I2 J2 ⟨hS9, rfl, z1, z2, hJ9⟩
        obtain rfl := hS9.symm
        obtain rfl := hJ9.symm
        exact k37 I2 z2 (fun b hb => (z1 b hb).trans (q2 b hb))
      · have ehi : hiP (toks T) (opN L) k lo a1 = .ok (lo, (if lo < lo then some (opN L) else none), a1) := by rw [hiP, if_neg gto, if_neg (fun h => Int32.lt_irrefl h)]
        have ew : fwN (toks T) a1 9 1 = -1 := fwN_no 1 (fun j hj => by rw [show j = 0 by omega]; exact gto)
        have fin := good In lo lo a1 (by rw [hnu2, ehi]) (by omega) hlt1 q3 q2 (fun h => absurd h (fun h => Int32.lt_irrefl h))
        refine V_istore_n C dX4_readNumbers_14 (hn _ (by decide)) ?_
        refine V_iload_n C dX4_readNumbers_15 rfl ?_
        refine V_istore_n C dX4_readNumbers_16 (hn _ (by decide)) ?_
        refine V_aload_n C dX4_readNumbers_17 rfl ?_
        refine V_getI C fl_X4_24 (ob_K hM) rfl dX4_readNumbers_18 ?_
        refine V_if_ne C 90 dX4_readNumbers_21 (by decide) (fun h21 => absurd (q3.1) h21) (fun h21 => ?_)
        refine V_aload_n C dX4_readNumbers_24 rfl ?_
        refine V_ldcS C rfl 2 (by decide) rfl dX4_readNumbers_25 ?_
        refine V_callV (F := fun _ => True) C (c_wordAmong hR0 hEn (i := 2) (w0 := 9) (c := 1) (by decide) q3 hlt1) mi_X4_wordAmong ml_X4_92 rfl (ob_K hM) (by decide) (by decide) (by decide) (Nat.le_of_ble_eq_true rfl) (fun _ _ => trivial) (fun v _ => clo_T v) rfl dX4_readNumbers_27 ?_
        rintro v S' I' J' ⟨hS9, rfl, hI9, hJ9⟩
        obtain rfl := hS9.symm
        obtain rfl := hI9.symm
        obtain rfl := hJ9.symm
        rw [ew]
        refine V_if_ne C 90 dX4_readNumbers_30 (by decide) (fun h30 => ?_) (fun h30 => absurd h30 (by decide))
        exact fin
  refine V_aload_n C dX4_readNumbers_0 rfl ?_
  refine V_gets C (v := .ref 5100) (Cx.xt C).2.2.1 (by show 5000 ≤ 5100; omega) wX_117 dX4_readNumbers_1 ?_
  refine V_iload_n C dX4_readNumbers_4 rfl ?_
  refine V_ialdL C (k) rfl (by omega) dX4_readNumbers_5 ?_
  rw [eL]
  refine V_gets C (v := .ref 5101) (Cx.xt C).2.2.2.2.1 (by show 5000 ≤ 5101; omega) wX_121 dX4_readNumbers_6 ?_
  refine V_iload_n C dX4_readNumbers_9 rfl ?_
  refine V_ialdM C (k) rfl (by omega) dX4_readNumbers_10 ?_
  rw [eM]
  refine V_callV (F := fun _ => True) C (c_readN hR0 hE hs ha (leK k) (moK k)) mi_X4_readN ml_X4_124 rfl (ob_K hM) (by decide) (by decide) (by decide) (Nat.le_of_ble_eq_true rfl) (fun _ _ => trivial) (fun v _ => clo_T v) rfl dX4_readNumbers_11 ?_
  rintro v S' I4 J4 ⟨hS9, hp, hJ9⟩
  obtain rfl := hS9.symm
  obtain rfl := hJ9.symm
  obtain ⟨x9, rfl, k9⟩ := k14 _ _ hp
  exact k9
theorem BLw.set {k : Nat} {lo hi : Int32} {ob : Option Nat} {c : Cds} {L : List Law} (h : BLw I la (L ++ [(k, lo, hi, ob, [])])) (f : CFr la (L.length + 1) (cdN L) I I') (hla : hLA la) (hs : LSt I' la (L.length + 1) (cdN L + c.length)) (hc : cxC I' la c (cdN L)) : BLw I' la (L ++ [(k, lo, hi, ob, c)]) := by
  obtain ⟨⟨b0, b1, b2, b7⟩, b9, bc⟩ := h
  have hl : ∀ c, (L ++ [((k, lo, hi, ob, c) : Law)]).length = L.length + 1 := fun c => by rw [List.length_append]; rfl
  have hcd : ∀ c, cdN (L ++ [((k, lo, hi, ob, c) : Law)]) = cdN L + c.length := fun c => by rw [cdN_app]
  refine ⟨⟨by rw [hl]; exact hs.1, by rw [f.2.1 1 (by decide), b1, opN_app, opN_app], by rw [hcd]; exact hs.2.1, fun _ => by rw [hl, hcd]; exact hs.2.2⟩, fun x hx => ⟨?_, ?_⟩, ?_⟩
  · rw [f.1 (la + 9) (by omega) (by omega) (by omega) (by omega), (b9 x hx).1]; exact nxI_kd L 0
  · rw [f.1 (la + 10) (by omega) (by omega) (by omega) (by omega), (b9 x hx).2, lsA_app, lsA_app]
  · exact cLaws_set (n := L.length) (q := cdN L) L 0 0 (by omega) (by omega) bc (fun r h1 h2 h3 => f.1 _ (by omega) (by omega) (by omega) (by omega)) (fun x hx => f.2.2.1 x hx) hs.2.2 (fun x hx => f.2.2.2 x hx) hc
def LQ (T : List Int32) (la : Nat) (L : List Law) (a : Nat) (I I' : HI) (r : Except Int32 (Law × Nat)) : Prop := match r with
  | .error e => 0 < e ∧ I' 1130 2 = e ∧ ∀ b, b ≠ 1130 → (b < la ∨ la + 11 < b) → I' b = I b
  | .ok (w, a') => a < a' ∧ a' < (toks T).length ∧ RSt I' T a' 0 ∧ BLw I' la (L ++ [w]) ∧ cdN (L ++ [w]) ≤ a' ∧ opN (L ++ [w]) ≤ 4 ∧ ∀ b, b ≠ 1130 → (b < la ∨ la + 11 < b) → I' b = I b
theorem TG.f2 (hla : hLA la) (h : TG I T) (f : ∀ b, b ≠ 1130 → (b < la ∨ la + 11 < b) → I' b = I b) : TG I' T := ⟨⟨by rw [f 1120 (by decide) (by omega)]; exact h.1.1, fun i hi => by rw [f 1122 (by decide) (by omega)]; exact h.1.2 i hi⟩, h.2⟩
theorem nuP_op {K : List Tok} {op k a : Nat} {lo hi : Int32} {ob : Option Nat} {a2 : Nat} (h : nuP K op k a = .ok (lo, hi, ob, a2)) (ho : op ≤ 4) : op + obN ob ≤ 4 := by
  unfold nuP at h
  cases h1 : numP K a (leK k) (moK k) with
  | error e => rw [h1] at h; cases h
  | ok x =>
    obtain ⟨lo1, a1⟩ := x
    rw [h1] at h
    dsimp only at h
    unfold hiP at h
    by_cases g : isWP K a1 9
    · rw [if_pos g] at h
      cases h2 : numP K (a1 + 1) lo1 (moK k) with
      | error e => rw [h2] at h; cases h
      | ok y =>
        obtain ⟨hi1, a3⟩ := y
        rw [h2] at h
        dsimp only at h
        by_cases g2 : hi1 ≤ lo1
        · rw [if_pos g2] at h
          injection h with h
          have e := congrArg (fun p => p.2.2.1) h
          dsimp only at e
          rw [← e]; exact ho
        · rw [if_neg g2] at h
          by_cases g3 : op = 4
          · rw [if_pos g3] at h; cases h
          · rw [if_neg g3] at h
            injection h with h
            have e := congrArg (fun p => p.2.2.1) h
            dsimp only at e
            rw [← e]; show op + 1 ≤ 4; omega
    · rw [if_neg g] at h
      injection h with h
      have e := congrArg (fun p => p.2.2.1) h
      dsimp only at e
      rw [← e]; exact ho
theorem NuQ.fr {L : List Law} {k a : Nat} {r : Except Int32 (Int32 × Int32 × Option Nat × Nat)} (h : NuQ T la L k a I I' r) (f : ∀ b, b ≠ 1130 → I b = I2 b) : NuQ T la L k a I2 I' r := by
  cases r with
  | error e => exact ⟨h.1, h.2.1, fun b hb => (h.2.2 b hb).trans (f b hb)⟩
  | ok x => obtain ⟨lo, hi, ob, a2⟩ := x; exact ⟨h.1, h.2.1, h.2.2.1, h.2.2.2.1, fun b hb hb2 => (h.2.2.2.2 b hb hb2).trans (f b hb)⟩
set_option maxRecDepth 100000 in
set_option maxHeartbeats 2000000 in
theorem c_readLaw (hR : RdS S la) (hla : hLA la) (hE : TG I T) {a : Nat} (hs : RSt I T a 0) (ha : a < (toks T).length) {L : List Law} (hB : BLw I la L) (h24 : L.length ≤ 24) (hop : opN L ≤ 4) (hcd : cdN L ≤ a) : Mn l yX4_readLaw cX4_readLaw 2 none 31 [.ref 1130] S I J (fun v I' J' => v = none ∧ LQ T la L a I I' (lawP (toks T) L.length (opN L) a) ∧ J' = J) := by
  refine Mn.of (by decide) (fun ad => by simp [lg_sl, vv, Value.category]) (fun X P hP hn C => ?_)
  have hR0 := hR
  obtain ⟨hM, hT0, hT1, hTp, hLa⟩ := hR
  have h1000 := hE.2.1
  have hlen := tk_len (T := T)
  have er : ∀ w, 0 < w → w < 16 → lawP (toks T) L.length (opN L) a = .error (errP (toks T) a w) → LQ T la L a I (up2 I 1130 2 (errP (toks T) a w)) (lawP (toks T) L.length (opN L) a) := by
    intro w hw1 hw2 e
    rw [e]
    exact ⟨(errP_pos (K := toks T) (a := a) (w := w) (by have := (tk_wf ha).1; omega) hw1 hw2).1, r_at, fun b hb _ => up2_ne _ _ _ hb⟩
  by_cases hk0 : fwN (toks T) a 0 9 < 0
  · have fin := er 1 (by decide) (by decide) (by rw [lawP, if_pos hk0])
    have ek : fwN (toks T) a 0 9 = -1 := by
      rcases fwN_or (K := toks T) (a := a) (w := 0) 9 with h | ⟨j, hj, h, -⟩
      · exact h
      · rw [h] at hk0; exact absurd hk0 (nI_pos (by omega))
    refine V_aload_n C dX4_readLaw_0 rfl ?_
    refine V_ldcS C rfl 1 (by decide) rfl dX4_readLaw_1 ?_
    refine V_callV (F := fun _ => True) C (c_wordAmong hR0 hE (i := 1) (w0 := 0) (c := 9) (by decide) hs ha) mi_X4_wordAmong ml_X4_92 rfl (ob_K hM) (by decide) (by decide) (by decide) (Nat.le_of_ble_eq_true rfl) (fun _ _ => trivial) (fun v _ => clo_T v) rfl dX4_readLaw_3 ?_
    rintro v S' I' J' ⟨hS9, rfl, hI9, hJ9⟩
    obtain rfl := hS9.symm
    obtain rfl := hI9.symm
    obtain rfl := hJ9.symm
    rw [ek]
    refine V_istore_n C dX4_readLaw_6 (hn _ (by decide)) ?_
    refine V_iload_n C dX4_readLaw_7 rfl ?_
    refine V_iconst C (v := (-1)) dX4_readLaw_8 (by decide +kernel) ?_
    refine V_icmp_ne C 18 dX4_readLaw_9 (by decide) (fun h9 => absurd (rfl) h9) (fun h9 => ?_)
    refine V_aload_n C dX4_readLaw_12 rfl ?_
    refine V_iconst C (v := nI 1) dX4_readLaw_13 (by decide +kernel) ?_
    refine V_callV (F := fun _ => True) C (c_refuse hR0 hs) mi_X4_refuse ml_X4_86 rfl (ob_K hM) (by decide) (by decide) (by decide) (Nat.le_of_ble_eq_true rfl) (fun _ _ => trivial) (fun v _ => clo_T v) rfl dX4_readLaw_14 ?_
    rintro v S' I' J' ⟨hS9, rfl, hI9, hJ9⟩
    obtain rfl := hS9.symm
    obtain rfl := hI9.symm
    obtain rfl := hJ9.symm
    exact V_vret C (Nat.zero_le _) (Nat.zero_le _) dX4_readLaw_17 (hP _ _ _ ⟨rfl, fin, rfl⟩)
  · obtain ⟨k, hk, ek, ekc, h1⟩ := fw_k hk0
    have nk : ¬ nI k = -1 := fun h => absurd (show nI k < 0 by rw [h]; decide) (nI_pos (by omega))
    by_cases hfull : L.length = 24
    · have fin := er 5 (by decide) (by decide) (by rw [lawP, if_neg hk0, if_pos hfull])
      refine V_aload_n C dX4_readLaw_0 rfl ?_
      refine V_ldcS C rfl 1 (by decide) rfl dX4_readLaw_1 ?_
      refine V_callV (F := fun _ => True) C (c_wordAmong hR0 hE (i := 1) (w0 := 0) (c := 9) (by decide) hs ha) mi_X4_wordAmong ml_X4_92 rfl (ob_K hM) (by decide) (by decide) (by decide) (Nat.le_of_ble_eq_true rfl) (fun _ _ => trivial) (fun v _ => clo_T v) rfl dX4_readLaw_3 ?_
      rintro v S' I' J' ⟨hS9, rfl, hI9, hJ9⟩
      obtain rfl := hS9.symm
      obtain rfl := hI9.symm
      obtain rfl := hJ9.symm
      rw [ek]
      refine V_istore_n C dX4_readLaw_6 (hn _ (by decide)) ?_
      refine V_iload_n C dX4_readLaw_7 rfl ?_
      refine V_iconst C (v := (-1)) dX4_readLaw_8 (by decide +kernel) ?_
      refine V_icmp_ne C 18 dX4_readLaw_9 (by decide) (fun h9 => ?_) (fun h9 => absurd h9 (nk))
      refine V_aload_n C dX4_readLaw_18 rfl ?_
      refine V_getR C fl_X4_15 (ob_K hM) hT1 rfl dX4_readLaw_19 ?_
      refine V_callV (F := fun _ => True) C (c_isFullN hLa hB.1.1 h24) mi_X2_isFull ml_X4_96 rfl (ob_K hLa) (by decide) (by decide) (by decide) (Nat.le_of_ble_eq_true rfl) (fun _ _ => trivial) (fun v _ => clo_T v) rfl dX4_readLaw_22 ?_
      rintro v S' I' J' ⟨hS9, rfl, hI9, hJ9⟩
      obtain rfl := hS9.symm
      obtain rfl := hI9.symm
      obtain rfl := hJ9.symm
      refine V_if_eq C 34 dX4_readLaw_25 (by decide) (fun h25 => absurd h25 (by rw [bI_0]; exact fun r => r hfull)) (fun h25 => ?_)
      refine V_aload_n C dX4_readLaw_28 rfl ?_
      refine V_iconst C (v := nI 5) dX4_readLaw_29 (by decide +kernel) ?_
      refine V_callV (F := fun _ => True) C (c_refuse hR0 hs) mi_X4_refuse ml_X4_86 rfl (ob_K hM) (by decide) (by decide) (by decide) (Nat.le_of_ble_eq_true rfl) (fun _ _ => trivial) (fun v _ => clo_T v) rfl dX4_readLaw_30 ?_
      rintro v S' I' J' ⟨hS9, rfl, hI9, hJ9⟩
      obtain rfl := hS9.symm
      obtain rfl := hI9.symm
      obtain rfl := hJ9.symm
      exact V_vret C (Nat.zero_le _) (Nat.zero_le _) dX4_readLaw_33 (hP _ _ _ ⟨rfl, fin, rfl⟩)
    · have hlaw : lawP (toks T) L.length (opN L) a = lawK (toks T) (opN L) k a := by rw [lawP, if_neg hk0, if_neg hfull, ekc]
      rw [hlaw] at hP
      have hlt1 : a + 1 < (toks T).length := (tk_wf ha).2.2 (by rw [h1]; decide)
      have bad : ∀ (pc : Nat) (In : HI) (e : Int32), (pc = 43 ∨ pc = 68 ∨ pc = 80) → lawK (toks T) (opN L) k a = .error e → 0 < e → In 1130 2 = e → (∀ b, b ≠ 1130 → (b < la ∨ la + 11 < b) → In b = I b) → V X P 0 0 pc [some (.ref 1130), some (.int (nI k))] [] S In J := by
        intro pc In e hpc hl he h2 f
        have nf : ¬ In 1130 2 = 0 := by rw [h2]; exact pos_ne he
        have fin : P none S In J := hP _ _ _ ⟨rfl, by rw [hl]; exact ⟨he, h2, f⟩, rfl⟩
        rcases hpc with rfl | rfl | rfl
        · refine V_aload_n C dX4_readLaw_43 rfl ?_
          refine V_getI C fl_X4_24 (ob_K hM) rfl dX4_readLaw_44 ?_
          refine V_if_ne C 68 dX4_readLaw_47 (by decide) (fun h47 => ?_) (fun h47 => absurd h47 (nf))
          refine V_aload_n C dX4_readLaw_68 rfl ?_
          refine V_getI C fl_X4_24 (ob_K hM) rfl dX4_readLaw_69 ?_
          refine V_if_ne C 80 dX4_readLaw_72 (by decide) (fun h72 => ?_) (fun h72 => absurd h72 (nf))
          refine V_aload_n C dX4_readLaw_80 rfl ?_
          refine V_getI C fl_X4_24 (ob_K hM) rfl dX4_readLaw_81 ?_
          refine V_if_ne C 105 dX4_readLaw_84 (by decide) (fun h84 => ?_) (fun h84 => absurd h84 (nf))
          exact V_vret C (Nat.zero_le _) (Nat.zero_le _) dX4_readLaw_105 fin
        · refine V_aload_n C dX4_readLaw_68 rfl ?_
          refine V_getI C fl_X4_24 (ob_K hM) rfl dX4_readLaw_69 ?_
          refine V_if_ne C 80 dX4_readLaw_72 (by decide) (fun h72 => ?_) (fun h72 => absurd h72 (nf))
          refine V_aload_n C dX4_readLaw_80 rfl ?_
          refine V_getI C fl_X4_24 (ob_K hM) rfl dX4_readLaw_81 ?_
          refine V_if_ne C 105 dX4_readLaw_84 (by decide) (fun h84 => ?_) (fun h84 => absurd h84 (nf))
          exact V_vret C (Nat.zero_le _) (Nat.zero_le _) dX4_readLaw_105 fin
        · refine V_aload_n C dX4_readLaw_80 rfl ?_
          refine V_getI C fl_X4_24 (ob_K hM) rfl dX4_readLaw_81 ?_
          refine V_if_ne C 105 dX4_readLaw_84 (by decide) (fun h84 => ?_) (fun h84 => absurd h84 (nf))
          exact V_vret C (Nat.zero_le _) (Nat.zero_le _) dX4_readLaw_105 fin
      have k43 : ∀ I2, NuQ T la L k (a + 1) I I2 (nuP (toks T) (opN L) k (a + 1)) → V X P 0 0 43 [some (.ref 1130), some (.int (nI k))] [] S I2 J := by
        intro I2 hq
        cases hnu : nuP (toks T) (opN L) k (a + 1) with
        | error e =>
          rw [hnu] at hq
          obtain ⟨q1, q2, q3⟩ := hq
          exact bad 43 I2 e (Or.inl rfl) (by rw [lawK_nu, hnu]) q1 q2 (fun b hb _ => q3 b hb)
        | ok r =>
          obtain ⟨lo, hi, ob, a2⟩ := r
          rw [hnu] at hq
          obtain ⟨q1, q2, q3, q4, q5⟩ := hq
          have hob := nuP_op hnu hop
          have f2 : ∀ b, b ≠ 1130 → (b < la ∨ la + 11 < b) → I2 b = I b := fun b hb hb2 => q5 b hb (by omega)
          have hE2 := hE.f2 hla f2
          have hlk : lawK (toks T) (opN L) k a = enP (toks T) k lo hi ob a2 := by rw [lawK_nu, hnu]
          have hl1 : (L ++ [((k, lo, hi, ob, []) : Law)]).length = L.length + 1 := by rw [List.length_append]; rfl
          have hc1 : cdN (L ++ [((k, lo, hi, ob, []) : Law)]) = cdN L := by rw [cdN_app]; rfl
          by_cases gw : isWP (toks T) a2 10
          · have een : enP (toks T) k lo hi ob a2 = enP (toks T) k lo hi ob a2 := rfl
            conv at een => rhs; rw [enP, if_pos gw]
            have ew : fwN (toks T) a2 10 1 = nI 0 := fwN_at (j := 0) gw 1 (by decide) (by decide)
            have h0 : (tk (toks T) a2).1 ≠ 0 := by rw [gw.1]; decide
            have hlt2 := (tk_wf q2).2.2 h0
            have k68 : ∀ I3, RSt I3 T (a2 + 1) 0 → (∀ b, b ≠ 1130 → I3 b = I2 b) → V X P 0 0 68 [some (.ref 1130), some (.int (nI k))] [] S I3 J := by
              intro I3 s3 f3
              have hB3 := q4.rd hla f3
              have hE3 := hE2.cg f3
              have hLs : LSt I3 la (L.length + 1) (cdN L) := ⟨by rw [← hl1]; exact hB3.1.1, by rw [← hc1]; exact hB3.1.2.2.1, by rw [← hl1, ← hc1]; exact hB3.1.2.2.2 (by rw [hl1]; omega)⟩
              have k80 : ∀ I4, CPost T la (L.length + 1) (a2 + 1) (cdN L) I3 I4 (allP (toks T) (parP (toks T) 4) (a2 + 1)) → V X P 0 0 80 [some (.ref 1130), some (.int (nI k))] [] S I4 J := by
                intro I4 hp
                have fr4 : CFr la (L.length + 1) (cdN L) I3 I4 → ∀ b, b ≠ 1130 → (b < la ∨ la + 11 < b) → I4 b = I b := fun c b hb hb2 => ((c.1 b hb (by omega) (by omega) (by omega)).trans (f3 b hb)).trans (f2 b hb hb2)
                cases hsa : allP (toks T) (parP (toks T) 4) (a2 + 1) with
                | error e =>
                  rw [hsa] at hp een
                  obtain ⟨p1, p2, p3, p4⟩ := hp
                  exact bad 80 I4 e (Or.inr (Or.inr rfl)) (by rw [hlk, een]) p1 p2 (fr4 p4)
                | ok r =>
                  obtain ⟨c, a'⟩ := r
                  rw [hsa] at hp een
                  dsimp only at een
                  obtain ⟨p1, p2, p3, p4, p5, p6, p7⟩ := hp
                  have hE4 := hE3.fr hla p7
                  have hB4 := hB3.set p7 hla p5 p6
                  have es := sgA_1 (T := T) (i := 12) (c1 := 59) p2 rfl
                  by_cases g59 : isSP (toks T) a' 59
                  · rw [if_pos g59] at een es
                    have h0' : (tk (toks T) a').1 ≠ 0 := by rw [g59.1]; decide
                    have hlt3 := (tk_wf p2).2.2 h0'
                    refine V_aload_n C dX4_readLaw_80 rfl ?_
                    refine V_getI C fl_X4_24 (ob_K hM) rfl dX4_readLaw_81 ?_
                    refine V_if_ne C 105 dX4_readLaw_84 (by decide) (fun h84 => absurd (p4.1) h84) (fun h84 => ?_)
                    refine V_aload_n C dX4_readLaw_87 rfl ?_
                    refine V_aload_n C dX4_readLaw_88 rfl ?_
                    refine V_ldcS C rfl 12 (by decide) rfl dX4_readLaw_89 ?_
                    refine V_callV (F := fun _ => True) C (c_signAmong hR0 hE4 (i := 12) (by decide) p4 p2) mi_X4_signAmong ml_X4_114 rfl (ob_K hM) (by decide) (by decide) (by decide) (Nat.le_of_ble_eq_true rfl) (fun _ _ => trivial) (fun v _ => clo_T v) rfl dX4_readLaw_91 ?_
                    rintro v S' I' J' ⟨hS9, rfl, hI9, hJ9⟩
                    obtain rfl := hS9.symm
                    obtain rfl := hI9.symm
                    obtain rfl := hJ9.symm
                    rw [es]
                    refine V_if_ne C 101 dX4_readLaw_94 (by decide) (fun h94 => absurd (rfl) h94) (fun h94 => ?_)
                    refine V_iconst C (v := nI 1) dX4_readLaw_97 (by decide +kernel) ?_
                    refine V_goto C 102 dX4_readLaw_98 (by decide) ?_
                    refine V_callV (F := fun _ => True) C (c_expectT hR0 hE4 p4 p2 h0') mi_X4_expect ml_X4_105 rfl (ob_K hM) (by decide) (by decide) (by decide) (Nat.le_of_ble_eq_true rfl) (fun _ _ => trivial) (fun v _ => clo_T v) rfl dX4_readLaw_102 ?_
                    rintro v S' I5 J5 ⟨hS9, rfl, z1, z2, hJ9⟩
                    obtain rfl := hS9.symm
                    obtain rfl := hJ9.symm
                    exact V_vret C (Nat.zero_le _) (Nat.zero_le _) dX4_readLaw_105 (hP _ _ _ ⟨rfl, by rw [hlk, een]; exact ⟨by omega, hlt3, z2, hB4.rd hla z1, by rw [cdN_app]; dsimp only; omega, by rw [opN_app]; exact hob, fun b hb hb2 => (z1 b hb).trans (fr4 p7 b hb hb2)⟩, rfl⟩)
                  · rw [if_neg g59] at een es
                    have hpos := (errP_pos (K := toks T) (a := a') (w := 1) (by have := (tk_wf p2).1; omega) (by decide) (by decide)).1
                    refine V_aload_n C dX4_readLaw_80 rfl ?_
                    refine V_getI C fl_X4_24 (ob_K hM) rfl dX4_readLaw_81 ?_
                    refine V_if_ne C 105 dX4_readLaw_84 (by decide) (fun h84 => absurd (p4.1) h84) (fun h84 => ?_)
                    refine V_aload_n C dX4_readLaw_87 rfl ?_
                    refine V_aload_n C dX4_readLaw_88 rfl ?_
                    refine V_ldcS C rfl 12 (by decide) rfl dX4_readLaw_89 ?_
                    refine V_callV (F := fun _ => True) C (c_signAmong hR0 hE4 (i := 12) (by decide) p4 p2) mi_X4_signAmong ml_X4_114 rfl (ob_K hM) (by decide) (by decide) (by decide) (Nat.le_of_ble_eq_true rfl) (fun _ _ => trivial) (fun v _ => clo_T v) rfl dX4_readLaw_91 ?_
                    rintro v S' I' J' ⟨hS9, rfl, hI9, hJ9⟩
                    obtain rfl := hS9.symm
                    obtain rfl := hI9.symm
                    obtain rfl := hJ9.symm
                    rw [es]
                    refine V_if_ne C 101 dX4_readLaw_94 (by decide) (fun h94 => ?_) (fun h94 => absurd h94 (by decide))
                    refine V_iconst C (v := nI 0) dX4_readLaw_101 (by decide +kernel) ?_
                    refine V_callV (F := fun _ => True) C (c_expectF hR0 p4) mi_X4_expect ml_X4_105 rfl (ob_K hM) (by decide) (by decide) (by decide) (Nat.le_of_ble_eq_true rfl) (fun _ _ => trivial) (fun v _ => clo_T v) rfl dX4_readLaw_102 ?_
                    rintro v S' I' J' ⟨hS9, rfl, hI9, hJ9⟩
                    obtain rfl := hS9.symm
                    obtain rfl := hI9.symm
                    obtain rfl := hJ9.symm
                    exact V_vret C (Nat.zero_le _) (Nat.zero_le _) dX4_readLaw_105 (hP _ _ _ ⟨rfl, by rw [hlk, een]; exact ⟨hpos, r_at, fun b hb hb2 => (up2_ne _ _ _ hb).trans (fr4 p7 b hb hb2)⟩, rfl⟩)
              have hany := (c_levels (S := S) (J := J) (T := T) hR0 hla (m := L.length + 1) (by omega) 4 0 (by omega)).2
              refine V_aload_n C dX4_readLaw_68 rfl ?_
              refine V_getI C fl_X4_24 (ob_K hM) rfl dX4_readLaw_69 ?_
              refine V_if_ne C 80 dX4_readLaw_72 (by decide) (fun h72 => absurd (s3.1) h72) (fun h72 => ?_)
              refine V_aload_n C dX4_readLaw_75 rfl ?_
              refine V_iconst C (v := nI 0) dX4_readLaw_76 (by decide +kernel) ?_
              refine V_callV (F := fun _ => True) C (hany _ I3 (a2 + 1) (cdN L) hE3 s3 hLs hlt2 (by omega)) mi_X4_readAny ml_X4_109 rfl (ob_K hM) (by decide) (by decide) (by decide) (Nat.le_of_ble_eq_true rfl) (fun _ _ => trivial) (fun v _ => clo_T v) rfl dX4_readLaw_77 ?_
              rintro v S' I4 J4 ⟨hS9, rfl, hp, hJ9⟩
              obtain rfl := hS9.symm
              obtain rfl := hJ9.symm
              exact k80 _ hp
            refine V_aload_n C dX4_readLaw_43 rfl ?_
            refine V_getI C fl_X4_24 (ob_K hM) rfl dX4_readLaw_44 ?_
            refine V_if_ne C 68 dX4_readLaw_47 (by decide) (fun h47 => absurd (q3.1) h47) (fun h47 => ?_)
            refine V_aload_n C dX4_readLaw_50 rfl ?_
            refine V_aload_n C dX4_readLaw_51 rfl ?_
            refine V_ldcS C rfl 3 (by decide) rfl dX4_readLaw_52 ?_
            refine V_callV (F := fun _ => True) C (c_wordAmong hR0 hE2 (i := 3) (w0 := 10) (c := 1) (by decide) q3 q2) mi_X4_wordAmong ml_X4_92 rfl (ob_K hM) (by decide) (by decide) (by decide) (Nat.le_of_ble_eq_true rfl) (fun _ _ => trivial) (fun v _ => clo_T v) rfl dX4_readLaw_54 ?_
            rintro v S' I' J' ⟨hS9, rfl, hI9, hJ9⟩
            obtain rfl := hS9.symm
            obtain rfl := hI9.symm
            obtain rfl := hJ9.symm
            rw [ew]
            refine V_if_ne C 64 dX4_readLaw_57 (by decide) (fun h57 => absurd (rfl) h57) (fun h57 => ?_)
            refine V_iconst C (v := nI 1) dX4_readLaw_60 (by decide +kernel) ?_
            refine V_goto C 65 dX4_readLaw_61 (by decide) ?_
            refine V_callV (F := fun _ => True) C (c_expectT hR0 hE2 q3 q2 h0) mi_X4_expect ml_X4_105 rfl (ob_K hM) (by decide) (by decide) (by decide) (Nat.le_of_ble_eq_true rfl) (fun _ _ => trivial) (fun v _ => clo_T v) rfl dX4_readLaw_65 ?_
            rintro v S' I5 J5 ⟨hS9, rfl, z1, z2, hJ9⟩
            obtain rfl := hS9.symm
            obtain rfl := hJ9.symm
            exact k68 I5 z2 z1
          · have een : enP (toks T) k lo hi ob a2 = .error (errP (toks T) a2 1) := by rw [enP, if_neg gw]
            have ew : fwN (toks T) a2 10 1 = -1 := fwN_no 1 (fun j hj => by rw [show j = 0 by omega]; exact gw)
            have hpos := (errP_pos (K := toks T) (a := a2) (w := 1) (by have := (tk_wf q2).1; omega) (by decide) (by decide)).1
            have fin := bad 68 (up2 I2 1130 2 (errP (toks T) a2 1)) _ (Or.inr (Or.inl rfl)) (by rw [hlk, een]) hpos r_at (fun b hb hb2 => (up2_ne _ _ _ hb).trans (f2 b hb hb2))
            refine V_aload_n C dX4_readLaw_43 rfl ?_
            refine V_getI C fl_X4_24 (ob_K hM) rfl dX4_readLaw_44 ?_
            refine V_if_ne C 68 dX4_readLaw_47 (by decide) (fun h47 => absurd (q3.1) h47) (fun h47 => ?_)
            refine V_aload_n C dX4_readLaw_50 rfl ?_
            refine V_aload_n C dX4_readLaw_51 rfl ?_
            refine V_ldcS C rfl 3 (by decide) rfl dX4_readLaw_52 ?_
            refine V_callV (F := fun _ => True) C (c_wordAmong hR0 hE2 (i := 3) (w0 := 10) (c := 1) (by decide) q3 q2) mi_X4_wordAmong ml_X4_92 rfl (ob_K hM) (by decide) (by decide) (by decide) (Nat.le_of_ble_eq_true rfl) (fun _ _ => trivial) (fun v _ => clo_T v) rfl dX4_readLaw_54 ?_
            rintro v S' I' J' ⟨hS9, rfl, hI9, hJ9⟩
            obtain rfl := hS9.symm
            obtain rfl := hI9.symm
            obtain rfl := hJ9.symm
            rw [ew]
            refine V_if_ne C 64 dX4_readLaw_57 (by decide) (fun h57 => ?_) (fun h57 => absurd h57 (by decide))
            refine V_iconst C (v := nI 0) dX4_readLaw_64 (by decide +kernel) ?_
            refine V_callV (F := fun _ => True) C (c_expectF hR0 q3) mi_X4_expect ml_X4_105 rfl (ob_K hM) (by decide) (by decide) (by decide) (Nat.le_of_ble_eq_true rfl) (fun _ _ => trivial) (fun v _ => clo_T v) rfl dX4_readLaw_65 ?_
            rintro v S' I' J' ⟨hS9, rfl, hI9, hJ9⟩
            obtain rfl := hS9.symm
            obtain rfl := hI9.symm
            obtain rfl := hJ9.symm
            exact fin
      refine V_aload_n C dX4_readLaw_0 rfl ?_
      refine V_ldcS C rfl 1 (by decide) rfl dX4_readLaw_1 ?_
      refine V_callV (F := fun _ => True) C (c_wordAmong hR0 hE (i := 1) (w0 := 0) (c := 9) (by decide) hs ha) mi_X4_wordAmong ml_X4_92 rfl (ob_K hM) (by decide) (by decide) (by decide) (Nat.le_of_ble_eq_true rfl) (fun _ _ => trivial) (fun v _ => clo_T v) rfl dX4_readLaw_3 ?_
      rintro v S' I' J' ⟨hS9, rfl, hI9, hJ9⟩
      obtain rfl := hS9.symm
      obtain rfl := hI9.symm
      obtain rfl := hJ9.symm
      rw [ek]
      refine V_istore_n C dX4_readLaw_6 (hn _ (by decide)) ?_
      refine V_iload_n C dX4_readLaw_7 rfl ?_
      refine V_iconst C (v := (-1)) dX4_readLaw_8 (by decide +kernel) ?_
      refine V_icmp_ne C 18 dX4_readLaw_9 (by decide) (fun h9 => ?_) (fun h9 => absurd h9 (nk))
      refine V_aload_n C dX4_readLaw_18 rfl ?_
      refine V_getR C fl_X4_15 (ob_K hM) hT1 rfl dX4_readLaw_19 ?_
      refine V_callV (F := fun _ => True) C (c_isFullN hLa hB.1.1 h24) mi_X2_isFull ml_X4_96 rfl (ob_K hLa) (by decide) (by decide) (by decide) (Nat.le_of_ble_eq_true rfl) (fun _ _ => trivial) (fun v _ => clo_T v) rfl dX4_readLaw_22 ?_
      rintro v S' I' J' ⟨hS9, rfl, hI9, hJ9⟩
      obtain rfl := hS9.symm
      obtain rfl := hI9.symm
      obtain rfl := hJ9.symm
      refine V_if_eq C 34 dX4_readLaw_25 (by decide) (fun h25 => ?_) (fun h25 => absurd (bI_f hfull) h25)
      refine V_aload_n C dX4_readLaw_34 rfl ?_
      refine V_callV (F := fun _ => True) C (c_adv hR0 hE hs ha (by rw [h1]; decide)) mi_X4_advance ml_X4_31 rfl (ob_K hM) (by decide) (by decide) (by decide) (Nat.le_of_ble_eq_true rfl) (fun _ _ => trivial) (fun v _ => clo_T v) rfl dX4_readLaw_35 ?_
      rintro v S' I1 J1 ⟨hS9, rfl, z1, z2, hJ9⟩
      obtain rfl := hS9.symm
      obtain rfl := hJ9.symm
      refine V_aload_n C dX4_readLaw_38 rfl ?_
      refine V_iload_n C dX4_readLaw_39 rfl ?_
      refine V_callV (F := fun _ => True) C (c_readNumbers hR0 hla (hE.cg z1) z2 hlt1 (hB.rd hla z1) (by omega) hop hk) mi_X4_readNumbers ml_X4_100 rfl (ob_K hM) (by decide) (by decide) (by decide) (Nat.le_of_ble_eq_true rfl) (fun _ _ => trivial) (fun v _ => clo_T v) rfl dX4_readLaw_40 ?_
      rintro v S' I5 J5 ⟨hS9, rfl, hq, hJ9⟩
      obtain rfl := hS9.symm
      obtain rfl := hJ9.symm
      exact k43 _ (hq.fr z1)
end C38
