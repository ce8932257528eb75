/-! the reference's calls: runs, mark, feed -/
section M23
variable {l : Launch} {S : HS} {I I' : HI} {J J' : HJ} {z : SV}
def sdQ (q : QV) (g : Int32) : QV := (up2 q.1 0 3 g, q.2)
def rnW (z : SV) (n : Nat) (m : Int32) (g : Nat) : Int32 := if 0 ≤ m then (if thD (itN (stZ z z.2.2.1.2.1) n (sdQ z.1 (nI g))).1 = m then nI 1 else nI 0) else thD (itN (stZ z z.2.2.1.2.1) n (sdQ z.1 (nI g))).1
def rnS (z : SV) (n : Nat) (m : Int32) : Nat → Int32
  | 0 => 0
  | g + 1 => rnS z n m g + rnW z n m g
abbrev okRuns (k n m : Int32) : Prop := wi k (nI 1) (nI 40) ∧ wi n (nI 0) (nI 60) ∧ wi m (-1) (nI 30)
def runsV (z : SV) (k n m : Int32) : Int32 := if okRuns k n m then rnS z (cl n) m (cl k) else -1
theorem okD_sd {q : QV} {g : Int32} (h : okD q.1) : okD (sdQ q g).1 := ⟨kpD.sd.ok h.1, h.2⟩
set_option maxRecDepth 100000 in
set_option maxHeartbeats 1000000 in
theorem m_runs (hM : Ob S 7 1000) (hR : RefR z I J) (hO : OkR z) (k n m : Int32) : Mn l yX7_runs cX7_runs 7 (some .int) 6 [.ref 1000, .int k, .int n, .int m] S I J (fun v I' J' => v = some (.int (runsV z k n m)) ∧ RefR z I' J') := by
  refine Mn.of (by decide) (fun ad => by simp [lg_sl, vv, Value.category]) (fun X P hP hn C => ?_)
  have outer : okRuns k n m → ∀ (k' n' : Nat), k' ≤ 40 → n' ≤ 60 → k = nI k' → n = nI n' → ∀ (c x : Nat) (In : HI) (Jn : HJ) (x6 : Option Value), x + c = k' → RefR z In Jn → V X P 0 0 43 [some (.ref 1000), some (.int k), some (.int n), some (.int m), some (.int (rnS z n' m x)), some (.int (nI x)), x6] [] S In Jn := by
    intro ok k' n' hk' hn' ek en c
    subst ek
    subst en
    induction c with
    | zero =>
      intro x In Jn x6 hx hR
      have hx : x = k' := hx
      subst hx
      refine V_iload C dX7_runs_43 rfl ?_
      refine V_iload_n C dX7_runs_45 rfl ?_
      refine V_icmp_ge C 133 dX7_runs_46 (by decide) (fun h46 => ?_) (fun h46 => absurd (Int32.le_refl _) h46)
      refine V_iload C dX7_runs_133 rfl ?_
      exact V_iret C (Nat.zero_le _) (Nat.zero_le _) dX7_runs_135 (hP _ _ _ ⟨by rw [runsV, if_pos ok, cl, cl, nI_clamp (by omega), nI_clamp (by omega)], hR⟩)
    | succ c ih =>
      intro x In Jn x6 hx hR
      have inner : ∀ (d y : Nat) (I2 : HI) (J2 : HJ), y + d = n' → RefR z I2 J2 → I2 1000 25 = z.2.2.1.2.1 → refQ I2 J2 7 = itN (stZ z z.2.2.1.2.1) y (sdQ z.1 (nI x)) → V X P 0 0 76 [some (.ref 1000), some (.int (nI k')), some (.int (nI n')), some (.int m), some (.int (rnS z n' m x)), some (.int (nI x)), some (.int (nI y))] [] S I2 J2 := by
        intro d
        induction d with
        | zero =>
          intro y I2 J2 hy h1 h2 h3
          have hy : y = n' := hy
          subst hy
          have h4 : okD (itN (stZ z z.2.2.1.2.1) y (sdQ z.1 (nI x))).1 := itN_ok hO y _ (okD_sd hO.1)
          have hD : rOk (refD I2 J2 7) := by rw [q7 h3]; exact h4.1
          have nx := ih (x + 1) I2 J2 (some (.int (nI y))) (by omega) h1
          rw [rnS, rnW] at nx
          refine V_iload C dX7_runs_76 rfl ?_
          refine V_iload_n C dX7_runs_78 rfl ?_
          refine V_icmp_ge C 94 dX7_runs_79 (by decide) (fun h79 => ?_) (fun h79 => absurd (Int32.le_refl _) h79)
          refine V_iload C dX7_runs_94 rfl ?_
          refine V_iload_n C dX7_runs_96 rfl ?_
          refine V_if_ge C 109 dX7_runs_97 (by decide) (fun h97 => ?_) (fun h97 => ?_)
          · refine V_aload_n C dX7_runs_109 rfl ?_
            refine V_bipush C (v := nI 7) dX7_runs_110 (by decide +kernel) ?_
            refine V_callV (F := fun _ => True) C (m_there (b := 7) hM (by omega) hD) mi_X7_there ml_X7_317 rfl (ob_K hM) (by decide) (by decide) (by decide) (Nat.le_of_ble_eq_true rfl) (fun _ _ => trivial) (fun v _ => clo_T v) rfl dX7_runs_112 ?_
            rintro v S' I' J' ⟨hS, rfl, hI, hJ⟩
            obtain rfl := hS.symm
            obtain rfl := hI.symm
            obtain rfl := hJ.symm
            rw [q7 h3]
            refine V_iload_n C dX7_runs_115 rfl ?_
            refine V_icmp_ne C 123 dX7_runs_116 (by decide) (fun h116 => ?_) (fun h116 => ?_)
            · refine V_iconst C (v := nI 0) dX7_runs_123 (by decide +kernel) ?_
              refine V_iadd C dX7_runs_124 ?_
              refine V_istore C dX7_runs_125 (hn _ (by decide)) ?_
              refine V_iincU C dX7_runs_127 rfl (hn _ (by decide)) ?_
              refine V_goto C 43 dX7_runs_130 (by decide) ?_
              first | (rw [if_pos h97, if_neg h116] at nx; exact nx) | (rw [if_pos h97, if_pos h116] at nx; exact nx) | (rw [if_neg h97] at nx; exact nx)
            · refine V_iconst C (v := nI 1) dX7_runs_119 (by decide +kernel) ?_
              refine V_goto C 124 dX7_runs_120 (by decide) ?_
              refine V_iadd C dX7_runs_124 ?_
              refine V_istore C dX7_runs_125 (hn _ (by decide)) ?_
              refine V_iincU C dX7_runs_127 rfl (hn _ (by decide)) ?_
              refine V_goto C 43 dX7_runs_130 (by decide) ?_
              first | (rw [if_pos h97, if_neg h116] at nx; exact nx) | (rw [if_pos h97, if_pos h116] at nx; exact nx) | (rw [if_neg h97] at nx; exact nx)
          · refine V_aload_n C dX7_runs_100 rfl ?_
            refine V_bipush C (v := nI 7) dX7_runs_101 (by decide +kernel) ?_
            refine V_callV (F := fun _ => True) C (m_there (b := 7) hM (by omega) hD) mi_X7_there ml_X7_317 rfl (ob_K hM) (by decide) (by decide) (by decide) (Nat.le_of_ble_eq_true rfl) (fun _ _ => trivial) (fun v _ => clo_T v) rfl dX7_runs_103 ?_
            rintro v S' I' J' ⟨hS, rfl, hI, hJ⟩
            obtain rfl := hS.symm
            obtain rfl := hI.symm
            obtain rfl := hJ.symm
            rw [q7 h3]
            refine V_goto C 124 dX7_runs_106 (by decide) ?_
            refine V_iadd C dX7_runs_124 ?_
            refine V_istore C dX7_runs_125 (hn _ (by decide)) ?_
            refine V_iincU C dX7_runs_127 rfl (hn _ (by decide)) ?_
            refine V_goto C 43 dX7_runs_130 (by decide) ?_
            first | (rw [if_pos h97, if_neg h116] at nx; exact nx) | (rw [if_pos h97, if_pos h116] at nx; exact nx) | (rw [if_neg h97] at nx; exact nx)
        | succ d ih2 =>
          intro y I2 J2 hy h1 h2 h3
          have h4 : okD (itN (stZ z z.2.2.1.2.1) y (sdQ z.1 (nI x))).1 := itN_ok hO y _ (okD_sd hO.1)
          refine V_iload C dX7_runs_76 rfl ?_
          refine V_iload_n C dX7_runs_78 rfl ?_
          refine V_icmp_ge C 94 dX7_runs_79 (by decide) (fun h79 => absurd h79 (nI_ge (by omega) (by omega))) (fun h79 => ?_)
          refine V_aload_n C dX7_runs_82 rfl ?_
          refine V_bipush C (v := nI 7) dX7_runs_83 (by decide +kernel) ?_
          refine V_callV (F := fun _ => True) C (m_steps1 (b := 7) hM (by omega) (h1.rG hO h2) (fun f => hO.2.2.1 _ f) h1.2.1 (by rw [q7 h3]; exact h4)) mi_X7_steps1 ml_X7_394 rfl (ob_K hM) (by decide) (by decide) (by decide) (Nat.le_of_ble_eq_true rfl) (fun _ _ => trivial) (fun v _ => clo_T v) rfl dX7_runs_85 ?_
          rintro v S' I3 J3 ⟨hS, rfl, e, f⟩
          obtain rfl := hS.symm
          obtain ⟨s1, s2, s3⟩ := st7 h1 hO h3 h4 e f
          refine V_iincU C dX7_runs_88 rfl (hn _ (by decide)) ?_
          refine V_goto C 76 dX7_runs_91 (by decide) ?_
          exact ih2 (y + 1) _ _ (by omega) (h1.kp s1) (s2.trans h2) (by rw [itN_s]; exact s3)
      refine V_iload C dX7_runs_43 rfl ?_
      refine V_iload_n C dX7_runs_45 rfl ?_
      refine V_icmp_ge C 133 dX7_runs_46 (by decide) (fun h46 => absurd h46 (nI_ge (by omega) (by omega))) (fun h46 => ?_)
      refine V_aload_n C dX7_runs_49 rfl ?_
      refine V_iconst C (v := nI 0) dX7_runs_50 (by decide +kernel) ?_
      refine V_bipush C (v := nI 7) dX7_runs_51 (by decide +kernel) ?_
      refine V_callV (F := fun _ => True) C (m_copies hM (by omega) (by omega) (by omega) hR.2.1) mi_X7_copies ml_X7_415 rfl (ob_K hM) (by decide) (by decide) (by decide) (Nat.le_of_ble_eq_true rfl) (fun _ _ => trivial) (fun v _ => clo_T v) rfl dX7_runs_53 ?_
      rintro v S' I2 J2 ⟨hS, rfl, e, f⟩
      obtain rfl := hS.symm
      have hc2 : cmD (refD I2 J2 7) ≤ 30 := by rw [q7 e]; exact hR.2.1 0 (by omega)
      have hR2 := hR.kp (Kp.fr f hc2)
      have hR3 := hR2.kp (Kp.fr (Fr.seed (b := 7) (v := nI x)) (by rw [rSeed]; exact hc2))
      have e24 : I2 1000 24 = z.2.2.1.2.1 := hR2.2.2.2.2.2.1
      have e3 : refQ (up2 I2 1033 7 (nI x)) J2 7 = sdQ z.1 (nI x) := by
        rw [hR.1] at e
        rw [← e]
        unfold refQ sdQ
        rw [rSeed]
      refine V_aload_n C dX7_runs_56 rfl ?_
      refine V_getR C fl_X7_134 (ob_K hM) (ob_R hM 32 1033 rfl rfl) rfl dX7_runs_57 ?_
      refine V_bipush C (v := nI 7) dX7_runs_60 (by decide +kernel) ?_
      refine V_iload C dX7_runs_62 rfl ?_
      refine V_iast C (7) (ob_A hM 32 1033 rfl rfl) (by first | rfl | (simp only [nI_add, pk_mul]; done) | (simp only [nI_add, pk_mul]; congr 1; omega)) (by rw [ob_N hM 32 1033 rfl rfl]; omega) (by rw [ob_N hM 32 1033 rfl rfl]; decide) dX7_runs_64 ?_
      refine V_aload_n C dX7_runs_65 rfl ?_
      refine V_aload_n C dX7_runs_66 rfl ?_
      refine V_getI C fl_X7_249 (ob_K hM) rfl dX7_runs_67 ?_
      refine V_putI C fl_X7_298 (ob_K hM) rfl rfl dX7_runs_70 ?_
      refine V_iconst C (v := nI 0) dX7_runs_73 (by decide +kernel) ?_
      refine V_istore C dX7_runs_74 (hn _ (by decide)) ?_
      rw [show up2 I2 1033 7 (nI x) 1000 24 = z.2.2.1.2.1 from e24]
      exact inner n' 0 _ _ (Nat.zero_add _) (hR3.kp (Kp.o (Or.inr rfl))) o_at (refQ_o.trans e3)
  have key : ∀ I0, RefR z I0 J → V X P 0 0 5 [some (.ref 1000), some (.int k), some (.int n), some (.int m), none, none, none] [] S I0 J := by
    intro I0 hR
    refine V_iload_n C dX7_runs_5 rfl ?_
    refine V_iconst C (v := nI 1) dX7_runs_6 (by decide +kernel) ?_
    refine V_bipush C (v := nI 40) dX7_runs_7 (by decide +kernel) ?_
    refine V_callS (F := fun _ => True) C (m_within _ _ _) ms_X7_within ml_X7_301 rfl (by decide) (by decide) (Nat.le_of_ble_eq_true rfl) (fun _ _ => trivial) (fun v _ => clo_T v) rfl dX7_runs_9 ?_
    rintro v S' I' J' ⟨hS, rfl, hI, hJ⟩
    obtain rfl := hS.symm
    obtain rfl := hI.symm
    obtain rfl := hJ.symm
    refine V_if_eq C 35 dX7_runs_12 (by decide) (fun h12 => ?_) (fun h12 => ?_)
    · refine V_iconst C (v := (-1)) dX7_runs_35 (by decide +kernel) ?_
      exact V_iret C (Nat.zero_le _) (Nat.zero_le _) dX7_runs_36 (hP _ _ _ (by have no : ¬ okRuns k n m := (by first | exact fun q => (bI_0.mp h12) q.1 | exact fun q => (bI_0.mp h22) q.2.1 | exact fun q => (bI_0.mp h32) q.2.2); exact ⟨by rw [runsV, if_neg no], hR⟩))
    · refine V_iload_n C dX7_runs_15 rfl ?_
      refine V_iconst C (v := nI 0) dX7_runs_16 (by decide +kernel) ?_
      refine V_bipush C (v := nI 60) dX7_runs_17 (by decide +kernel) ?_
      refine V_callS (F := fun _ => True) C (m_within _ _ _) ms_X7_within ml_X7_301 rfl (by decide) (by decide) (Nat.le_of_ble_eq_true rfl) (fun _ _ => trivial) (fun v _ => clo_T v) rfl dX7_runs_19 ?_
      rintro v S' I' J' ⟨hS, rfl, hI, hJ⟩
      obtain rfl := hS.symm
      obtain rfl := hI.symm
      obtain rfl := hJ.symm
      refine V_if_eq C 35 dX7_runs_22 (by decide) (fun h22 => ?_) (fun h22 => ?_)
      · refine V_iconst C (v := (-1)) dX7_runs_35 (by decide +kernel) ?_
        exact V_iret C (Nat.zero_le _) (Nat.zero_le _) dX7_runs_36 (hP _ _ _ (by have no : ¬ okRuns k n m := (by first | exact fun q => (bI_0.mp h12) q.1 | exact fun q => (bI_0.mp h22) q.2.1 | exact fun q => (bI_0.mp h32) q.2.2); exact ⟨by rw [runsV, if_neg no], hR⟩))
      · refine V_iload_n C dX7_runs_25 rfl ?_
        refine V_iconst C (v := (-1)) dX7_runs_26 (by decide +kernel) ?_
        refine V_bipush C (v := nI 30) dX7_runs_27 (by decide +kernel) ?_
        refine V_callS (F := fun _ => True) C (m_within _ _ _) ms_X7_within ml_X7_301 rfl (by decide) (by decide) (Nat.le_of_ble_eq_true rfl) (fun _ _ => trivial) (fun v _ => clo_T v) rfl dX7_runs_29 ?_
        rintro v S' I' J' ⟨hS, rfl, hI, hJ⟩
        obtain rfl := hS.symm
        obtain rfl := hI.symm
        obtain rfl := hJ.symm
        refine V_if_ne C 37 dX7_runs_32 (by decide) (fun h32 => ?_) (fun h32 => ?_)
        · refine V_iconst C (v := nI 0) dX7_runs_37 (by decide +kernel) ?_
          refine V_istore C dX7_runs_38 (hn _ (by decide)) ?_
          refine V_iconst C (v := nI 0) dX7_runs_40 (by decide +kernel) ?_
          refine V_istore C dX7_runs_41 (hn _ (by decide)) ?_
          have ok : okRuns k n m := ⟨Decidable.not_not.mp (fun q => h12 (bI_0.mpr q)), Decidable.not_not.mp (fun q => h22 (bI_0.mpr q)), Decidable.not_not.mp (fun q => h32 (bI_0.mpr q))⟩
          obtain ⟨k', hk1, hk2, ek⟩ := wi1_ex (by omega) ok.1
          obtain ⟨n', hn', en⟩ := wi_ex (by omega) ok.2.1
          exact outer ok k' n' hk2 hn' ek en _ 0 _ _ _ (Nat.zero_add _) hR
        · refine V_iconst C (v := (-1)) dX7_runs_35 (by decide +kernel) ?_
          exact V_iret C (Nat.zero_le _) (Nat.zero_le _) dX7_runs_36 (hP _ _ _ (by have no : ¬ okRuns k n m := (by first | exact fun q => (bI_0.mp h12) q.1 | exact fun q => (bI_0.mp h22) q.2.1 | exact fun q => (bI_0.mp h32) q.2.2); exact ⟨by rw [runsV, if_neg no], hR⟩))
  refine V_aload_n C dX7_runs_0 rfl ?_
  refine V_iconst C (v := nI 0) dX7_runs_1 (by decide +kernel) ?_
  refine V_putI C fl_X7_1 (ob_K hM) rfl rfl dX7_runs_2 ?_
  exact key _ hR.zr
abbrev okMark (z : SV) (m g : Int32) : Prop := wi m (nI 0) (nI 5) ∧ (g = 0 ∨ (z.2.1 (cl m)).isSome = true)
def nMark (z : SV) (m g : Int32) : SV := if okMark z m g then (if g = 0 then (z.1, va_up z.2.1 (cl m) (some z.1), z.2.2) else ((z.2.1 (cl m)).getD z.1, z.2)) else z
theorem refD_mk {m : Nat} {v : Int32} {d : Nat} : refD (up2 I 1052 m v) J d = refD I J d := refD_congr (fun a h1 h2 => up2_ne _ _ _ (by omega))
theorem refQ_mk {m : Nat} {v : Int32} {d : Nat} : refQ (up2 I 1052 m v) J d = refQ I J d := by unfold refQ; rw [refD_mk]
/-- a mark laid down -/
theorem RefR.lay {m : Nat} (hm : m < 6) (h : RefR z I J) (f : Fr (1 + m) I J I' J') (e : refQ I' J' (1 + m) = refQ I J 0) : RefR (z.1, va_up z.2.1 m (some z.1), z.2.2) (up2 I' 1052 m 1) J' := by
  obtain ⟨h1, h2, h3, h4, h5, h6, h7, h8, h9, h10, h11⟩ := h
  have k1 : ∀ c, up2 I' 1052 m 1 1000 c = I 1000 c := fun c => by rw [up2_ne _ _ _ (by decide), f.1 1000 (by omega)]
  have k2 : ∀ a, a ≠ 1052 → (a < 1023 ∨ a = 1025 ∨ a = 1026 ∨ a = 1045 ∨ a = 1046 ∨ 1049 ≤ a) → up2 I' 1052 m 1 a = I a := fun a ha hb => by rw [up2_ne _ _ _ ha, f.1 a hb]
  have k3 : ∀ d, d < 8 → d ≠ 1 + m → refQ (up2 I' 1052 m 1) J' d = refQ I J d := fun d hd hn => by rw [refQ_mk]; unfold refQ; rw [f.2.1 d hd hn, (f.2.2.2 d hn).1, (f.2.2.2 d hn).2]
  refine ⟨(k3 0 (by omega) (by omega)).trans h1, fun d hd => ?_, fun i hi => ?_, RL_cg (k1 10) (fun a g1 g2 => k2 a (by omega) (by omega)) h4, opR_cg (k1 10) (k2 1019 (by omega) (by omega)) h5, (k1 24).trans h6, (k1 44).trans h7, (k1 45).trans h8, tpR_cg (k1 2) (k2 1002 (by omega) (by omega)) h9, tdR_cg (k1 48) (k2 1050 (by omega) (by omega)) (k2 1051 (by omega) (by omega)) h10, fun i hi => by rw [f.2.2.1 1010 (by omega) (by omega)]; exact h11 i hi⟩
  · rw [refD_mk]
    refine f.cm h2 ?_ d hd
    rw [show refD I' J' (1 + m) = refD I J 0 from congrArg Prod.fst e]
    exact h2 0 (by omega)
  · by_cases em : i = m
    · subst em
      show mkR _ _ _ (va_up z.2.1 i (some z.1) i)
      rw [va_up_self]
      exact ⟨by rw [up2_row, va_up_self], by rw [refQ_mk, e, h1]⟩
    · show mkR _ _ _ (va_up z.2.1 m (some z.1) i)
      rw [va_up_ne _ _ em]
      have e1 : up2 I' 1052 m 1 1052 i = I 1052 i := by rw [up2_row, va_up_ne _ _ em, f.1 1052 (by omega)]
      have e2 := k3 (1 + i) (by omega) (by omega)
      have h := h3 i hi
      revert h
      cases z.2.1 i with
      | none => exact fun h => e1.trans h
      | some q => exact fun h => ⟨e1.trans h.1, e2.trans h.2⟩
set_option maxRecDepth 100000 in
theorem m_mark (hM : Ob S 7 1000) (hR : RefR z I J) (hO : OkR z) (m g : Int32) : Mn l yX7_mark cX7_mark 3 (some .boolean) 1 [.ref 1000, .int m, .int g] S I J (fun v I' J' => v = some (.int (bI (okMark z m g))) ∧ RefR (nMark z m g) I' J') := by
  refine Mn.of (by decide) (fun ad => by simp [lg_sl, vv, Value.category]) (fun X P hP hn C => ?_)
  have n1 : vp_nar .boolean (nI 1) = 1 := by decide
  have key : ∀ I0, RefR z I0 J → V X P 0 0 5 [some (.ref 1000), some (.int m), some (.int g)] [] S I0 J := by
    intro I0 hR
    by_cases hm : wi m (nI 0) (nI 5)
    · obtain ⟨k, hk, ek⟩ := wi_ex (by omega) hm
      have ec : cl m = k := by rw [ek]; exact nI_clamp (by omega)
      have hk6 : k < 6 := by omega
      have hmk := hR.2.2.1 k hk6
      by_cases hg : g = 0
      · have ok : okMark z m g := ⟨hm, Or.inl hg⟩
        refine V_iload_n C dX7_mark_5 rfl ?_
        refine V_iconst C (v := nI 0) dX7_mark_6 (by decide +kernel) ?_
        refine V_iconst C (v := nI 5) dX7_mark_7 (by decide +kernel) ?_
        refine V_callS (F := fun _ => True) C (m_within _ _ _) ms_X7_within ml_X7_301 rfl (by decide) (by decide) (Nat.le_of_ble_eq_true rfl) (fun _ _ => trivial) (fun v _ => clo_T v) rfl dX7_mark_8 ?_
        rintro v S' I' J' ⟨hS, rfl, hI, hJ⟩
        obtain rfl := hS.symm
        obtain rfl := hI.symm
        obtain rfl := hJ.symm
        refine V_if_eq C 27 dX7_mark_11 (by decide) (fun h11 => absurd h11 (by rw [bI_0]; exact fun q => q hm)) (fun h11 => ?_)
        refine V_iload_n C dX7_mark_14 rfl ?_
        refine V_if_eq C 29 dX7_mark_15 (by decide) (fun h15 => ?_) (fun h15 => absurd (hg) h15)
        refine V_aload_n C dX7_mark_29 rfl ?_
        refine V_iload_n C dX7_mark_30 rfl ?_
        refine V_if_eq C 40 dX7_mark_31 (by decide) (fun h31 => ?_) (fun h31 => absurd (hg) h31)
        refine V_iconst C (v := nI 0) dX7_mark_40 (by decide +kernel) ?_
        refine V_iload_n C dX7_mark_41 rfl ?_
        refine V_if_eq C 49 dX7_mark_42 (by decide) (fun h42 => ?_) (fun h42 => absurd (hg) h42)
        refine V_iconst C (v := nI 1) dX7_mark_49 (by decide +kernel) ?_
        refine V_iload_n C dX7_mark_50 rfl ?_
        refine V_iadd C dX7_mark_51 ?_
        refine V_top (congrArg Value.int (show nI 1 + m = nI (1 + k) by rw [ek, nI_add])) ?_
        refine V_callV (F := fun _ => True) C (m_copies hM (fr := 0) (to := 1 + k) (by omega) (by omega) (by omega) hR.2.1) mi_X7_copies ml_X7_415 rfl (ob_K hM) (by decide) (by decide) (by decide) (Nat.le_of_ble_eq_true rfl) (fun _ _ => trivial) (fun v _ => clo_T v) rfl dX7_mark_52 ?_
        rintro v S' I2 J2 ⟨hS, rfl, e, f⟩
        obtain rfl := hS.symm
        refine V_aload_n C dX7_mark_55 rfl ?_
        refine V_getR C fl_X7_182 (ob_K hM) (ob_R hM 51 1052 rfl rfl) rfl dX7_mark_56 ?_
        refine V_iload_n C dX7_mark_59 rfl ?_
        refine V_iconst C (v := nI 1) dX7_mark_60 (by decide +kernel) ?_
        refine V_zast C (k) (ob_A hM 51 1052 rfl rfl) ek (by rw [ob_N hM 51 1052 rfl rfl]; omega) (by rw [ob_N hM 51 1052 rfl rfl]; decide) dX7_mark_61 ?_
        refine V_iconst C (v := nI 1) dX7_mark_62 (by decide +kernel) ?_
        exact V_zret C (by first | exact Or.inl rfl | exact Or.inr rfl | (simp only [bI]; split <;> first | exact Or.inl rfl | exact Or.inr rfl) | assumption) (Nat.zero_le _) (Nat.zero_le _) dX7_mark_63 (hP _ _ _ ⟨by rw [bI_t ok]; rfl, by rw [nMark, if_pos ok, if_pos hg, n1, ec]; exact hR.lay hk6 f e⟩)
      · cases hz : z.2.1 k with
        | none =>
          have no : ¬ okMark z m g := fun q => by
            rcases q.2 with h | h
            · exact hg h
            · rw [ec, hz] at h; cases h
          rw [hz] at hmk
          have e0 : I0 1052 k = 0 := hmk
          refine V_iload_n C dX7_mark_5 rfl ?_
          refine V_iconst C (v := nI 0) dX7_mark_6 (by decide +kernel) ?_
          refine V_iconst C (v := nI 5) dX7_mark_7 (by decide +kernel) ?_
          refine V_callS (F := fun _ => True) C (m_within _ _ _) ms_X7_within ml_X7_301 rfl (by decide) (by decide) (Nat.le_of_ble_eq_true rfl) (fun _ _ => trivial) (fun v _ => clo_T v) rfl dX7_mark_8 ?_
          rintro v S' I' J' ⟨hS, rfl, hI, hJ⟩
          obtain rfl := hS.symm
          obtain rfl := hI.symm
          obtain rfl := hJ.symm
          refine V_if_eq C 27 dX7_mark_11 (by decide) (fun h11 => absurd h11 (by rw [bI_0]; exact fun q => q hm)) (fun h11 => ?_)
          refine V_iload_n C dX7_mark_14 rfl ?_
          refine V_if_eq C 29 dX7_mark_15 (by decide) (fun h15 => absurd h15 (hg)) (fun h15 => ?_)
          refine V_aload_n C dX7_mark_18 rfl ?_
          refine V_getR C fl_X7_182 (ob_K hM) (ob_R hM 51 1052 rfl rfl) rfl dX7_mark_19 ?_
          refine V_iload_n C dX7_mark_22 rfl ?_
          refine V_zald C (k) (ob_A hM 51 1052 rfl rfl) ek (by rw [ob_N hM 51 1052 rfl rfl]; omega) (by rw [ob_N hM 51 1052 rfl rfl]; decide) dX7_mark_23 ?_
          refine V_if_ne C 29 dX7_mark_24 (by decide) (fun h24 => absurd (e0) h24) (fun h24 => ?_)
          refine V_iconst C (v := nI 0) dX7_mark_27 (by decide +kernel) ?_
          exact V_zret C (by first | exact Or.inl rfl | exact Or.inr rfl | (simp only [bI]; split <;> first | exact Or.inl rfl | exact Or.inr rfl) | assumption) (Nat.zero_le _) (Nat.zero_le _) dX7_mark_28 (hP _ _ _ ⟨by rw [bI_f no]; rfl, by rw [nMark, if_neg no]; exact hR⟩)
        | some q =>
          have ok : okMark z m g := ⟨hm, Or.inr (by rw [ec, hz]; rfl)⟩
          rw [hz] at hmk
          obtain ⟨e1, e2⟩ := hmk
          have hq := hO.2.1 k q hz
          have same : ∀ I2 : HI, I2 1052 = I0 1052 → up2 I2 1052 k 1 = I2 := fun I2 h => by
            funext a
            by_cases ea : a = 1052
            · subst ea
              rw [up2_row]
              funext j
              by_cases ej : j = k
              · subst ej; rw [va_up_self, h, e1]
              · rw [va_up_ne _ _ ej]
            · rw [up2_ne _ _ _ ea]
          refine V_iload_n C dX7_mark_5 rfl ?_
          refine V_iconst C (v := nI 0) dX7_mark_6 (by decide +kernel) ?_
          refine V_iconst C (v := nI 5) dX7_mark_7 (by decide +kernel) ?_
          refine V_callS (F := fun _ => True) C (m_within _ _ _) ms_X7_within ml_X7_301 rfl (by decide) (by decide) (Nat.le_of_ble_eq_true rfl) (fun _ _ => trivial) (fun v _ => clo_T v) rfl dX7_mark_8 ?_
          rintro v S' I' J' ⟨hS, rfl, hI, hJ⟩
          obtain rfl := hS.symm
          obtain rfl := hI.symm
          obtain rfl := hJ.symm
          refine V_if_eq C 27 dX7_mark_11 (by decide) (fun h11 => absurd h11 (by rw [bI_0]; exact fun q => q hm)) (fun h11 => ?_)
          refine V_iload_n C dX7_mark_14 rfl ?_
          refine V_if_eq C 29 dX7_mark_15 (by decide) (fun h15 => absurd h15 (hg)) (fun h15 => ?_)
          refine V_aload_n C dX7_mark_18 rfl ?_
          refine V_getR C fl_X7_182 (ob_K hM) (ob_R hM 51 1052 rfl rfl) rfl dX7_mark_19 ?_
          refine V_iload_n C dX7_mark_22 rfl ?_
          refine V_zald C (k) (ob_A hM 51 1052 rfl rfl) ek (by rw [ob_N hM 51 1052 rfl rfl]; omega) (by rw [ob_N hM 51 1052 rfl rfl]; decide) dX7_mark_23 ?_
          refine V_if_ne C 29 dX7_mark_24 (by decide) (fun h24 => ?_) (fun h24 => absurd h24 (by rw [e1]; decide))
          refine V_aload_n C dX7_mark_29 rfl ?_
          refine V_iload_n C dX7_mark_30 rfl ?_
          refine V_if_eq C 40 dX7_mark_31 (by decide) (fun h31 => absurd h31 (hg)) (fun h31 => ?_)
          refine V_iconst C (v := nI 1) dX7_mark_34 (by decide +kernel) ?_
          refine V_iload_n C dX7_mark_35 rfl ?_
          refine V_iadd C dX7_mark_36 ?_
          refine V_goto C 41 dX7_mark_37 (by decide) ?_
          refine V_top (congrArg Value.int (show nI 1 + m = nI (1 + k) by rw [ek, nI_add])) ?_
          refine V_iload_n C dX7_mark_41 rfl ?_
          refine V_if_eq C 49 dX7_mark_42 (by decide) (fun h42 => absurd h42 (hg)) (fun h42 => ?_)
          refine V_iconst C (v := nI 0) dX7_mark_45 (by decide +kernel) ?_
          refine V_goto C 52 dX7_mark_46 (by decide) ?_
          refine V_callV (F := fun _ => True) C (m_copies hM (fr := 1 + k) (to := 0) (by omega) (by omega) (by omega) hR.2.1) mi_X7_copies ml_X7_415 rfl (ob_K hM) (by decide) (by decide) (by decide) (Nat.le_of_ble_eq_true rfl) (fun _ _ => trivial) (fun v _ => clo_T v) rfl dX7_mark_52 ?_
          rintro v S' I2 J2 ⟨hS, rfl, e, f⟩
          obtain rfl := hS.symm
          refine V_aload_n C dX7_mark_55 rfl ?_
          refine V_getR C fl_X7_182 (ob_K hM) (ob_R hM 51 1052 rfl rfl) rfl dX7_mark_56 ?_
          refine V_iload_n C dX7_mark_59 rfl ?_
          refine V_iconst C (v := nI 1) dX7_mark_60 (by decide +kernel) ?_
          refine V_zast C (k) (ob_A hM 51 1052 rfl rfl) ek (by rw [ob_N hM 51 1052 rfl rfl]; omega) (by rw [ob_N hM 51 1052 rfl rfl]; decide) dX7_mark_61 ?_
          refine V_iconst C (v := nI 1) dX7_mark_62 (by decide +kernel) ?_
          exact V_zret C (by first | exact Or.inl rfl | exact Or.inr rfl | (simp only [bI]; split <;> first | exact Or.inl rfl | exact Or.inr rfl) | assumption) (Nat.zero_le _) (Nat.zero_le _) dX7_mark_63 (hP _ _ _ ⟨by rw [bI_t ok]; rfl, by rw [nMark, if_pos ok, if_neg hg, n1, ec, hz, same I2 (f.1 1052 (by omega))]; exact hR.fr0 f (e.trans e2) hq.1.2.2.2.2.1⟩)
    · have no : ¬ okMark z m g := fun q => hm q.1
      refine V_iload_n C dX7_mark_5 rfl ?_
      refine V_iconst C (v := nI 0) dX7_mark_6 (by decide +kernel) ?_
      refine V_iconst C (v := nI 5) dX7_mark_7 (by decide +kernel) ?_
      refine V_callS (F := fun _ => True) C (m_within _ _ _) ms_X7_within ml_X7_301 rfl (by decide) (by decide) (Nat.le_of_ble_eq_true rfl) (fun _ _ => trivial) (fun v _ => clo_T v) rfl dX7_mark_8 ?_
      rintro v S' I' J' ⟨hS, rfl, hI, hJ⟩
      obtain rfl := hS.symm
      obtain rfl := hI.symm
      obtain rfl := hJ.symm
      refine V_if_eq C 27 dX7_mark_11 (by decide) (fun h11 => ?_) (fun h11 => absurd (by rw [bI_0]; exact hm) h11)
      refine V_iconst C (v := nI 0) dX7_mark_27 (by decide +kernel) ?_
      exact V_zret C (by first | exact Or.inl rfl | exact Or.inr rfl | (simp only [bI]; split <;> first | exact Or.inl rfl | exact Or.inr rfl) | assumption) (Nat.zero_le _) (Nat.zero_le _) dX7_mark_28 (hP _ _ _ ⟨by rw [bI_f no]; rfl, by rw [nMark, if_neg no]; exact hR⟩)
  refine V_aload_n C dX7_mark_0 rfl ?_
  refine V_iconst C (v := nI 0) dX7_mark_1 (by decide +kernel) ?_
  refine V_putI C fl_X7_1 (ob_K hM) rfl rfl dX7_mark_2 ?_
  exact key _ hR.zr
abbrev kv (i : Nat) : Int32 := Int32.ofInt (56 - 8 * (i : Int))
def byV (v : Int64) (i : Nat) : Int32 := (v >>> ((kv i).toInt64 &&& 63)).toInt32 &&& nI 255
abbrev okB (c : Int32) : Prop := c = nI 10 ∨ (nI 32 ≤ c ∧ c ≤ nI 126)
def appT (T : List Int32) (c : Int32) : List Int32 := if okB c ∧ T.length < 1000 then T ++ [c] else T
def layN (T : List Int32) (v : Int64) : Nat → List Int32
  | 0 => T
  | n + 1 => appT (layN T v n) (byV v n)
theorem appT_len {T : List Int32} {c : Int32} (h : T.length ≤ 1000) : (appT T c).length ≤ 1000 := by
  unfold appT
  split
  · rename_i q; rw [List.length_append]; exact q.2
  · exact h
theorem layN_len {T : List Int32} {v : Int64} (h : T.length ≤ 1000) : ∀ n, (layN T v n).length ≤ 1000
  | 0 => h
  | n + 1 => appT_len (layN_len h n)
def setP (z : SV) (T : List Int32) : SV := (z.1, z.2.1, z.2.2.1, T, z.2.2.2.2)
theorem RefR.tp {T : List Int32} (h : RefR z I J) (k1 : ∀ c, c ≠ 2 → I' 1000 c = I 1000 c) (k2 : ∀ a, a ≠ 1000 → a ≠ 1002 → I' a = I a) (hT : tpR I' T) : RefR (setP z T) I' J := by
  obtain ⟨h1, h2, h3, h4, h5, h6, h7, h8, h9, h10, h11⟩ := h
  have eD : ∀ d, refD I' J d = refD I J d := fun d => refD_congr (fun a g1 g2 => k2 a (by omega) (by omega))
  have eQ : ∀ d, refQ I' J d = refQ I J d := fun d => by unfold refQ; rw [eD]
  exact ⟨(eQ 0).trans h1, fun d hd => by rw [eD]; exact h2 d hd, fun m hm => mkR_cg (k2 1052 (by decide) (by decide)) (eQ _) (h3 m hm), RL_cg (k1 10 (by decide)) (fun a g1 g2 => k2 a (by omega) (by omega)) h4, opR_cg (k1 10 (by decide)) (k2 1019 (by decide) (by decide)) h5, (k1 24 (by decide)).trans h6, (k1 44 (by decide)).trans h7, (k1 45 (by decide)).trans h8, hT, tdR_cg (k1 48 (by decide)) (k2 1050 (by decide) (by decide)) (k2 1051 (by decide) (by decide)) h10, h11⟩
theorem kv_s (i : Nat) : kv i + Int32.ofInt (-8) = kv (i + 1) := by
  unfold kv
  rw [← Int32.ofInt_add]
  congr 1
  omega
theorem kv_p {i : Nat} (h : i < 8) : ¬ kv i < 0 := by
  match i, h with
  | 0, _ => decide
  | 1, _ => decide
  | 2, _ => decide
  | 3, _ => decide
  | 4, _ => decide
  | 5, _ => decide
  | 6, _ => decide
  | 7, _ => decide
set_option maxRecDepth 100000 in
theorem m_lay (hM : Ob S 7 1000) {T0 : List Int32} (hR : RefR (setP z T0) I J) (h1000 : T0.length ≤ 1000) (v : Int64) : Mn l yX7_lay cX7_lay 5 none 0 [.ref 1000, .long v] S I J (fun r I' J' => r = none ∧ RefR (setP z (layN T0 v 8)) I' J') := by
  refine Mn.of (by decide) (fun ad => by simp [lg_sl, vv, Value.category]) (fun X P hP hn C => ?_)
  have loop : ∀ (c x : Nat) (In : HI) (x4 : Option Value), x + c = 8 → RefR (setP z (layN T0 v x)) In J → V X P 0 0 3 [some (.ref 1000), some (.long v), none, some (.int (kv x)), x4] [] S In J := by
    intro c
    induction c with
    | zero =>
      intro x In x4 hx hR
      have hx : x = 8 := hx
      subst hx
      refine V_iload_n C dX7_lay_3 rfl ?_
      refine V_if_lt C 75 dX7_lay_4 (by decide) (fun h4 => ?_) (fun h4 => absurd (by decide) h4)
      exact V_vret C (Nat.zero_le _) (Nat.zero_le _) dX7_lay_75 (hP _ _ _ ⟨rfl, hR⟩)
    | succ c ih =>
      intro x In x4 hx hR
      have nx := fun (I2 : HI) (h : RefR (setP z (layN T0 v (x + 1))) I2 J) x4 => ih (x + 1) I2 x4 (by omega) h
      have hl := layN_len (v := v) h1000 x
      rw [layN] at nx
      obtain ⟨T, eT⟩ : ∃ T, T = layN T0 v x := ⟨_, rfl⟩
      obtain ⟨b, eb⟩ : ∃ b, b = byV v x := ⟨_, rfl⟩
      rw [← eT, ← eb] at nx
      rw [← eT] at hR hl
      obtain ⟨t1, t2⟩ := hR.2.2.2.2.2.2.2.2.1
      have t1 : In 1000 2 = nI T.length := t1
      have t2 : ∀ i, i < T.length → In 1002 i = T.getD i 0 := t2
      have skip : ∀ x4, ¬ (okB b ∧ T.length < 1000) → V X P 0 0 69 [some (.ref 1000), some (.long v), none, some (.int (kv x)), x4] [] S In J := by
        intro x4 no
        rw [appT, if_neg no] at nx
        refine V_iinc C dX7_lay_69 rfl (hn _ (by decide)) ?_
        refine V_goto C 3 dX7_lay_72 (by decide) ?_
        rw [kv_s]
        exact nx _ hR _
      have put : okB b → V X P 0 0 38 [some (.ref 1000), some (.long v), none, some (.int (kv x)), some (.int b)] [] S In J := by
        intro ob
        by_cases hlt : T.length < 1000
        · have fin : RefR (setP z (appT T b)) (up2 (up2 In 1002 T.length b) 1000 2 (In 1000 2 + nI 1)) J := by
            rw [appT, if_pos ⟨ob, hlt⟩]
            refine hR.tp (fun c hc => o_ne hc) (fun a g1 g2 => by rw [up2_ne _ _ _ g1, up2_ne _ _ _ g2]) ⟨?_, fun i hi => ?_⟩
            · rw [o_at, t1, nI_add, List.length_append]
              rfl
            · rw [List.length_append] at hi
              have hi : i < T.length + 1 := hi
              show va_up (In 1002) T.length b i = _
              by_cases e : i = T.length
              · subst e
                rw [va_up_self, gd_app]
              · rw [va_up_ne _ _ e, gd_app2 (by omega)]
                exact t2 i (by omega)
          refine V_aload_n C dX7_lay_38 rfl ?_
          refine V_getI C fl_X7_11 (ob_K hM) rfl dX7_lay_39 ?_
          refine V_sipush C (v := nI 1000) dX7_lay_42 (by decide +kernel) ?_
          refine V_icmp_ge C 69 dX7_lay_45 (by decide) (fun h45 => absurd h45 (by rw [t1]; exact nI_ge hlt (by omega))) (fun h45 => ?_)
          refine V_aload_n C dX7_lay_48 rfl ?_
          refine V_getR C fl_X7_14 (ob_K hM) (ob_R hM 1 1002 rfl rfl) rfl dX7_lay_49 ?_
          refine V_aload_n C dX7_lay_52 rfl ?_
          refine V_getI C fl_X7_11 (ob_K hM) rfl dX7_lay_53 ?_
          refine V_iload C dX7_lay_56 rfl ?_
          refine V_iast C (T.length) (ob_A hM 1 1002 rfl rfl) t1 (by rw [ob_N hM 1 1002 rfl rfl]; omega) (by rw [ob_N hM 1 1002 rfl rfl]; decide) dX7_lay_58 ?_
          refine V_aload_n C dX7_lay_59 rfl ?_
          refine V_dup C dX7_lay_60 rfl ?_
          refine V_getI C fl_X7_11 (ob_K hM) rfl dX7_lay_61 ?_
          refine V_iconst C (v := nI 1) dX7_lay_64 (by decide +kernel) ?_
          refine V_iadd C dX7_lay_65 ?_
          refine V_putI C fl_X7_11 (ob_K hM) rfl rfl dX7_lay_66 ?_
          refine V_iinc C dX7_lay_69 rfl (hn _ (by decide)) ?_
          refine V_goto C 3 dX7_lay_72 (by decide) ?_
          rw [kv_s]
          exact nx _ fin _
        · refine V_aload_n C dX7_lay_38 rfl ?_
          refine V_getI C fl_X7_11 (ob_K hM) rfl dX7_lay_39 ?_
          refine V_sipush C (v := nI 1000) dX7_lay_42 (by decide +kernel) ?_
          refine V_icmp_ge C 69 dX7_lay_45 (by decide) (fun h45 => ?_) (fun h45 => absurd (by rw [t1]; exact nI_le (by omega) (by omega)) h45)
          exact skip _ (fun q => hlt q.2)
      have e255 : (v >>> ((kv x).toInt64 &&& 63)).toInt32 &&& nI 255 = b := eb.symm
      refine V_iload_n C dX7_lay_3 rfl ?_
      refine V_if_lt C 75 dX7_lay_4 (by decide) (fun h4 => absurd h4 (kv_p (by omega))) (fun h4 => ?_)
      refine V_lload_n C dX7_lay_7 rfl ?_
      refine V_iload_n C dX7_lay_8 rfl ?_
      refine V_lshr C dX7_lay_9 ?_
      refine V_l2i C dX7_lay_10 ?_
      refine V_sipush C (v := nI 255) dX7_lay_11 (by decide +kernel) ?_
      refine V_iand C dX7_lay_14 ?_
      rw [e255]
      refine V_istore C dX7_lay_15 (hn _ (by decide)) ?_
      refine V_iload C dX7_lay_17 rfl ?_
      refine V_bipush C (v := nI 10) dX7_lay_19 (by decide +kernel) ?_
      refine V_icmp_eq C 38 dX7_lay_21 (by decide) (fun h21 => ?_) (fun h21 => ?_)
      · first | exact put (Or.inl h21) | exact put (Or.inr ⟨Int32.not_lt.mp h28, Int32.not_lt.mp h35⟩)
      · refine V_iload C dX7_lay_24 rfl ?_
        refine V_bipush C (v := nI 32) dX7_lay_26 (by decide +kernel) ?_
        refine V_icmp_lt C 69 dX7_lay_28 (by decide) (fun h28 => ?_) (fun h28 => ?_)
        · first | exact skip _ (fun q => q.1.elim h21 (fun r => absurd h28 (Int32.not_lt.mpr r.1))) | exact skip _ (fun q => q.1.elim h21 (fun r => absurd h35 (Int32.not_lt.mpr r.2)))
        · refine V_iload C dX7_lay_31 rfl ?_
          refine V_bipush C (v := nI 126) dX7_lay_33 (by decide +kernel) ?_
          refine V_icmp_gt C 69 dX7_lay_35 (by decide) (fun h35 => ?_) (fun h35 => ?_)
          · first | exact skip _ (fun q => q.1.elim h21 (fun r => absurd h28 (Int32.not_lt.mpr r.1))) | exact skip _ (fun q => q.1.elim h21 (fun r => absurd h35 (Int32.not_lt.mpr r.2)))
          · first | exact put (Or.inl h21) | exact put (Or.inr ⟨Int32.not_lt.mp h28, Int32.not_lt.mp h35⟩)
  refine V_bipush C (v := nI 56) dX7_lay_0 (by decide +kernel) ?_
  refine V_istore_n C dX7_lay_2 (hn _ (by decide)) ?_
  exact loop 8 0 _ _ rfl hR
def nFeed (z : SV) (a b c : Int64) : SV := setP z (layN (layN (layN z.2.2.2.1 a 8) b 8) c 8)
set_option maxRecDepth 100000 in
theorem m_feed (hM : Ob S 7 1000) (hR : RefR z I J) (hO : OkR z) (a b c : Int64) : Mn l yX7_feed cX7_feed 7 (some .int) 1 [.ref 1000, .long a, .long b, .long c] S I J (fun r I' J' => r = some (.int (nI (nFeed z a b c).2.2.2.1.length)) ∧ RefR (nFeed z a b c) I' J') := by
  refine Mn.of (by decide) (fun ad => by simp [lg_sl, vv, Value.category]) (fun X P hP hn C => ?_)
  have key : ∀ I0, RefR z I0 J → V X P 0 0 5 [some (.ref 1000), some (.long a), none, some (.long b), none, some (.long c), none] [] S I0 J := by
    intro I0 hR
    have h0 : z.2.2.2.1.length ≤ 1000 := hO.2.2.2.2.2.2.2
    have h1 := layN_len (v := a) h0 8
    have h2 := layN_len (v := b) h1 8
    have hR1 : RefR (setP z z.2.2.2.1) I0 J := hR
    refine V_aload_n C dX7_feed_5 rfl ?_
    refine V_lload_n C dX7_feed_6 rfl ?_
    refine V_callV (F := fun _ => True) C (m_lay hM hR1 h0 a) mi_X7_lay ml_X7_7 rfl (ob_K hM) (by decide) (by decide) (by decide) (Nat.le_of_ble_eq_true rfl) (fun _ _ => trivial) (fun v _ => clo_T v) rfl dX7_feed_7 ?_
    rintro v S' I2 J2 ⟨hS, rfl, hR2⟩
    obtain rfl := hS.symm
    refine V_aload_n C dX7_feed_10 rfl ?_
    refine V_lload_n C dX7_feed_11 rfl ?_
    refine V_callV (F := fun _ => True) C (m_lay hM hR2 h1 b) mi_X7_lay ml_X7_7 rfl (ob_K hM) (by decide) (by decide) (by decide) (Nat.le_of_ble_eq_true rfl) (fun _ _ => trivial) (fun v _ => clo_T v) rfl dX7_feed_12 ?_
    rintro v S' I3 J3 ⟨hS, rfl, hR3⟩
    obtain rfl := hS.symm
    refine V_aload_n C dX7_feed_15 rfl ?_
    refine V_lload C dX7_feed_16 rfl ?_
    refine V_callV (F := fun _ => True) C (m_lay hM hR3 h2 c) mi_X7_lay ml_X7_7 rfl (ob_K hM) (by decide) (by decide) (by decide) (Nat.le_of_ble_eq_true rfl) (fun _ _ => trivial) (fun v _ => clo_T v) rfl dX7_feed_18 ?_
    rintro v S' I4 J4 ⟨hS, rfl, hR4⟩
    obtain rfl := hS.symm
    refine V_aload_n C dX7_feed_21 rfl ?_
    refine V_getI C fl_X7_11 (ob_K hM) rfl dX7_feed_22 ?_
    exact V_iret C (Nat.zero_le _) (Nat.zero_le _) dX7_feed_25 (hP _ _ _ ⟨by rw [show _ = _ from hR4.2.2.2.2.2.2.2.2.1.1]; rfl, hR4⟩)
  refine V_aload_n C dX7_feed_0 rfl ?_
  refine V_iconst C (v := nI 0) dX7_feed_1 (by decide +kernel) ?_
  refine V_putI C fl_X7_1 (ob_K hM) rfl rfl dX7_feed_2 ?_
  exact key _ hR.zr
end M23
