/-! the reference: isLocked, goes, wanders -/
section M10
variable {l : Launch} {S : HS} {I I' : HI} {J : HJ}
def lkAt (D : DV) (u q : Nat) (a : Int32) : Int32 := if D 5 q = 0 then (if D 6 u ≤ D 6 q then a else if a = 0 then (if D 3 (rg D u) = nI 2 * D 3 (rg D q) then nI 1 else if nI 2 * D 3 (rg D u) = nI 3 * D 3 (rg D q) then nI 1 else nI 0) else nI 1) else a
def lkN' (D : DV) (u : Nat) : Nat → Int32
  | 0 => nI 0
  | q + 1 => lkAt D u q (lkN' D u q)
def lockD (D : DV) (u : Nat) : Int32 := lkN' D u (cmD D)
theorem lkN'_b (D : DV) (u : Nat) : ∀ q, lkN' D u q = 0 ∨ lkN' D u q = 1
  | 0 => Or.inl rfl
  | q + 1 => by
    have h := lkN'_b D u q
    unfold lkN' lkAt
    split
    · split
      · exact h
      · split
        · split
          · exact Or.inr rfl
          · split
            · exact Or.inr rfl
            · exact Or.inl rfl
        · exact Or.inr rfl
    · exact h
set_option maxRecDepth 100000 in
set_option maxHeartbeats 4000000 in
theorem m_isLocked (hM : Ob S 7 1000) {b u : Nat} (hb : b < 8) (hD : rOk (refD I J b)) (hu : u < cmD (refD I J b)) : Mn l yX7_isLocked cX7_isLocked 9 (some .boolean) 1 [.ref 1000, .int (nI b), .int (nI u)] S I J (fun v I' J' => v = some (.int (lockD (refD I J b) u)) ∧ I' = I ∧ J' = J) := by
  refine Mn.of (by decide) (fun ad => by simp [lg_sl, vv, Value.category]) (fun X P hP hn C => ?_)
  have hu30 : u < 30 := Nat.lt_of_lt_of_le hu hD.2.2.2.2.1
  have h12 := hD.2.2.1
  have hu6 := hD.2.2.2.2.2 u hu
  have e39 : I 1039 (30 * b + u) = nI (rg (refD I J b) u) := by rw [← (r_lump hD hu).2.1]; exact hu6.1
  unfold lockD at hP
  generalize hcm : cmD (refD I J b) = n at hP
  have hn0 : I 1037 b = nI n := by rw [← hcm]; exact r_cm hD
  have hn30 : n ≤ 30 := by rw [← hcm]; exact hD.2.2.2.2.1
  have loop : ∀ (c q : Nat) (x6 x7 x8 : Option Value), q + c = n → V X P 0 0 18 [some (.ref 1000), some (.int (nI b)), some (.int (nI u)), some (.int (nI (rg (refD I J b) u))), some (.int (lkN' (refD I J b) u q)), some (.int (nI q)), x6, x7, x8] [] S I J := by
    intro c
    induction c with
    | zero =>
      intro q x6 x7 x8 hq
      have hq : q = n := hq
      subst hq
      have c26 : I 1037 b ≤ nI q := by rw [hn0]; exact Int32.le_refl _
      have hb01 := lkN'_b (refD I J b) u q
      refine V_iload C dX7_isLocked_18 rfl ?_
      refine V_aload_n C dX7_isLocked_20 rfl ?_
      refine V_getR C fl_X7_146 (ob_K hM) (ob_R hM 36 1037 rfl rfl) rfl dX7_isLocked_21 ?_
      refine V_iload_n C dX7_isLocked_24 rfl ?_
      refine V_iald C (b) (ob_A hM 36 1037 rfl rfl) (by first | rfl | (simp only [nI_add, pk_mul]; done) | (simp only [nI_add, pk_mul]; congr 1; omega)) (by rw [ob_N hM 36 1037 rfl rfl]; omega) (by rw [ob_N hM 36 1037 rfl rfl]; decide) dX7_isLocked_25 ?_
      refine V_icmp_ge C 124 dX7_isLocked_26 (by decide) (fun h26 => ?_) (fun h26 => absurd (c26) h26)
      refine V_iload C dX7_isLocked_124 rfl ?_
      exact V_zret C (by first | exact Or.inl rfl | exact Or.inr rfl | (simp only [bI]; split <;> first | exact Or.inl rfl | exact Or.inr rfl) | assumption) (Nat.zero_le _) (Nat.zero_le _) dX7_isLocked_126 (hP _ _ _ ⟨rfl, rfl, rfl⟩)
    | succ c ih =>
      intro q x6 x7 x8 hq
      have c26 : ¬ I 1037 b ≤ nI q := by rw [hn0]; exact nI_ge (by omega) (by omega)
      have hqc : q < cmD (refD I J b) := by rw [hcm]; omega
      have hq6 := hD.2.2.2.2.2 q hqc
      have eq39 : I 1039 (30 * b + q) = nI (rg (refD I J b) q) := by rw [← (r_lump hD hqc).2.1]; exact hq6.1
      have ep : ∀ r, r < 12 → I 1030 (12 * b + r) = refD I J b 3 r := fun r hr => (if_pos hr).symm
      have fin : ∀ (x6 x7 x8 : Option Value) (a : Int32), a = lkAt (refD I J b) u q (lkN' (refD I J b) u q) → V X P 0 0 18 [some (.ref 1000), some (.int (nI b)), some (.int (nI u)), some (.int (nI (rg (refD I J b) u))), some (.int a), some (.int (nI (q + 1))), x6, x7, x8] [] S I J := by
        intro x6 x7 x8 a ha
        rw [ha]
        exact ih (q + 1) x6 x7 x8 (by omega)
      by_cases h5 : refD I J b 5 q = 0
      · have b1 : ¬ bI (refD I J b 5 q = 0) = 0 := by rw [bI_0]; exact fun h => h h5
        refine V_iload C dX7_isLocked_18 rfl ?_
        refine V_aload_n C dX7_isLocked_20 rfl ?_
        refine V_getR C fl_X7_146 (ob_K hM) (ob_R hM 36 1037 rfl rfl) rfl dX7_isLocked_21 ?_
        refine V_iload_n C dX7_isLocked_24 rfl ?_
        refine V_iald C (b) (ob_A hM 36 1037 rfl rfl) (by first | rfl | (simp only [nI_add, pk_mul]; done) | (simp only [nI_add, pk_mul]; congr 1; omega)) (by rw [ob_N hM 36 1037 rfl rfl]; omega) (by rw [ob_N hM 36 1037 rfl rfl]; decide) dX7_isLocked_25 ?_
        refine V_icmp_ge C 124 dX7_isLocked_26 (by decide) (fun h26 => absurd h26 (c26)) (fun h26 => ?_)
        refine V_aload_n C dX7_isLocked_29 rfl ?_
        refine V_getR C fl_X7_152 (ob_K hM) (ob_R hM 38 1039 rfl rfl) rfl dX7_isLocked_30 ?_
        refine V_bipush C (v := nI 30) dX7_isLocked_33 (by decide +kernel) ?_
        refine V_iload_n C dX7_isLocked_35 rfl ?_
        refine V_imul C dX7_isLocked_36 ?_
        refine V_iload C dX7_isLocked_37 rfl ?_
        refine V_iadd C dX7_isLocked_39 ?_
        refine V_iald C (30 * b + q) (ob_A hM 38 1039 rfl rfl) (by first | rfl | (simp only [nI_add, pk_mul]; done) | (simp only [nI_add, pk_mul]; congr 1; omega)) (by rw [ob_N hM 38 1039 rfl rfl]; omega) (by rw [ob_N hM 38 1039 rfl rfl]; decide) dX7_isLocked_40 ?_
        rw [eq39]
        refine V_istore C dX7_isLocked_41 (hn _ (by decide)) ?_
        refine V_aload_n C dX7_isLocked_43 rfl ?_
        refine V_iload_n C dX7_isLocked_44 rfl ?_
        refine V_iload C dX7_isLocked_45 rfl ?_
        refine V_callV (F := fun _ => True) C (m_isThere hM hb hD hqc) mi_X7_isThere ml_X7_372 rfl (ob_K hM) (by decide) (by decide) (by decide) (Nat.le_of_ble_eq_true rfl) (fun _ _ => trivial) (fun v _ => clo_T v) rfl dX7_isLocked_47 ?_
        rintro v S' I' J' ⟨hS, rfl, hI, hJ⟩
        obtain rfl := hS.symm
        obtain rfl := hI.symm
        obtain rfl := hJ.symm
        refine V_if_eq C 118 dX7_isLocked_50 (by decide) (fun h50 => absurd h50 (b1)) (fun h50 => ?_)
        refine V_iload C dX7_isLocked_53 rfl ?_
        refine V_iload_n C dX7_isLocked_55 rfl ?_
        refine V_icmp_ge C 118 dX7_isLocked_56 (by decide) (fun h56 => ?_) (fun h56 => ?_)
        · refine V_iincU C dX7_isLocked_118 rfl (hn _ (by decide)) ?_
          refine V_goto C 18 dX7_isLocked_121 (by decide) ?_
          first
            | exact fin _ _ _ _ (by rw [lkAt, if_pos h5, hu6.1, hq6.1, if_pos h56])
            | exact fin _ _ _ _ (by rw [lkAt, if_pos h5, hu6.1, hq6.1, if_neg h56])
        · refine V_aload_n C dX7_isLocked_59 rfl ?_
          refine V_getR C fl_X7_125 (ob_K hM) (ob_R hM 29 1030 rfl rfl) rfl dX7_isLocked_60 ?_
          refine V_bipush C (v := nI 12) dX7_isLocked_63 (by decide +kernel) ?_
          refine V_iload_n C dX7_isLocked_65 rfl ?_
          refine V_imul C dX7_isLocked_66 ?_
          refine V_iload_n C dX7_isLocked_67 rfl ?_
          refine V_iadd C dX7_isLocked_68 ?_
          refine V_iald C (12 * b + rg (refD I J b) u) (ob_A hM 29 1030 rfl rfl) (by first | rfl | (simp only [nI_add, pk_mul]; done) | (simp only [nI_add, pk_mul]; congr 1; omega)) (by rw [ob_N hM 29 1030 rfl rfl]; omega) (by rw [ob_N hM 29 1030 rfl rfl]; decide) dX7_isLocked_69 ?_
          rw [ep _ (by omega)]
          refine V_istore C dX7_isLocked_70 (hn _ (by decide)) ?_
          refine V_aload_n C dX7_isLocked_72 rfl ?_
          refine V_getR C fl_X7_125 (ob_K hM) (ob_R hM 29 1030 rfl rfl) rfl dX7_isLocked_73 ?_
          refine V_bipush C (v := nI 12) dX7_isLocked_76 (by decide +kernel) ?_
          refine V_iload_n C dX7_isLocked_78 rfl ?_
          refine V_imul C dX7_isLocked_79 ?_
          refine V_iload C dX7_isLocked_80 rfl ?_
          refine V_iadd C dX7_isLocked_82 ?_
          refine V_iald C (12 * b + rg (refD I J b) q) (ob_A hM 29 1030 rfl rfl) (by first | rfl | (simp only [nI_add, pk_mul]; done) | (simp only [nI_add, pk_mul]; congr 1; omega)) (by rw [ob_N hM 29 1030 rfl rfl]; omega) (by rw [ob_N hM 29 1030 rfl rfl]; decide) dX7_isLocked_83 ?_
          rw [ep _ (by omega)]
          refine V_istore C dX7_isLocked_84 (hn _ (by decide)) ?_
          refine V_iload C dX7_isLocked_86 rfl ?_
          refine V_tern_if_ne (vt := if refD I J b 3 (rg (refD I J b) u) = nI 2 * refD I J b 3 (rg (refD I J b) q) then nI 1 else if nI 2 * refD I J b 3 (rg (refD I J b) u) = nI 3 * refD I J b 3 (rg (refD I J b) q) then nI 1 else nI 0) (vf := nI 1) (pm := 116) C 111 dX7_isLocked_88 (by decide) (fun h88 k => ?_) (fun h88 k => ?_) ?_
          · refine V_iload C dX7_isLocked_91 rfl ?_
            refine V_iconst C (v := nI 2) dX7_isLocked_93 (by decide +kernel) ?_
            refine V_iload C dX7_isLocked_94 rfl ?_
            refine V_imul C dX7_isLocked_96 ?_
            refine V_tern_icmp_eq (vt := nI 1) (vf := if nI 2 * refD I J b 3 (rg (refD I J b) u) = nI 3 * refD I J b 3 (rg (refD I J b) q) then nI 1 else nI 0) (pm := 116) C 111 dX7_isLocked_97 (by decide) (fun h97 k => ?_) (fun h97 k => ?_) ?_
            · refine V_iconst C (v := nI 1) dX7_isLocked_111 (by decide +kernel) ?_
              refine V_goto C 116 dX7_isLocked_112 (by decide) ?_
              exact k
            · refine V_iconst C (v := nI 2) dX7_isLocked_100 (by decide +kernel) ?_
              refine V_iload C dX7_isLocked_101 rfl ?_
              refine V_imul C dX7_isLocked_103 ?_
              refine V_iconst C (v := nI 3) dX7_isLocked_104 (by decide +kernel) ?_
              refine V_iload C dX7_isLocked_105 rfl ?_
              refine V_imul C dX7_isLocked_107 ?_
              refine V_tern_icmp_ne (vt := nI 1) (vf := nI 0) (pm := 116) C 115 dX7_isLocked_108 (by decide) (fun h108 k => ?_) (fun h108 k => ?_) ?_
              · refine V_iconst C (v := nI 1) dX7_isLocked_111 (by decide +kernel) ?_
                refine V_goto C 116 dX7_isLocked_112 (by decide) ?_
                exact k
              · refine V_iconst C (v := nI 0) dX7_isLocked_115 (by decide +kernel) ?_
                exact k
              exact k
            exact k
          · refine V_iconst C (v := nI 1) dX7_isLocked_111 (by decide +kernel) ?_
            refine V_goto C 116 dX7_isLocked_112 (by decide) ?_
            exact k
          refine V_istore C dX7_isLocked_116 (hn _ (by decide)) ?_
          refine V_iincU C dX7_isLocked_118 rfl (hn _ (by decide)) ?_
          refine V_goto C 18 dX7_isLocked_121 (by decide) ?_
          first
            | exact fin _ _ _ _ (by rw [lkAt, if_pos h5, hu6.1, hq6.1, if_pos h56])
            | exact fin _ _ _ _ (by rw [lkAt, if_pos h5, hu6.1, hq6.1, if_neg h56])
      · have b1 : bI (refD I J b 5 q = 0) = 0 := by rw [bI_0]; exact h5
        refine V_iload C dX7_isLocked_18 rfl ?_
        refine V_aload_n C dX7_isLocked_20 rfl ?_
        refine V_getR C fl_X7_146 (ob_K hM) (ob_R hM 36 1037 rfl rfl) rfl dX7_isLocked_21 ?_
        refine V_iload_n C dX7_isLocked_24 rfl ?_
        refine V_iald C (b) (ob_A hM 36 1037 rfl rfl) (by first | rfl | (simp only [nI_add, pk_mul]; done) | (simp only [nI_add, pk_mul]; congr 1; omega)) (by rw [ob_N hM 36 1037 rfl rfl]; omega) (by rw [ob_N hM 36 1037 rfl rfl]; decide) dX7_isLocked_25 ?_
        refine V_icmp_ge C 124 dX7_isLocked_26 (by decide) (fun h26 => absurd h26 (c26)) (fun h26 => ?_)
        refine V_aload_n C dX7_isLocked_29 rfl ?_
        refine V_getR C fl_X7_152 (ob_K hM) (ob_R hM 38 1039 rfl rfl) rfl dX7_isLocked_30 ?_
        refine V_bipush C (v := nI 30) dX7_isLocked_33 (by decide +kernel) ?_
        refine V_iload_n C dX7_isLocked_35 rfl ?_
        refine V_imul C dX7_isLocked_36 ?_
        refine V_iload C dX7_isLocked_37 rfl ?_
        refine V_iadd C dX7_isLocked_39 ?_
        refine V_iald C (30 * b + q) (ob_A hM 38 1039 rfl rfl) (by first | rfl | (simp only [nI_add, pk_mul]; done) | (simp only [nI_add, pk_mul]; congr 1; omega)) (by rw [ob_N hM 38 1039 rfl rfl]; omega) (by rw [ob_N hM 38 1039 rfl rfl]; decide) dX7_isLocked_40 ?_
        refine V_istore C dX7_isLocked_41 (hn _ (by decide)) ?_
        refine V_aload_n C dX7_isLocked_43 rfl ?_
        refine V_iload_n C dX7_isLocked_44 rfl ?_
        refine V_iload C dX7_isLocked_45 rfl ?_
        refine V_callV (F := fun _ => True) C (m_isThere hM hb hD hqc) mi_X7_isThere ml_X7_372 rfl (ob_K hM) (by decide) (by decide) (by decide) (Nat.le_of_ble_eq_true rfl) (fun _ _ => trivial) (fun v _ => clo_T v) rfl dX7_isLocked_47 ?_
        rintro v S' I' J' ⟨hS, rfl, hI, hJ⟩
        obtain rfl := hS.symm
        obtain rfl := hI.symm
        obtain rfl := hJ.symm
        refine V_if_eq C 118 dX7_isLocked_50 (by decide) (fun h50 => ?_) (fun h50 => absurd (b1) h50)
        refine V_iincU C dX7_isLocked_118 rfl (hn _ (by decide)) ?_
        refine V_goto C 18 dX7_isLocked_121 (by decide) ?_
        exact fin _ _ _ _ (by rw [lkAt, if_neg h5])
  refine V_aload_n C dX7_isLocked_0 rfl ?_
  refine V_getR C fl_X7_152 (ob_K hM) (ob_R hM 38 1039 rfl rfl) rfl dX7_isLocked_1 ?_
  refine V_bipush C (v := nI 30) dX7_isLocked_4 (by decide +kernel) ?_
  refine V_iload_n C dX7_isLocked_6 rfl ?_
  refine V_imul C dX7_isLocked_7 ?_
  refine V_iload_n C dX7_isLocked_8 rfl ?_
  refine V_iadd C dX7_isLocked_9 ?_
  refine V_iald C (30 * b + u) (ob_A hM 38 1039 rfl rfl) (by first | rfl | (simp only [nI_add, pk_mul]; done) | (simp only [nI_add, pk_mul]; congr 1; omega)) (by rw [ob_N hM 38 1039 rfl rfl]; omega) (by rw [ob_N hM 38 1039 rfl rfl]; decide) dX7_isLocked_10 ?_
  rw [e39]
  refine V_istore_n C dX7_isLocked_11 (hn _ (by decide)) ?_
  refine V_iconst C (v := nI 0) dX7_isLocked_12 (by decide +kernel) ?_
  refine V_istore C dX7_isLocked_13 (hn _ (by decide)) ?_
  refine V_iconst C (v := nI 0) dX7_isLocked_15 (by decide +kernel) ?_
  refine V_istore C dX7_isLocked_16 (hn _ (by decide)) ?_
  exact loop n 0 _ _ _ (by omega)
/-- a lump goes: the disk, and what has fallen -/
def goD (q : DV × Int64) (u : Nat) : DV × Int64 := if 0 ≤ nI (rg q.1 u) + wayD q.1 (rg q.1 u) then (up2 q.1 6 u (nI (toD q.1 (rg q.1 u))), q.2) else (up2 q.1 5 u (nI 2), q.2 + (wD q.1 u).toInt64)
theorem up6_ok {D : DV} (hD : rOk D) {u r : Nat} (hu : u < cmD D) (hr : r < rgD D) : rOk (up2 D 6 u (nI r)) := by
  obtain ⟨h1, h2, h3, h4, h5, h6⟩ := hD
  refine ⟨h1, h2, h3, h4, h5, fun q hq => ?_⟩
  by_cases e : q = u
  · have e6 : up2 D 6 u (nI r) 6 q = nI r := by subst e; rw [up2_row, va_up_self]
    unfold rg
    rw [e6, nI_clamp (by omega)]
    exact ⟨rfl, hr⟩
  · have e6 : up2 D 6 u (nI r) 6 q = D 6 q := by rw [up2_row, va_up_ne _ _ e]
    unfold rg
    rw [e6]
    exact h6 q hq
/-- rings, gas, pull and how many lumps there are stay -/
def kwD (D D' : DV) : Prop := D' 0 = D 0 ∧ D' 1 = D 1 ∧ rOk D'
theorem goD_kw {q : DV × Int64} {u : Nat} (hD : rOk q.1) (hg : gOk q.1) (hu : u < cmD q.1) : kwD q.1 (goD q u).1 := by
  unfold goD
  split
  · rename_i h
    exact ⟨rfl, rfl, up6_ok hD hu (toD_ok hD hg (hD.2.2.2.2.2 u hu).2 h).2⟩
  · exact ⟨rfl, rfl, kpD.ok ⟨rfl, rfl, rfl⟩ hD⟩
set_option maxRecDepth 100000 in
set_option maxHeartbeats 4000000 in
theorem m_goes (hM : Ob S 7 1000) {b u : Nat} (hb : b < 8) (hC : cAll I J) (hD : rOk (refD I J b)) (hg : gOk (refD I J b)) (hu : u < cmD (refD I J b)) : Mn l yX7_goes cX7_goes 5 none 2 [.ref 1000, .int (nI b), .int (nI u)] S I J (fun v I' J' => v = none ∧ (refD I' J' b, J' 1035 b) = goD (refD I J b, J 1035 b) u ∧ J' 1036 b = J 1036 b ∧ Fr b I J I' J') := by
  refine Mn.of (by decide) (fun ad => by simp [lg_sl, vv, Value.category]) (fun X P hP hn C => ?_)
  have hu30 : u < 30 := Nat.lt_of_lt_of_le hu hD.2.2.2.2.1
  have hu6 := hD.2.2.2.2.2 u hu
  have e39 : I 1039 (30 * b + u) = nI (rg (refD I J b) u) := by rw [← (r_lump hD hu).2.1]; exact hu6.1
  by_cases hw : 0 ≤ nI (rg (refD I J b) u) + wayD (refD I J b) (rg (refD I J b) u)
  · obtain ⟨et, ht⟩ := toD_ok hD hg hu6.2 hw
    refine V_bipush C (v := nI 30) dX7_goes_0 (by decide +kernel) ?_
    refine V_iload_n C dX7_goes_2 rfl ?_
    refine V_imul C dX7_goes_3 ?_
    refine V_iload_n C dX7_goes_4 rfl ?_
    refine V_iadd C dX7_goes_5 ?_
    refine V_istore_n C dX7_goes_6 (hn _ (by decide)) ?_
    refine V_aload_n C dX7_goes_7 rfl ?_
    refine V_getR C fl_X7_152 (ob_K hM) (ob_R hM 38 1039 rfl rfl) rfl dX7_goes_8 ?_
    refine V_iload_n C dX7_goes_11 rfl ?_
    refine V_iald C (30 * b + u) (ob_A hM 38 1039 rfl rfl) (by first | rfl | (simp only [nI_add, pk_mul]; done) | (simp only [nI_add, pk_mul]; congr 1; omega)) (by rw [ob_N hM 38 1039 rfl rfl]; omega) (by rw [ob_N hM 38 1039 rfl rfl]; decide) dX7_goes_12 ?_
    rw [e39]
    refine V_aload_n C dX7_goes_13 rfl ?_
    refine V_iload_n C dX7_goes_14 rfl ?_
    refine V_aload_n C dX7_goes_15 rfl ?_
    refine V_getR C fl_X7_152 (ob_K hM) (ob_R hM 38 1039 rfl rfl) rfl dX7_goes_16 ?_
    refine V_iload_n C dX7_goes_19 rfl ?_
    refine V_iald C (30 * b + u) (ob_A hM 38 1039 rfl rfl) (by first | rfl | (simp only [nI_add, pk_mul]; done) | (simp only [nI_add, pk_mul]; congr 1; omega)) (by rw [ob_N hM 38 1039 rfl rfl]; omega) (by rw [ob_N hM 38 1039 rfl rfl]; decide) dX7_goes_20 ?_
    rw [e39]
    refine V_callV (F := fun _ => True) C (m_wayOf hM hb hD hu6.2) mi_X7_wayOf ml_X7_382 rfl (ob_K hM) (by decide) (by decide) (by decide) (Nat.le_of_ble_eq_true rfl) (fun _ _ => trivial) (fun v _ => clo_T v) rfl dX7_goes_21 ?_
    rintro v S' I' J' ⟨hS, rfl, hI, hJ⟩
    obtain rfl := hS.symm
    obtain rfl := hI.symm
    obtain rfl := hJ.symm
    refine V_iadd C dX7_goes_24 ?_
    refine V_istore C dX7_goes_25 (hn _ (by decide)) ?_
    refine V_iload C dX7_goes_27 rfl ?_
    refine V_if_ge C 58 dX7_goes_29 (by decide) (fun h29 => ?_) (fun h29 => absurd (hw) h29)
    refine V_aload_n C dX7_goes_58 rfl ?_
    refine V_getR C fl_X7_152 (ob_K hM) (ob_R hM 38 1039 rfl rfl) rfl dX7_goes_59 ?_
    refine V_iload_n C dX7_goes_62 rfl ?_
    refine V_iload C dX7_goes_63 rfl ?_
    rw [et]
    refine V_iast C (30 * b + u) (ob_A hM 38 1039 rfl rfl) (by first | rfl | (simp only [nI_add, pk_mul]; done) | (simp only [nI_add, pk_mul]; congr 1; omega)) (by rw [ob_N hM 38 1039 rfl rfl]; omega) (by rw [ob_N hM 38 1039 rfl rfl]; decide) dX7_goes_65 ?_
    exact V_vret C (Nat.zero_le _) (Nat.zero_le _) dX7_goes_66 (hP _ _ _ ⟨rfl, by rw [goD, if_pos hw, rRg hu], rfl, Fr.Rg hC hu30⟩)
  · have hDs : refD (up2 I 1038 (30 * b + u) (nI 2)) J b = up2 (refD I J b) 5 u (nI 2) := rSt hu
    have hD2 : rOk (refD (up2 I 1038 (30 * b + u) (nI 2)) J b) := by rw [hDs]; exact kpD.ok ⟨rfl, rfl, rfl⟩ hD
    have hu2 : u < cmD (refD (up2 I 1038 (30 * b + u) (nI 2)) J b) := by rw [hDs]; exact hu
    refine V_bipush C (v := nI 30) dX7_goes_0 (by decide +kernel) ?_
    refine V_iload_n C dX7_goes_2 rfl ?_
    refine V_imul C dX7_goes_3 ?_
    refine V_iload_n C dX7_goes_4 rfl ?_
    refine V_iadd C dX7_goes_5 ?_
    refine V_istore_n C dX7_goes_6 (hn _ (by decide)) ?_
    refine V_aload_n C dX7_goes_7 rfl ?_
    refine V_getR C fl_X7_152 (ob_K hM) (ob_R hM 38 1039 rfl rfl) rfl dX7_goes_8 ?_
    refine V_iload_n C dX7_goes_11 rfl ?_
    refine V_iald C (30 * b + u) (ob_A hM 38 1039 rfl rfl) (by first | rfl | (simp only [nI_add, pk_mul]; done) | (simp only [nI_add, pk_mul]; congr 1; omega)) (by rw [ob_N hM 38 1039 rfl rfl]; omega) (by rw [ob_N hM 38 1039 rfl rfl]; decide) dX7_goes_12 ?_
    rw [e39]
    refine V_aload_n C dX7_goes_13 rfl ?_
    refine V_iload_n C dX7_goes_14 rfl ?_
    refine V_aload_n C dX7_goes_15 rfl ?_
    refine V_getR C fl_X7_152 (ob_K hM) (ob_R hM 38 1039 rfl rfl) rfl dX7_goes_16 ?_
    refine V_iload_n C dX7_goes_19 rfl ?_
    refine V_iald C (30 * b + u) (ob_A hM 38 1039 rfl rfl) (by first | rfl | (simp only [nI_add, pk_mul]; done) | (simp only [nI_add, pk_mul]; congr 1; omega)) (by rw [ob_N hM 38 1039 rfl rfl]; omega) (by rw [ob_N hM 38 1039 rfl rfl]; decide) dX7_goes_20 ?_
    rw [e39]
    refine V_callV (F := fun _ => True) C (m_wayOf hM hb hD hu6.2) mi_X7_wayOf ml_X7_382 rfl (ob_K hM) (by decide) (by decide) (by decide) (Nat.le_of_ble_eq_true rfl) (fun _ _ => trivial) (fun v _ => clo_T v) rfl dX7_goes_21 ?_
    rintro v S' I' J' ⟨hS, rfl, hI, hJ⟩
    obtain rfl := hS.symm
    obtain rfl := hI.symm
    obtain rfl := hJ.symm
    refine V_iadd C dX7_goes_24 ?_
    refine V_istore C dX7_goes_25 (hn _ (by decide)) ?_
    refine V_iload C dX7_goes_27 rfl ?_
    refine V_if_ge C 58 dX7_goes_29 (by decide) (fun h29 => absurd h29 (hw)) (fun h29 => ?_)
    refine V_aload_n C dX7_goes_32 rfl ?_
    refine V_getR C fl_X7_149 (ob_K hM) (ob_R hM 37 1038 rfl rfl) rfl dX7_goes_33 ?_
    refine V_iload_n C dX7_goes_36 rfl ?_
    refine V_iconst C (v := nI 2) dX7_goes_37 (by decide +kernel) ?_
    refine V_iast C (30 * b + u) (ob_A hM 37 1038 rfl rfl) (by first | rfl | (simp only [nI_add, pk_mul]; done) | (simp only [nI_add, pk_mul]; congr 1; omega)) (by rw [ob_N hM 37 1038 rfl rfl]; omega) (by rw [ob_N hM 37 1038 rfl rfl]; decide) dX7_goes_38 ?_
    refine V_aload_n C dX7_goes_39 rfl ?_
    refine V_getR C fl_X7_140 (ob_K hM) (ob_R hM 34 1035 rfl rfl) rfl dX7_goes_40 ?_
    refine V_iload_n C dX7_goes_43 rfl ?_
    refine V_dup2 C dX7_goes_44 rfl rfl ?_
    refine V_lald C (b) (ob_A hM 34 1035 rfl rfl) (by first | rfl | (simp only [nI_add, pk_mul]; done) | (simp only [nI_add, pk_mul]; congr 1; omega)) (by rw [ob_N hM 34 1035 rfl rfl]; omega) (by rw [ob_N hM 34 1035 rfl rfl]; decide) dX7_goes_45 ?_
    refine V_aload_n C dX7_goes_46 rfl ?_
    refine V_iload_n C dX7_goes_47 rfl ?_
    refine V_iload_n C dX7_goes_48 rfl ?_
    refine V_callV (F := fun _ => True) C (m_weightOf hM hb hD2 hu2) mi_X7_weightOf ml_X7_326 rfl (ob_K hM) (by decide) (by decide) (by decide) (Nat.le_of_ble_eq_true rfl) (fun _ _ => trivial) (fun v _ => clo_T v) rfl dX7_goes_49 ?_
    rintro v S' I' J' ⟨hS, rfl, hI, hJ⟩
    obtain rfl := hS.symm
    obtain rfl := hI.symm
    obtain rfl := hJ.symm
    refine V_i2l C dX7_goes_52 ?_
    refine V_ladd C dX7_goes_53 ?_
    refine V_last C (b) (ob_A hM 34 1035 rfl rfl) (by first | rfl | (simp only [nI_add, pk_mul]; done) | (simp only [nI_add, pk_mul]; congr 1; omega)) (by rw [ob_N hM 34 1035 rfl rfl]; omega) (by rw [ob_N hM 34 1035 rfl rfl]; decide) dX7_goes_54 ?_
    refine V_goto C 66 dX7_goes_55 (by decide) ?_
    exact V_vret C (Nat.zero_le _) (Nat.zero_le _) dX7_goes_66 (hP _ _ _ ⟨rfl, by rw [goD, if_neg hw, up2_row, va_up_self, hDs]; exact congrArg (fun z => (z, _)) hDs, rfl, (Fr.St hC hu30).tr Fr.fall⟩)
def wanAt (lw : LW) (q : DV × Int64) (u : Nat) : DV × Int64 := if q.1 5 u = 0 then (if lw 6 (fLu q.1 u) < 0 then q else if lockD q.1 u = 0 then (if q.1 8 u + nI 1 < lw 6 (fLu q.1 u) then (up2 q.1 8 u (q.1 8 u + nI 1), q.2) else goD (up2 q.1 8 u (nI 0), q.2) u) else q) else q
def wanN (lw : LW) : Nat → Nat → DV × Int64 → DV × Int64
  | 0, _, q => q
  | c + 1, u, q => wanN lw c (u + 1) (wanAt lw q u)
theorem wanAt_kw {lw : LW} {q : DV × Int64} {u : Nat} (hD : rOk q.1) (hg : gOk q.1) (hu : u < cmD q.1) : kwD q.1 (wanAt lw q u).1 := by
  have h8 : ∀ v, rOk (up2 q.1 8 u v) := fun v => kpD.ok ⟨rfl, rfl, rfl⟩ hD
  unfold wanAt
  split
  · split
    · exact ⟨rfl, rfl, hD⟩
    · split
      · split
        · exact ⟨rfl, rfl, h8 _⟩
        · have h := goD_kw (q := (up2 q.1 8 u (nI 0), q.2)) (u := u) (h8 _) hg hu
          exact ⟨h.1, h.2.1, h.2.2⟩
      · exact ⟨rfl, rfl, hD⟩
  · exact ⟨rfl, rfl, hD⟩
theorem up2_up2 {α : Type} (f : Nat → Nat → α) (a j : Nat) (v w : α) : up2 (up2 f a j v) a j w = up2 f a j w := by
  rw [up2_as f a j v, up2_up, va_up_up, ← up2_as]
set_option maxRecDepth 100000 in
set_option maxHeartbeats 4000000 in
theorem m_wanders (hM : Ob S 7 1000) {b : Nat} (hb : b < 8) {L : List Law} {g : Int32} {lk : Nat} (hG : rG I L g lk) (hC : cAll I J) (hD : rOk (refD I J b)) (hg0 : gOk (refD I J b)) : Mn l yX7_wanders cX7_wanders 5 none 3 [.ref 1000, .int (nI b)] S I J (fun v I' J' => v = none ∧ (refD I' J' b, J' 1035 b) = wanN (kcl L g) (cmD (refD I J b)) 0 (refD I J b, J 1035 b) ∧ J' 1036 b = J 1036 b ∧ Fr b I J I' J') := by
  refine Mn.of (by decide) (fun ad => by simp [lg_sl, vv, Value.category]) (fun X P hP hn C => ?_)
  generalize hcm : cmD (refD I J b) = n at hP
  have hn0 : refD I J b 0 6 = nI n := by rw [← hcm]; exact r_cm hD
  have hn30 : n ≤ 30 := by rw [← hcm]; exact hD.2.2.2.2.1
  have loop : ∀ (c u : Nat) (Ic : HI) (Jc : HJ) (x3 x4 : Option Value), u + c = n → Fr b I J Ic Jc → kwD (refD I J b) (refD Ic Jc b) → Jc 1036 b = J 1036 b → wanN (kcl L g) c u (refD Ic Jc b, Jc 1035 b) = wanN (kcl L g) n 0 (refD I J b, J 1035 b) → V X P 0 0 2 [some (.ref 1000), some (.int (nI b)), some (.int (nI u)), x3, x4] [] S Ic Jc := by
    intro c
    induction c with
    | zero =>
      intro u Ic Jc x3 x4 hu hF hk hj he
      have hu : u = n := hu
      subst hu
      have c9 : Ic 1037 b ≤ nI u := by rw [show Ic 1037 b = nI u from (congrFun hk.1 6).trans hn0]; exact Int32.le_refl _
      refine V_iload_n C dX7_wanders_2 rfl ?_
      refine V_aload_n C dX7_wanders_3 rfl ?_
      refine V_getR C fl_X7_146 (ob_K hM) (ob_R hM 36 1037 rfl rfl) rfl dX7_wanders_4 ?_
      refine V_iload_n C dX7_wanders_7 rfl ?_
      refine V_iald C (b) (ob_A hM 36 1037 rfl rfl) (by first | rfl | (simp only [nI_add, pk_mul]; done) | (simp only [nI_add, pk_mul]; congr 1; omega)) (by rw [ob_N hM 36 1037 rfl rfl]; omega) (by rw [ob_N hM 36 1037 rfl rfl]; decide) dX7_wanders_8 ?_
      refine V_icmp_ge C 97 dX7_wanders_9 (by decide) (fun h9 => ?_) (fun h9 => absurd (c9) h9)
      exact V_vret C (Nat.zero_le _) (Nat.zero_le _) dX7_wanders_97 (hP _ _ _ ⟨rfl, he, hj, hF⟩)
    | succ c ih =>
      intro u Ic Jc x3 x4 hu hF hk hj he
      have c9 : ¬ Ic 1037 b ≤ nI u := by rw [show Ic 1037 b = nI n from (congrFun hk.1 6).trans hn0]; exact nI_ge (by omega) (by omega)
      have hDc := hk.2.2
      have hgc : gOk (refD Ic Jc b) := by unfold gOk; rw [hk.2.1]; exact hg0
      have hGc := hG.fr hF
      have hcc : cmD (refD Ic Jc b) = n := by rw [← hcm]; unfold cmD; rw [hk.1]
      have huc : u < cmD (refD Ic Jc b) := by rw [hcc]; omega
      have hCc := hF.cm hC (by rw [hcc]; exact hn30)
      have fin : ∀ (In : HI) (Jn : HJ) (x3 x4 : Option Value), Fr b I J In Jn → Jn 1036 b = Jc 1036 b → (refD In Jn b, Jn 1035 b) = wanAt (kcl L g) (refD Ic Jc b, Jc 1035 b) u → V X P 0 0 2 [some (.ref 1000), some (.int (nI b)), some (.int (nI (u + 1))), x3, x4] [] S In Jn := by
        intro In Jn x3 x4 hF3 e2 eN
        have h := wanAt_kw (lw := kcl L g) (q := (refD Ic Jc b, Jc 1035 b)) (u := u) hDc hgc huc
        rw [← eN] at h
        refine ih (u + 1) In Jn x3 x4 (by omega) hF3 ⟨h.1.trans hk.1, h.2.1.trans hk.2.1, h.2.2⟩ (e2.trans hj) ?_
        rw [eN]; exact he
      by_cases h5 : refD Ic Jc b 5 u = 0
      · have b1 : ¬ bI (refD Ic Jc b 5 u = 0) = 0 := by rw [bI_0]; exact fun h => h h5
        refine V_iload_n C dX7_wanders_2 rfl ?_
        refine V_aload_n C dX7_wanders_3 rfl ?_
        refine V_getR C fl_X7_146 (ob_K hM) (ob_R hM 36 1037 rfl rfl) rfl dX7_wanders_4 ?_
        refine V_iload_n C dX7_wanders_7 rfl ?_
        refine V_iald C (b) (ob_A hM 36 1037 rfl rfl) (by first | rfl | (simp only [nI_add, pk_mul]; done) | (simp only [nI_add, pk_mul]; congr 1; omega)) (by rw [ob_N hM 36 1037 rfl rfl]; omega) (by rw [ob_N hM 36 1037 rfl rfl]; decide) dX7_wanders_8 ?_
        refine V_icmp_ge C 97 dX7_wanders_9 (by decide) (fun h9 => absurd h9 (c9)) (fun h9 => ?_)
        refine V_aload_n C dX7_wanders_12 rfl ?_
        refine V_iload_n C dX7_wanders_13 rfl ?_
        refine V_iload_n C dX7_wanders_14 rfl ?_
        refine V_callV (F := fun _ => True) C (m_isThere hM hb hDc huc) mi_X7_isThere ml_X7_372 rfl (ob_K hM) (by decide) (by decide) (by decide) (Nat.le_of_ble_eq_true rfl) (fun _ _ => trivial) (fun v _ => clo_T v) rfl dX7_wanders_15 ?_
        rintro v S' I' J' ⟨hS, rfl, hI, hJ⟩
        obtain rfl := hS.symm
        obtain rfl := hI.symm
        obtain rfl := hJ.symm
        refine V_if_eq C 91 dX7_wanders_18 (by decide) (fun h18 => absurd h18 (b1)) (fun h18 => ?_)
        refine V_aload_n C dX7_wanders_21 rfl ?_
        refine V_iload_n C dX7_wanders_22 rfl ?_
        refine V_iload_n C dX7_wanders_23 rfl ?_
        refine V_callV (F := fun _ => True) C (m_knowsLump hM hb hDc huc) mi_X7_knowsLump ml_X7_376 rfl (ob_K hM) (by decide) (by decide) (by decide) (Nat.le_of_ble_eq_true rfl) (fun _ _ => trivial) (fun v _ => clo_T v) rfl dX7_wanders_24 ?_
        rintro v S' I' J' ⟨hS, rfl, hI, hJ⟩
        obtain rfl := hS.symm
        obtain rfl := hI.symm
        obtain rfl := hJ.symm
        refine V_aload_n C dX7_wanders_27 rfl ?_
        refine V_bipush C (v := nI 6) dX7_wanders_28 (by decide +kernel) ?_
        refine V_callV (F := fun _ => True) C (m_lawK hM hGc (by omega)) mi_X7_lawFor ml_X7_359 rfl (ob_K hM) (by decide) (by decide) (by decide) (Nat.le_of_ble_eq_true rfl) (fun _ _ => trivial) (fun v _ => clo_T v) rfl dX7_wanders_30 ?_
        rintro v S' I' J' ⟨hS, rfl, ⟨p2, hI⟩, hJ⟩
        obtain rfl := hS.symm
        obtain rfl := hJ.symm
        have hS2 := (Sc.kn (I := Ic) (kn (Ic 1023) (fLu (refD Ic Jc b) u))).tr (Sc.pl p2)
        rw [← hI] at hS2
        clear hI
        have hF2 := hF.tr (hS2.fr (J := Jc) (b := b))
        have eD : refD I' Jc b = refD Ic Jc b := hS2.eq b
        have hC2 : cAll I' Jc := hF2.cm hC (by rw [eD, hcc]; exact hn30)
        have huc2 : u < cmD (refD I' Jc b) := by rw [eD]; exact huc
        have e41 : I' 1041 (30 * b + u) = refD Ic Jc b 8 u := by rw [hS2 1041 (by decide) (by decide) (by decide) (by decide), ← (r_lump hDc huc).2.2.2.1]
        refine V_istore_n C dX7_wanders_33 (hn _ (by decide)) ?_
        refine V_bipush C (v := nI 30) dX7_wanders_34 (by decide +kernel) ?_
        refine V_iload_n C dX7_wanders_36 rfl ?_
        refine V_imul C dX7_wanders_37 ?_
        refine V_iload_n C dX7_wanders_38 rfl ?_
        refine V_iadd C dX7_wanders_39 ?_
        refine V_istore C dX7_wanders_40 (hn _ (by decide)) ?_
        refine V_iload_n C dX7_wanders_42 rfl ?_
        refine V_if_lt C 91 dX7_wanders_43 (by decide) (fun h43 => ?_) (fun h43 => ?_)
        · refine V_iincU C dX7_wanders_91 rfl (hn _ (by decide)) ?_
          refine V_goto C 2 dX7_wanders_94 (by decide) ?_
          first
            | exact fin _ _ _ _ hF2 rfl (by rw [eD, wanAt, if_pos h5, if_pos (show kcl L g 6 (fLu (refD Ic Jc b) u) < 0 from h43)])
            | exact fin _ _ _ _ hF2 rfl (by rw [eD, wanAt, if_pos h5, if_neg (show ¬ kcl L g 6 (fLu (refD Ic Jc b) u) < 0 from h43), if_neg (show ¬ lockD (refD Ic Jc b) u = 0 from h52)])
            | exact fin _ _ _ _ (hF2.tr (Fr.Ti hC2 (by omega))) rfl (by rw [rTi huc2, eD, wanAt, if_pos h5, if_neg (show ¬ kcl L g 6 (fLu (refD Ic Jc b) u) < 0 from h43), if_pos (show lockD (refD Ic Jc b) u = 0 from h52), if_pos (show refD Ic Jc b 8 u + nI 1 < kcl L g 6 (fLu (refD Ic Jc b) u) from h74)])
            | exact fin _ _ _ _ ((hF2.tr (Fr.Ti hC2 (by omega))).tr hF3) hj3 (by rw [hgo, rTi huc2, eD, wanAt, if_pos h5, if_neg (show ¬ kcl L g 6 (fLu (refD Ic Jc b) u) < 0 from h43), if_pos (show lockD (refD Ic Jc b) u = 0 from h52), if_neg (show ¬ refD Ic Jc b 8 u + nI 1 < kcl L g 6 (fLu (refD Ic Jc b) u) from h74)])
        · refine V_aload_n C dX7_wanders_46 rfl ?_
          refine V_iload_n C dX7_wanders_47 rfl ?_
          refine V_iload_n C dX7_wanders_48 rfl ?_
          refine V_callV (F := fun _ => True) C (m_isLocked hM hb (show rOk (refD I' Jc b) by rw [eD]; exact hDc) huc2) mi_X7_isLocked ml_X7_385 rfl (ob_K hM) (by decide) (by decide) (by decide) (Nat.le_of_ble_eq_true rfl) (fun _ _ => trivial) (fun v _ => clo_T v) rfl dX7_wanders_49 ?_
          rintro v S' I' J' ⟨hS, rfl, hI, hJ⟩
          obtain rfl := hS.symm
          obtain rfl := hI.symm
          obtain rfl := hJ.symm
          rw [eD]
          refine V_if_ne C 91 dX7_wanders_52 (by decide) (fun h52 => ?_) (fun h52 => ?_)
          · refine V_iincU C dX7_wanders_91 rfl (hn _ (by decide)) ?_
            refine V_goto C 2 dX7_wanders_94 (by decide) ?_
            first
              | exact fin _ _ _ _ hF2 rfl (by rw [eD, wanAt, if_pos h5, if_pos (show kcl L g 6 (fLu (refD Ic Jc b) u) < 0 from h43)])
              | exact fin _ _ _ _ hF2 rfl (by rw [eD, wanAt, if_pos h5, if_neg (show ¬ kcl L g 6 (fLu (refD Ic Jc b) u) < 0 from h43), if_neg (show ¬ lockD (refD Ic Jc b) u = 0 from h52)])
              | exact fin _ _ _ _ (hF2.tr (Fr.Ti hC2 (by omega))) rfl (by rw [rTi huc2, eD, wanAt, if_pos h5, if_neg (show ¬ kcl L g 6 (fLu (refD Ic Jc b) u) < 0 from h43), if_pos (show lockD (refD Ic Jc b) u = 0 from h52), if_pos (show refD Ic Jc b 8 u + nI 1 < kcl L g 6 (fLu (refD Ic Jc b) u) from h74)])
              | exact fin _ _ _ _ ((hF2.tr (Fr.Ti hC2 (by omega))).tr hF3) hj3 (by rw [hgo, rTi huc2, eD, wanAt, if_pos h5, if_neg (show ¬ kcl L g 6 (fLu (refD Ic Jc b) u) < 0 from h43), if_pos (show lockD (refD Ic Jc b) u = 0 from h52), if_neg (show ¬ refD Ic Jc b 8 u + nI 1 < kcl L g 6 (fLu (refD Ic Jc b) u) from h74)])
          · refine V_aload_n C dX7_wanders_55 rfl ?_
            refine V_getR C fl_X7_158 (ob_K hM) (ob_R hM 40 1041 rfl rfl) rfl dX7_wanders_56 ?_
            refine V_iload C dX7_wanders_59 rfl ?_
            refine V_dup2 C dX7_wanders_61 rfl rfl ?_
            refine V_iald C (30 * b + u) (ob_A hM 40 1041 rfl rfl) (by first | rfl | (simp only [nI_add, pk_mul]; done) | (simp only [nI_add, pk_mul]; congr 1; omega)) (by rw [ob_N hM 40 1041 rfl rfl]; omega) (by rw [ob_N hM 40 1041 rfl rfl]; decide) dX7_wanders_62 ?_
            rw [e41]
            refine V_iconst C (v := nI 1) dX7_wanders_63 (by decide +kernel) ?_
            refine V_iadd C dX7_wanders_64 ?_
            refine V_iast C (30 * b + u) (ob_A hM 40 1041 rfl rfl) (by first | rfl | (simp only [nI_add, pk_mul]; done) | (simp only [nI_add, pk_mul]; congr 1; omega)) (by rw [ob_N hM 40 1041 rfl rfl]; omega) (by rw [ob_N hM 40 1041 rfl rfl]; decide) dX7_wanders_65 ?_
            refine V_aload_n C dX7_wanders_66 rfl ?_
            refine V_getR C fl_X7_158 (ob_K hM) (ob_R hM 40 1041 rfl rfl) rfl dX7_wanders_67 ?_
            refine V_iload C dX7_wanders_70 rfl ?_
            refine V_iald C (30 * b + u) (ob_A hM 40 1041 rfl rfl) (by first | rfl | (simp only [nI_add, pk_mul]; done) | (simp only [nI_add, pk_mul]; congr 1; omega)) (by rw [ob_N hM 40 1041 rfl rfl]; omega) (by rw [ob_N hM 40 1041 rfl rfl]; decide) dX7_wanders_72 ?_
            rw [up2_row, va_up_self]
            refine V_iload_n C dX7_wanders_73 rfl ?_
            refine V_icmp_lt C 91 dX7_wanders_74 (by decide) (fun h74 => ?_) (fun h74 => ?_)
            · refine V_iincU C dX7_wanders_91 rfl (hn _ (by decide)) ?_
              refine V_goto C 2 dX7_wanders_94 (by decide) ?_
              first
                | exact fin _ _ _ _ hF2 rfl (by rw [eD, wanAt, if_pos h5, if_pos (show kcl L g 6 (fLu (refD Ic Jc b) u) < 0 from h43)])
                | exact fin _ _ _ _ hF2 rfl (by rw [eD, wanAt, if_pos h5, if_neg (show ¬ kcl L g 6 (fLu (refD Ic Jc b) u) < 0 from h43), if_neg (show ¬ lockD (refD Ic Jc b) u = 0 from h52)])
                | exact fin _ _ _ _ (hF2.tr (Fr.Ti hC2 (by omega))) rfl (by rw [rTi huc2, eD, wanAt, if_pos h5, if_neg (show ¬ kcl L g 6 (fLu (refD Ic Jc b) u) < 0 from h43), if_pos (show lockD (refD Ic Jc b) u = 0 from h52), if_pos (show refD Ic Jc b 8 u + nI 1 < kcl L g 6 (fLu (refD Ic Jc b) u) from h74)])
                | exact fin _ _ _ _ ((hF2.tr (Fr.Ti hC2 (by omega))).tr hF3) hj3 (by rw [hgo, rTi huc2, eD, wanAt, if_pos h5, if_neg (show ¬ kcl L g 6 (fLu (refD Ic Jc b) u) < 0 from h43), if_pos (show lockD (refD Ic Jc b) u = 0 from h52), if_neg (show ¬ refD Ic Jc b 8 u + nI 1 < kcl L g 6 (fLu (refD Ic Jc b) u) from h74)])
            · refine V_aload_n C dX7_wanders_77 rfl ?_
              refine V_getR C fl_X7_158 (ob_K hM) (ob_R hM 40 1041 rfl rfl) rfl dX7_wanders_78 ?_
              refine V_iload C dX7_wanders_81 rfl ?_
              refine V_iconst C (v := nI 0) dX7_wanders_83 (by decide +kernel) ?_
              refine V_iast C (30 * b + u) (ob_A hM 40 1041 rfl rfl) (by first | rfl | (simp only [nI_add, pk_mul]; done) | (simp only [nI_add, pk_mul]; congr 1; omega)) (by rw [ob_N hM 40 1041 rfl rfl]; omega) (by rw [ob_N hM 40 1041 rfl rfl]; decide) dX7_wanders_84 ?_
              rw [up2_up2]
              refine V_aload_n C dX7_wanders_85 rfl ?_
              refine V_iload_n C dX7_wanders_86 rfl ?_
              refine V_iload_n C dX7_wanders_87 rfl ?_
              refine V_callV (F := fun _ => True) C (m_goes hM hb ((hF2.tr (Fr.Ti hC2 (k := u) (v := nI 0) (by omega))).cm hC (by rw [rTi huc2, eD]; exact hcc ▸ hn30)) (show rOk (refD (up2 I' 1041 (30 * b + u) (nI 0)) Jc b) by rw [rTi huc2, eD]; exact kpD.ok ⟨rfl, rfl, rfl⟩ hDc) (show gOk (refD (up2 I' 1041 (30 * b + u) (nI 0)) Jc b) by rw [rTi huc2, eD]; exact hgc) (show u < cmD (refD (up2 I' 1041 (30 * b + u) (nI 0)) Jc b) by rw [rTi huc2]; exact huc2)) mi_X7_goes ml_X7_388 rfl (ob_K hM) (by decide) (by decide) (by decide) (Nat.le_of_ble_eq_true rfl) (fun _ _ => trivial) (fun v _ => clo_T v) rfl dX7_wanders_88 ?_
              rintro v S' I3 J3 ⟨hS, rfl, hgo, hj3, hF3⟩
              obtain rfl := hS.symm
              refine V_iincU C dX7_wanders_91 rfl (hn _ (by decide)) ?_
              refine V_goto C 2 dX7_wanders_94 (by decide) ?_
              first
                | exact fin _ _ _ _ hF2 rfl (by rw [eD, wanAt, if_pos h5, if_pos (show kcl L g 6 (fLu (refD Ic Jc b) u) < 0 from h43)])
                | exact fin _ _ _ _ hF2 rfl (by rw [eD, wanAt, if_pos h5, if_neg (show ¬ kcl L g 6 (fLu (refD Ic Jc b) u) < 0 from h43), if_neg (show ¬ lockD (refD Ic Jc b) u = 0 from h52)])
                | exact fin _ _ _ _ (hF2.tr (Fr.Ti hC2 (by omega))) rfl (by rw [rTi huc2, eD, wanAt, if_pos h5, if_neg (show ¬ kcl L g 6 (fLu (refD Ic Jc b) u) < 0 from h43), if_pos (show lockD (refD Ic Jc b) u = 0 from h52), if_pos (show refD Ic Jc b 8 u + nI 1 < kcl L g 6 (fLu (refD Ic Jc b) u) from h74)])
                | exact fin _ _ _ _ ((hF2.tr (Fr.Ti hC2 (by omega))).tr hF3) hj3 (by rw [hgo, rTi huc2, eD, wanAt, if_pos h5, if_neg (show ¬ kcl L g 6 (fLu (refD Ic Jc b) u) < 0 from h43), if_pos (show lockD (refD Ic Jc b) u = 0 from h52), if_neg (show ¬ refD Ic Jc b 8 u + nI 1 < kcl L g 6 (fLu (refD Ic Jc b) u) from h74)])
      · have b1 : bI (refD Ic Jc b 5 u = 0) = 0 := by rw [bI_0]; exact h5
        refine V_iload_n C dX7_wanders_2 rfl ?_
        refine V_aload_n C dX7_wanders_3 rfl ?_
        refine V_getR C fl_X7_146 (ob_K hM) (ob_R hM 36 1037 rfl rfl) rfl dX7_wanders_4 ?_
        refine V_iload_n C dX7_wanders_7 rfl ?_
        refine V_iald C (b) (ob_A hM 36 1037 rfl rfl) (by first | rfl | (simp only [nI_add, pk_mul]; done) | (simp only [nI_add, pk_mul]; congr 1; omega)) (by rw [ob_N hM 36 1037 rfl rfl]; omega) (by rw [ob_N hM 36 1037 rfl rfl]; decide) dX7_wanders_8 ?_
        refine V_icmp_ge C 97 dX7_wanders_9 (by decide) (fun h9 => absurd h9 (c9)) (fun h9 => ?_)
        refine V_aload_n C dX7_wanders_12 rfl ?_
        refine V_iload_n C dX7_wanders_13 rfl ?_
        refine V_iload_n C dX7_wanders_14 rfl ?_
        refine V_callV (F := fun _ => True) C (m_isThere hM hb hDc huc) mi_X7_isThere ml_X7_372 rfl (ob_K hM) (by decide) (by decide) (by decide) (Nat.le_of_ble_eq_true rfl) (fun _ _ => trivial) (fun v _ => clo_T v) rfl dX7_wanders_15 ?_
        rintro v S' I' J' ⟨hS, rfl, hI, hJ⟩
        obtain rfl := hS.symm
        obtain rfl := hI.symm
        obtain rfl := hJ.symm
        refine V_if_eq C 91 dX7_wanders_18 (by decide) (fun h18 => ?_) (fun h18 => absurd (b1) h18)
        refine V_iincU C dX7_wanders_91 rfl (hn _ (by decide)) ?_
        refine V_goto C 2 dX7_wanders_94 (by decide) ?_
        exact fin _ _ _ _ hF rfl (by rw [wanAt, if_neg h5])
  refine V_iconst C (v := nI 0) dX7_wanders_0 (by decide +kernel) ?_
  refine V_istore_n C dX7_wanders_1 (hn _ (by decide)) ?_
  exact loop n 0 I J _ _ (by omega) Fr.re ⟨rfl, rfl, hD⟩ rfl rfl
end M10
