/-! the reference's calls: tries by ends and seeds, marks, the tape -/
section M21
variable {l : Launch} {S : HS} {I I' : HI} {J J' : HJ} {z : SV}
def lsT (T : List (Int32 × Int32)) : Nat → Int32
  | 0 => 0
  | n + 1 => if (T.getD n (0, 0)).2 ≤ lsT T n then lsT T n else (T.getD n (0, 0)).2
/-- do the first n told counts of k steps fit -/
def chN (T : List (Int32 × Int32)) (th k : Int32) : Nat → Int32
  | 0 => 1
  | n + 1 => if chN T th k n = 0 then 0 else if (T.getD n (0, 0)).2 = k then (if th = (T.getD n (0, 0)).1 then 1 else 0) else 1
def fitN (f : QV → QV) (T : List (Int32 × Int32)) : Nat → Nat → QV → Int32
  | 0, _, _ => 1
  | c + 1, k, q => if chN T (thD q.1) (nI k) T.length = 0 then 0 else fitN f T c (k + 1) (f q)
def fitV (z : SV) (g : Int32) : Int32 := fitN (stZ z g) z.2.2.2.2 (cl (lsT z.2.2.2.2 z.2.2.2.2.length) + 1) 0 z.1
theorem chN_01 {T : List (Int32 × Int32)} {th k : Int32} : ∀ n, chN T th k n = 0 ∨ chN T th k n = 1
  | 0 => Or.inr rfl
  | n + 1 => by
    unfold chN
    split
    · exact Or.inl rfl
    · split
      · exact b01
      · exact Or.inr rfl
theorem lsT_ex {T : List (Int32 × Int32)} (h : ∀ p, p ∈ T → ∃ s, p.2 = nI s ∧ s ≤ 100) : ∀ n, n ≤ T.length → ∃ s, lsT T n = nI s ∧ s ≤ 100 := by
  intro n
  induction n with
  | zero => exact fun _ => ⟨0, rfl, by omega⟩
  | succ n ih =>
    intro hn
    have h1 := ih (by omega)
    unfold lsT
    split
    · exact h1
    · have e : T.getD n (0, 0) = T[n] := by simp [List.getD, show n < T.length by omega]
      rw [e]
      exact h _ (List.getElem_mem _)
theorem thD_ok {D : DV} : True := trivial
set_option maxRecDepth 100000 in
set_option maxHeartbeats 1000000 in
theorem m_isFit (hM : Ob S 7 1000) (hR : RefR z I J) (hO : OkR z) (g : Int32) : Mn l yX7_isFit cX7_isFit 6 (some .boolean) 7 [.ref 1000, .int g] S I J (fun v I' J' => v = some (.int (fitV z g)) ∧ Kp I J I' J') := by
  refine Mn.of (by decide) (fun ad => by simp [lg_sl, vv, Value.category]) (fun X P hP hn C => ?_)
  obtain ⟨T, hT⟩ : ∃ T, T = z.2.2.2.2 := ⟨_, rfl⟩
  have h10 : T.length ≤ 10 := by rw [hT]; exact hO.2.2.2.2.2.1
  obtain ⟨la, hla, hla2⟩ := lsT_ex (T := T) (by rw [hT]; exact hO.2.2.2.2.2.2.1) T.length (Nat.le_refl _)
  have hP' : ∀ I' J', Kp I J I' J' → ∀ v, v = fitN (stZ z g) T (la + 1) 0 z.1 → P (some (.int v)) S I' J' := fun I' J' k v hv => hP _ _ _ ⟨by rw [hv, fitV, ← hT, hla, show cl (nI la) = la from nI_clamp (by omega)], k⟩
  have outer : ∀ (c k : Nat) (In : HI) (Jn : HJ) (q : QV) (x5 : Option Value), k + c = la + 1 → Kp I J In Jn → In 1000 25 = g → refQ In Jn 7 = q → okD q.1 → (∀ v, v = fitN (stZ z g) T c k q → v = fitN (stZ z g) T (la + 1) 0 z.1) → V X P 0 0 54 [some (.ref 1000), some (.int g), some (.int (nI 1)), some (.int (nI la)), some (.int (nI k)), x5] [] S In Jn := by
    intro c
    induction c with
    | zero =>
      intro k In Jn q x5 hk h1 h2 h3 h4 h5
      refine V_iload C dX7_isFit_54 rfl ?_
      refine V_iload_n C dX7_isFit_56 rfl ?_
      refine V_icmp_gt C 142 dX7_isFit_57 (by decide) (fun h57 => ?_) (fun h57 => absurd (nI_lt (by omega) (by omega)) h57)
      refine V_iload_n C dX7_isFit_142 rfl ?_
      exact V_zret C (by first | exact Or.inl rfl | exact Or.inr rfl | (simp only [bI]; split <;> first | exact Or.inl rfl | exact Or.inr rfl) | assumption) (Nat.zero_le _) (Nat.zero_le _) dX7_isFit_143 (hP' _ _ h1 _ (h5 _ rfl))
    | succ c ih =>
      intro k In Jn q x5 hk h1 h2 h3 h4 h5
      have hR2 := hR.kp h1
      obtain ⟨e48, eT⟩ := hR2.2.2.2.2.2.2.2.2.2.1
      rw [← hT] at e48 eT
      have hD : rOk (refD In Jn 7) := by rw [q7 h3]; exact h4.1
      have out0 : chN T (thD q.1) (nI k) T.length = 0 → ∀ x5, V X P 0 0 120 [some (.ref 1000), some (.int g), some (.int 0), some (.int (nI la)), some (.int (nI k)), x5] [] S In Jn := by
        intro h0 x5
        have fin : P (some (.int 0)) S In Jn := hP' _ _ h1 _ (h5 _ (by rw [fitN, if_pos h0]))
        have k136 : V X P 0 0 136 [some (.ref 1000), some (.int g), some (.int 0), some (.int (nI la)), some (.int (nI k)), x5] [] S In Jn := by
          refine V_iincU C dX7_isFit_136 rfl (hn _ (by decide)) ?_
          refine V_goto C 54 dX7_isFit_139 (by decide) ?_
          refine V_iload C dX7_isFit_54 rfl ?_
          refine V_iload_n C dX7_isFit_56 rfl ?_
          refine V_icmp_gt C 142 dX7_isFit_57 (by decide) (fun h57 => ?_) (fun h57 => ?_)
          · refine V_iload_n C dX7_isFit_142 rfl ?_
            exact V_zret C (by first | exact Or.inl rfl | exact Or.inr rfl | (simp only [bI]; split <;> first | exact Or.inl rfl | exact Or.inr rfl) | assumption) (Nat.zero_le _) (Nat.zero_le _) dX7_isFit_143 fin
          · refine V_iload_n C dX7_isFit_60 rfl ?_
            refine V_if_eq C 142 dX7_isFit_61 (by decide) (fun h61 => ?_) (fun h61 => absurd (rfl) h61)
            refine V_iload_n C dX7_isFit_142 rfl ?_
            exact V_zret C (by first | exact Or.inl rfl | exact Or.inr rfl | (simp only [bI]; split <;> first | exact Or.inl rfl | exact Or.inr rfl) | assumption) (Nat.zero_le _) (Nat.zero_le _) dX7_isFit_143 fin
        refine V_iload C dX7_isFit_120 rfl ?_
        refine V_iload_n C dX7_isFit_122 rfl ?_
        refine V_icmp_ge C 136 dX7_isFit_123 (by decide) (fun h123 => ?_) (fun h123 => ?_)
        · exact k136
        · refine V_iload_n C dX7_isFit_126 rfl ?_
          refine V_if_eq C 136 dX7_isFit_127 (by decide) (fun h127 => ?_) (fun h127 => absurd (rfl) h127)
          exact k136
      have out1 : chN T (thD q.1) (nI k) T.length ≠ 0 → ∀ x5, V X P 0 0 120 [some (.ref 1000), some (.int g), some (.int (nI 1)), some (.int (nI la)), some (.int (nI k)), x5] [] S In Jn := by
        intro h0 x5
        by_cases hlt : k < la
        · refine V_iload C dX7_isFit_120 rfl ?_
          refine V_iload_n C dX7_isFit_122 rfl ?_
          refine V_icmp_ge C 136 dX7_isFit_123 (by decide) (fun h123 => absurd h123 (nI_ge (by omega) (by omega))) (fun h123 => ?_)
          refine V_iload_n C dX7_isFit_126 rfl ?_
          refine V_if_eq C 136 dX7_isFit_127 (by decide) (fun h127 => absurd h127 (by decide)) (fun h127 => ?_)
          refine V_aload_n C dX7_isFit_130 rfl ?_
          refine V_bipush C (v := nI 7) dX7_isFit_131 (by decide +kernel) ?_
          refine V_callV (F := fun _ => True) C (m_steps1 (b := 7) hM (by omega) (hR2.rG hO h2) (fun f => hO.2.2.1 g f) hR2.2.1 (by rw [q7 h3]; exact h4)) mi_X7_steps1 ml_X7_394 rfl (ob_K hM) (by decide) (by decide) (by decide) (Nat.le_of_ble_eq_true rfl) (fun _ _ => trivial) (fun v _ => clo_T v) rfl dX7_isFit_133 ?_
          rintro v S' I2 J2 ⟨hS, rfl, e, f⟩
          obtain rfl := hS.symm
          obtain ⟨s1, s2, s3⟩ := st7 hR2 hO h3 h4 e f
          refine V_iincU C dX7_isFit_136 rfl (hn _ (by decide)) ?_
          refine V_goto C 54 dX7_isFit_139 (by decide) ?_
          exact ih (k + 1) _ _ _ _ (by omega) (h1.tr s1) (s2.trans h2) s3 (step_ok (fun f => hO.2.2.1 g f) h4) (fun v hv => h5 v (by rw [fitN, if_neg h0]; exact hv))
        · have hc : c = 0 := by omega
          subst hc
          refine V_iload C dX7_isFit_120 rfl ?_
          refine V_iload_n C dX7_isFit_122 rfl ?_
          refine V_icmp_ge C 136 dX7_isFit_123 (by decide) (fun h123 => ?_) (fun h123 => absurd (nI_le (by omega) (by omega)) h123)
          refine V_iincU C dX7_isFit_136 rfl (hn _ (by decide)) ?_
          refine V_goto C 54 dX7_isFit_139 (by decide) ?_
          exact ih (k + 1) _ _ q _ (by omega) h1 h2 h3 h4 (fun v hv => h5 v (by rw [fitN, if_neg h0]; exact hv))
      have inner : ∀ (d x : Nat), x + d = T.length → V X P 0 0 67 [some (.ref 1000), some (.int g), some (.int (chN T (thD q.1) (nI k) x)), some (.int (nI la)), some (.int (nI k)), some (.int (nI x))] [] S In Jn := by
        intro d
        induction d with
        | zero =>
          intro x hx
          have hx : x = T.length := hx
          subst hx
          refine V_iload C dX7_isFit_67 rfl ?_
          refine V_aload_n C dX7_isFit_69 rfl ?_
          refine V_getI C fl_X7_428 (ob_K hM) rfl dX7_isFit_70 ?_
          refine V_icmp_ge C 120 dX7_isFit_73 (by decide) (fun h73 => ?_) (fun h73 => absurd (by rw [e48]; exact Int32.le_refl _) h73)
          rcases chN_01 (T := T) (th := thD q.1) (k := nI k) T.length with h0 | h0
          · rw [h0]; exact out0 h0 _
          · rw [h0]; exact out1 (by rw [h0]; decide) _
        | succ d ih2 =>
          intro x hx
          obtain ⟨t1, t2⟩ := eT x (by omega)
          have key : V X P 0 0 113 [some (.ref 1000), some (.int g), some (.int (chN T (thD q.1) (nI k) x)), some (.int (nI la)), some (.int (nI k)), some (.int (nI x))] [.int (chN T (thD q.1) (nI k) (x + 1))] S In Jn := by
            refine V_istore_n C dX7_isFit_113 (hn _ (by decide)) ?_
            refine V_iincU C dX7_isFit_114 rfl (hn _ (by decide)) ?_
            refine V_goto C 67 dX7_isFit_117 (by decide) ?_
            exact ih2 (x + 1) (by omega)
          refine V_iload C dX7_isFit_67 rfl ?_
          refine V_aload_n C dX7_isFit_69 rfl ?_
          refine V_getI C fl_X7_428 (ob_K hM) rfl dX7_isFit_70 ?_
          refine V_icmp_ge C 120 dX7_isFit_73 (by decide) (fun h73 => absurd h73 (by rw [e48]; exact nI_ge (by omega) (by omega))) (fun h73 => ?_)
          refine V_iload_n C dX7_isFit_76 rfl ?_
          refine V_if_eq C 112 dX7_isFit_77 (by decide) (fun h77 => ?_) (fun h77 => ?_)
          · refine V_iconst C (v := nI 0) dX7_isFit_112 (by decide +kernel) ?_
            rw [chN] at key
            first | (rw [if_pos h77] at key; exact key) | (rw [if_neg h77, if_neg h89] at key; exact key) | (rw [if_neg h77, if_pos h89, if_neg h105] at key; exact key) | (rw [if_neg h77, if_pos h89, if_pos h105] at key; exact key)
          · refine V_aload_n C dX7_isFit_80 rfl ?_
            refine V_getR C fl_X7_179 (ob_K hM) (ob_R hM 50 1051 rfl rfl) rfl dX7_isFit_81 ?_
            refine V_iload C dX7_isFit_84 rfl ?_
            refine V_iald C (x) (ob_A hM 50 1051 rfl rfl) (by first | rfl | (simp only [nI_add, pk_mul]; done) | (simp only [nI_add, pk_mul]; congr 1; omega)) (by rw [ob_N hM 50 1051 rfl rfl]; omega) (by rw [ob_N hM 50 1051 rfl rfl]; decide) dX7_isFit_86 ?_
            refine V_iload C dX7_isFit_87 rfl ?_
            rw [t2]
            refine V_icmp_ne C 108 dX7_isFit_89 (by decide) (fun h89 => ?_) (fun h89 => ?_)
            · refine V_iconst C (v := nI 1) dX7_isFit_108 (by decide +kernel) ?_
              refine V_goto C 113 dX7_isFit_109 (by decide) ?_
              rw [chN] at key
              first | (rw [if_pos h77] at key; exact key) | (rw [if_neg h77, if_neg h89] at key; exact key) | (rw [if_neg h77, if_pos h89, if_neg h105] at key; exact key) | (rw [if_neg h77, if_pos h89, if_pos h105] at key; exact key)
            · refine V_aload_n C dX7_isFit_92 rfl ?_
              refine V_bipush C (v := nI 7) dX7_isFit_93 (by decide +kernel) ?_
              refine V_callV (F := fun _ => True) C (m_there (b := 7) hM (by omega) hD) mi_X7_there ml_X7_317 rfl (ob_K hM) (by decide) (by decide) (by decide) (Nat.le_of_ble_eq_true rfl) (fun _ _ => trivial) (fun v _ => clo_T v) rfl dX7_isFit_95 ?_
              rintro v S' I' J' ⟨hS, rfl, hI, hJ⟩
              obtain rfl := hS.symm
              obtain rfl := hI.symm
              obtain rfl := hJ.symm
              rw [q7 h3]
              refine V_aload_n C dX7_isFit_98 rfl ?_
              refine V_getR C fl_X7_176 (ob_K hM) (ob_R hM 49 1050 rfl rfl) rfl dX7_isFit_99 ?_
              refine V_iload C dX7_isFit_102 rfl ?_
              refine V_iald C (x) (ob_A hM 49 1050 rfl rfl) (by first | rfl | (simp only [nI_add, pk_mul]; done) | (simp only [nI_add, pk_mul]; congr 1; omega)) (by rw [ob_N hM 49 1050 rfl rfl]; omega) (by rw [ob_N hM 49 1050 rfl rfl]; decide) dX7_isFit_104 ?_
              rw [t1]
              refine V_icmp_ne C 112 dX7_isFit_105 (by decide) (fun h105 => ?_) (fun h105 => ?_)
              · refine V_iconst C (v := nI 0) dX7_isFit_112 (by decide +kernel) ?_
                rw [chN] at key
                first | (rw [if_pos h77] at key; exact key) | (rw [if_neg h77, if_neg h89] at key; exact key) | (rw [if_neg h77, if_pos h89, if_neg h105] at key; exact key) | (rw [if_neg h77, if_pos h89, if_pos h105] at key; exact key)
              · refine V_iconst C (v := nI 1) dX7_isFit_108 (by decide +kernel) ?_
                refine V_goto C 113 dX7_isFit_109 (by decide) ?_
                rw [chN] at key
                first | (rw [if_pos h77] at key; exact key) | (rw [if_neg h77, if_neg h89] at key; exact key) | (rw [if_neg h77, if_pos h89, if_neg h105] at key; exact key) | (rw [if_neg h77, if_pos h89, if_pos h105] at key; exact key)
      refine V_iload C dX7_isFit_54 rfl ?_
      refine V_iload_n C dX7_isFit_56 rfl ?_
      refine V_icmp_gt C 142 dX7_isFit_57 (by decide) (fun h57 => absurd h57 (Int32.not_lt.mpr (nI_le (by omega) (by omega)))) (fun h57 => ?_)
      refine V_iload_n C dX7_isFit_60 rfl ?_
      refine V_if_eq C 142 dX7_isFit_61 (by decide) (fun h61 => absurd h61 (by decide)) (fun h61 => ?_)
      refine V_iconst C (v := nI 0) dX7_isFit_64 (by decide +kernel) ?_
      refine V_istore C dX7_isFit_65 (hn _ (by decide)) ?_
      exact inner T.length 0 (Nat.zero_add _)
  have lasts : ∀ (c x : Nat) (In : HI) (Jn : HJ), x + c = T.length → Kp I J In Jn → In 1000 25 = g → refQ In Jn 7 = z.1 → V X P 0 0 13 [some (.ref 1000), some (.int g), some (.int (nI 1)), some (.int (lsT T x)), some (.int (nI x)), none] [] S In Jn := by
    intro c
    induction c with
    | zero =>
      intro x In Jn hx h1 h2 h3
      have hx : x = T.length := hx
      subst hx
      obtain ⟨e48, eT⟩ := (hR.kp h1).2.2.2.2.2.2.2.2.2.1
      rw [← hT] at e48 eT
      rw [hla]
      refine V_iload C dX7_isFit_13 rfl ?_
      refine V_aload_n C dX7_isFit_15 rfl ?_
      refine V_getI C fl_X7_428 (ob_K hM) rfl dX7_isFit_16 ?_
      refine V_icmp_ge C 51 dX7_isFit_19 (by decide) (fun h19 => ?_) (fun h19 => absurd (by rw [e48]; exact Int32.le_refl _) h19)
      refine V_iconst C (v := nI 0) dX7_isFit_51 (by decide +kernel) ?_
      refine V_istore C dX7_isFit_52 (hn _ (by decide)) ?_
      exact outer (la + 1) 0 _ _ _ _ (by omega) h1 h2 h3 hO.1 (fun _ h => h)
    | succ c ih =>
      intro x In Jn hx h1 h2 h3
      obtain ⟨e48, eT⟩ := (hR.kp h1).2.2.2.2.2.2.2.2.2.1
      rw [← hT] at e48 eT
      obtain ⟨t1, t2⟩ := eT x (by omega)
      have nx := ih (x + 1) In Jn (by omega) h1 h2 h3
      rw [lsT] at nx
      refine V_iload C dX7_isFit_13 rfl ?_
      refine V_aload_n C dX7_isFit_15 rfl ?_
      refine V_getI C fl_X7_428 (ob_K hM) rfl dX7_isFit_16 ?_
      refine V_icmp_ge C 51 dX7_isFit_19 (by decide) (fun h19 => absurd h19 (by rw [e48]; exact nI_ge (by omega) (by omega))) (fun h19 => ?_)
      refine V_aload_n C dX7_isFit_22 rfl ?_
      refine V_getR C fl_X7_179 (ob_K hM) (ob_R hM 50 1051 rfl rfl) rfl dX7_isFit_23 ?_
      refine V_iload C dX7_isFit_26 rfl ?_
      refine V_iald C (x) (ob_A hM 50 1051 rfl rfl) (by first | rfl | (simp only [nI_add, pk_mul]; done) | (simp only [nI_add, pk_mul]; congr 1; omega)) (by rw [ob_N hM 50 1051 rfl rfl]; omega) (by rw [ob_N hM 50 1051 rfl rfl]; decide) dX7_isFit_28 ?_
      rw [t2]
      refine V_iload_n C dX7_isFit_29 rfl ?_
      refine V_tern_icmp_le (vt := lsT T x) (vf := (T.getD x (0, 0)).2) (pm := 44) C 43 dX7_isFit_30 (by decide) (fun h30 k => ?_) (fun h30 k => ?_) ?_
      · refine V_iload_n C dX7_isFit_43 rfl ?_
        exact k
      · refine V_aload_n C dX7_isFit_33 rfl ?_
        refine V_getR C fl_X7_179 (ob_K hM) (ob_R hM 50 1051 rfl rfl) rfl dX7_isFit_34 ?_
        refine V_iload C dX7_isFit_37 rfl ?_
        refine V_iald C (x) (ob_A hM 50 1051 rfl rfl) (by first | rfl | (simp only [nI_add, pk_mul]; done) | (simp only [nI_add, pk_mul]; congr 1; omega)) (by rw [ob_N hM 50 1051 rfl rfl]; omega) (by rw [ob_N hM 50 1051 rfl rfl]; decide) dX7_isFit_39 ?_
        rw [t2]
        refine V_goto C 44 dX7_isFit_40 (by decide) ?_
        exact k
      refine V_istore_n C dX7_isFit_44 (hn _ (by decide)) ?_
      refine V_iincU C dX7_isFit_45 rfl (hn _ (by decide)) ?_
      refine V_goto C 13 dX7_isFit_48 (by decide) ?_
      exact nx
  refine V_aload_n C dX7_isFit_0 rfl ?_
  refine V_iload_n C dX7_isFit_1 rfl ?_
  refine V_iconst C (v := nI 0) dX7_isFit_2 (by decide +kernel) ?_
  refine V_callV (F := fun _ => True) C (m_tries hM hR hO g (n := 0) (by omega)) mi_X7_tries ml_X7_422 rfl (ob_K hM) (by decide) (by decide) (by decide) (Nat.le_of_ble_eq_true rfl) (fun _ _ => trivial) (fun v _ => clo_T v) rfl dX7_isFit_3 ?_
  rintro v S' I2 J2 ⟨hS, rfl, k1, k2, k3⟩
  obtain rfl := hS.symm
  refine V_iconst C (v := nI 1) dX7_isFit_6 (by decide +kernel) ?_
  refine V_istore_n C dX7_isFit_7 (hn _ (by decide)) ?_
  refine V_iconst C (v := nI 0) dX7_isFit_8 (by decide +kernel) ?_
  refine V_istore_n C dX7_isFit_9 (hn _ (by decide)) ?_
  refine V_iconst C (v := nI 0) dX7_isFit_10 (by decide +kernel) ?_
  refine V_istore C dX7_isFit_11 (hn _ (by decide)) ?_
  exact lasts T.length 0 _ _ (Nat.zero_add _) k1 k2 k3
set_option maxRecDepth 100000 in
theorem m_fits (hM : Ob S 7 1000) (hR : RefR z I J) (hO : OkR z) (g : Int32) : Mn l yX7_fits cX7_fits 2 (some .int) 8 [.ref 1000, .int g] S I J (fun v I' J' => v = some (.int (if isE z g then (if fitV z g = 0 then 0 else 1) else -1)) ∧ RefR z I' J') := by
  refine Mn.of (by decide) (fun ad => by simp [lg_sl, vv, Value.category]) (fun X P hP hn C => ?_)
  have key : ∀ I0, RefR z I0 J → V X P 0 0 5 [some (.ref 1000), some (.int g)] [] S I0 J := by
    intro I0 hR
    refine V_aload_n C dX7_fits_5 rfl ?_
    refine V_iload_n C dX7_fits_6 rfl ?_
    refine V_callV (F := fun _ => True) C (m_isEnd hM hR g) mi_X7_isEnd ml_X7_311 rfl (ob_K hM) (by decide) (by decide) (by decide) (Nat.le_of_ble_eq_true rfl) (fun _ _ => trivial) (fun v _ => clo_T v) rfl dX7_fits_7 ?_
    rintro v S' I' J' ⟨hS, rfl, hI, hJ⟩
    obtain rfl := hS.symm
    obtain rfl := hI.symm
    obtain rfl := hJ.symm
    refine V_if_ne C 17 dX7_fits_10 (by decide) (fun h10 => ?_) (fun h10 => ?_)
    · refine V_aload_n C dX7_fits_17 rfl ?_
      refine V_iload_n C dX7_fits_18 rfl ?_
      refine V_callV (F := fun _ => True) C (m_isFit hM hR hO g) mi_X7_isFit ml_X7_431 rfl (ob_K hM) (by decide) (by decide) (by decide) (Nat.le_of_ble_eq_true rfl) (fun _ _ => trivial) (fun v _ => clo_T v) rfl dX7_fits_19 ?_
      rintro v S' I2 J2 ⟨hS, rfl, k1⟩
      obtain rfl := hS.symm
      have hR2 := hR.kp k1
      refine V_if_eq C 29 dX7_fits_22 (by decide) (fun h22 => ?_) (fun h22 => ?_)
      · refine V_iconst C (v := nI 0) dX7_fits_29 (by decide +kernel) ?_
        exact V_iret C (Nat.zero_le _) (Nat.zero_le _) dX7_fits_30 (hP _ _ _ ⟨by first | rw [if_neg (bI_0.mp h10)] | (rw [if_pos (Decidable.not_not.mp (fun q => h10 (bI_0.mpr q))), if_pos h22]; rfl) | (rw [if_pos (Decidable.not_not.mp (fun q => h10 (bI_0.mpr q))), if_neg h22]; rfl), by first | exact hR2 | exact hR⟩)
      · refine V_iconst C (v := nI 1) dX7_fits_25 (by decide +kernel) ?_
        refine V_goto C 30 dX7_fits_26 (by decide) ?_
        exact V_iret C (Nat.zero_le _) (Nat.zero_le _) dX7_fits_30 (hP _ _ _ ⟨by first | rw [if_neg (bI_0.mp h10)] | (rw [if_pos (Decidable.not_not.mp (fun q => h10 (bI_0.mpr q))), if_pos h22]; rfl) | (rw [if_pos (Decidable.not_not.mp (fun q => h10 (bI_0.mpr q))), if_neg h22]; rfl), by first | exact hR2 | exact hR⟩)
    · refine V_iconst C (v := (-1)) dX7_fits_13 (by decide +kernel) ?_
      refine V_goto C 30 dX7_fits_14 (by decide) ?_
      exact V_iret C (Nat.zero_le _) (Nat.zero_le _) dX7_fits_30 (hP _ _ _ ⟨by first | rw [if_neg (bI_0.mp h10)] | (rw [if_pos (Decidable.not_not.mp (fun q => h10 (bI_0.mpr q))), if_pos h22]; rfl) | (rw [if_pos (Decidable.not_not.mp (fun q => h10 (bI_0.mpr q))), if_neg h22]; rfl), by first | exact hR2 | exact hR⟩)
  refine V_aload_n C dX7_fits_0 rfl ?_
  refine V_iconst C (v := nI 0) dX7_fits_1 (by decide +kernel) ?_
  refine V_putI C fl_X7_1 (ob_K hM) rfl rfl dX7_fits_2 ?_
  exact key _ hR.zr
end M21
