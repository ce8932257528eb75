/-! the reference: meet -/
section M11
variable {l : Launch} {S : HS} {I I' : HI} {J : HJ}
/-- the dust of the lump o goes to the lump s, ring by ring -/
def mdR (s o : Nat) : Nat → Nat → DV → DV
  | 0, _, D => D
  | c + 1, q, D => mdR s o c (q + 1) (up2 D 11 (12 * s + q) (D 11 (12 * s + q) + D 11 (12 * o + q)))
def eatL (D : DV) (s o : Nat) : DV := mdR s o 12 0 (up2 (up2 (up2 D 5 o (nI 1)) 10 o (nI s)) 7 s (D 7 s + D 7 o))
/-- of two that meet s stays, o goes: the disk, and what is thrown out -/
def mtD (share : Int32) (q : DV × Int64) (s o : Nat) : DV × Int64 := if nI 101 ≤ share then (eatL q.1 s o, q.2) else if lg_cmp ((wD q.1 o).toInt64 * 100) ((wD q.1 s).toInt64 * share.toInt64) < 0 then (eatL q.1 s o, q.2) else (up2 q.1 5 o (nI 3), q.2 + (wD q.1 o).toInt64)
def mtAt (share : Int32) (q : DV × Int64) (f s : Nat) : DV × Int64 := if wD q.1 s ≤ wD q.1 f then mtD share q f s else mtD share q s f
theorem mdR_kp {s o : Nat} : ∀ (c q : Nat) (D : DV), kpD D (mdR s o c q D)
  | 0, _, _ => kpD.re
  | c + 1, q, D => (show kpD D _ from ⟨rfl, rfl, rfl⟩).tr (mdR_kp c (q + 1) _)
theorem eatL_kp {D : DV} {s o : Nat} : kpD D (eatL D s o) := (show kpD D (up2 (up2 (up2 D 5 o (nI 1)) 10 o (nI s)) 7 s (D 7 s + D 7 o)) from ⟨rfl, rfl, rfl⟩).tr (mdR_kp _ _ _)
theorem mtD_kp {share : Int32} {q : DV × Int64} {s o : Nat} : kpD q.1 (mtD share q s o).1 := by
  unfold mtD
  split
  · exact eatL_kp
  · split
    · exact eatL_kp
    · exact ⟨rfl, rfl, rfl⟩
theorem mtAt_kp {share : Int32} {q : DV × Int64} {f s : Nat} : kpD q.1 (mtAt share q f s).1 := by
  unfold mtAt
  split <;> exact mtD_kp
set_option maxRecDepth 100000 in
set_option maxHeartbeats 4000000 in
theorem m_meet (hM : Ob S 7 1000) {b f s : Nat} (hb : b < 8) (hC : cAll I J) (hD : rOk (refD I J b)) (hf : f < cmD (refD I J b)) (hs : s < cmD (refD I J b)) (hne : f ≠ s) : Mn l yX7_meet cX7_meet 9 none 2 [.ref 1000, .int (nI b), .int (nI f), .int (nI s)] S I J (fun v I' J' => v = none ∧ (refD I' J' b, J' 1036 b) = mtAt (I 1000 45) (refD I J b, J 1036 b) f s ∧ J' 1035 b = J 1035 b ∧ Fr b I J I' J') := by
  refine Mn.of (by decide) (fun ad => by simp [lg_sl, vv, Value.category]) (fun X P hP hn C => ?_)
  have h30 := hD.2.2.2.2.1
  have main : ∀ (t o : Nat) (x4 : Option Value), t < cmD (refD I J b) → o < cmD (refD I J b) → t ≠ o → mtAt (I 1000 45) (refD I J b, J 1036 b) f s = mtD (I 1000 45) (refD I J b, J 1036 b) t o → V X P 0 0 46 [some (.ref 1000), some (.int (nI b)), some (.int (nI f)), some (.int (nI s)), x4, some (.int (nI t)), some (.int (nI o)), none, none] [] S I J := by
    intro t o x4 ht ho hto hmt
    rw [hmt] at hP
    have eat : mtD (I 1000 45) (refD I J b, J 1036 b) t o = (eatL (refD I J b) t o, J 1036 b) → ∀ x4 x8 : Option Value, V X P 0 0 120 [some (.ref 1000), some (.int (nI b)), some (.int (nI f)), some (.int (nI s)), x4, some (.int (nI t)), some (.int (nI o)), some (.int (nI 30 * nI b + nI o)), x8] [] S I J := by
      intro he x4 x8
      rw [he] at hP
      have loop : ∀ (c q : Nat) (In : HI) (x4 : Option Value), q + c = 12 → Fr b I J In J → cmD (refD In J b) = cmD (refD I J b) → mdR t o c q (refD In J b) = eatL (refD I J b) t o → V X P 0 0 162 [some (.ref 1000), some (.int (nI b)), some (.int (nI f)), some (.int (nI s)), x4, some (.int (nI t)), some (.int (nI o)), some (.int (nI 30 * nI b + nI o)), some (.int (nI q))] [] S In J := by
        intro c
        induction c with
        | zero =>
          intro q In x4 hq hF hc he
          have hq : q = 12 := hq
          subst hq
          refine V_iload C dX7_meet_162 rfl ?_
          refine V_bipush C (v := nI 12) dX7_meet_164 (by decide +kernel) ?_
          refine V_icmp_ge C 209 dX7_meet_166 (by decide) (fun h166 => ?_) (fun h166 => absurd (by decide) h166)
          exact V_vret C (Nat.zero_le _) (Nat.zero_le _) dX7_meet_209 (hP _ _ _ ⟨rfl, by rw [← he]; rfl, rfl, hF⟩)
        | succ c ih =>
          intro q In x4 hq hF hc he
          have k1 : 12 * t + q < 12 * cmD (refD In J b) := by omega
          have k2 : 12 * o + q < 12 * cmD (refD In J b) := by omega
          have e1 : In 1044 (360 * b + (12 * t + q)) = refD In J b 11 (12 * t + q) := (if_pos k1).symm
          have e2 : In 1044 (360 * b + (12 * o + q)) = refD In J b 11 (12 * o + q) := (if_pos k2).symm
          refine V_iload C dX7_meet_162 rfl ?_
          refine V_bipush C (v := nI 12) dX7_meet_164 (by decide +kernel) ?_
          refine V_icmp_ge C 209 dX7_meet_166 (by decide) (fun h166 => absurd h166 (nI_ge (by omega) (by omega))) (fun h166 => ?_)
          refine V_aload_n C dX7_meet_169 rfl ?_
          refine V_getR C fl_X7_167 (ob_K hM) (ob_R hM 43 1044 rfl rfl) rfl dX7_meet_170 ?_
          refine V_bipush C (v := nI 12) dX7_meet_173 (by decide +kernel) ?_
          refine V_bipush C (v := nI 30) dX7_meet_175 (by decide +kernel) ?_
          refine V_iload_n C dX7_meet_177 rfl ?_
          refine V_imul C dX7_meet_178 ?_
          refine V_iload C dX7_meet_179 rfl ?_
          refine V_iadd C dX7_meet_181 ?_
          refine V_imul C dX7_meet_182 ?_
          refine V_iload C dX7_meet_183 rfl ?_
          refine V_iadd C dX7_meet_185 ?_
          refine V_dup2 C dX7_meet_186 rfl rfl ?_
          refine V_iald C (360 * b + (12 * t + q)) (ob_A hM 43 1044 rfl rfl) (by first | rfl | (simp only [nI_add, pk_mul]; done) | (simp only [nI_add, pk_mul]; congr 1; omega)) (by rw [ob_N hM 43 1044 rfl rfl]; omega) (by rw [ob_N hM 43 1044 rfl rfl]; decide) dX7_meet_187 ?_
          refine V_aload_n C dX7_meet_188 rfl ?_
          refine V_getR C fl_X7_167 (ob_K hM) (ob_R hM 43 1044 rfl rfl) rfl dX7_meet_189 ?_
          refine V_bipush C (v := nI 12) dX7_meet_192 (by decide +kernel) ?_
          refine V_iload C dX7_meet_194 rfl ?_
          refine V_imul C dX7_meet_196 ?_
          refine V_iload C dX7_meet_197 rfl ?_
          refine V_iadd C dX7_meet_199 ?_
          refine V_iald C (360 * b + (12 * o + q)) (ob_A hM 43 1044 rfl rfl) (by first | rfl | (simp only [nI_add, pk_mul]; done) | (simp only [nI_add, pk_mul]; congr 1; omega)) (by rw [ob_N hM 43 1044 rfl rfl]; omega) (by rw [ob_N hM 43 1044 rfl rfl]; decide) dX7_meet_200 ?_
          refine V_iadd C dX7_meet_201 ?_
          rw [e1, e2]
          refine V_iast C (360 * b + (12 * t + q)) (ob_A hM 43 1044 rfl rfl) (by first | rfl | (simp only [nI_add, pk_mul]; done) | (simp only [nI_add, pk_mul]; congr 1; omega)) (by rw [ob_N hM 43 1044 rfl rfl]; omega) (by rw [ob_N hM 43 1044 rfl rfl]; decide) dX7_meet_202 ?_
          refine V_iincU C dX7_meet_203 rfl (hn _ (by decide)) ?_
          refine V_goto C 162 dX7_meet_206 (by decide) ?_
          exact ih (q + 1) _ _ (by omega) (hF.tr (Fr.Ma (hF.cm hC (by omega)) (by omega))) (by rw [rMa k1]; exact hc) (by rw [rMa k1]; exact he)
      have hu7 := (r_lump hD ht).2.2.1
      have ho7 := (r_lump hD ho).2.2.1
      have f1 : Fr b I J (up2 I 1038 (30 * b + o) (nI 1)) J := Fr.St hC (by omega)
      have d1 : refD (up2 I 1038 (30 * b + o) (nI 1)) J b = up2 (refD I J b) 5 o (nI 1) := rSt ho
      have c1 : cAll (up2 I 1038 (30 * b + o) (nI 1)) J := f1.cm hC (by rw [d1]; exact h30)
      have f2 : Fr b I J (up2 (up2 I 1038 (30 * b + o) (nI 1)) 1043 (30 * b + o) (nI t)) J := f1.tr (Fr.Ea c1 (by omega))
      have d2 : refD (up2 (up2 I 1038 (30 * b + o) (nI 1)) 1043 (30 * b + o) (nI t)) J b = up2 (up2 (refD I J b) 5 o (nI 1)) 10 o (nI t) := by rw [rEa (by rw [d1]; exact ho), d1]
      have c2 : cAll (up2 (up2 I 1038 (30 * b + o) (nI 1)) 1043 (30 * b + o) (nI t)) J := f2.cm hC (by rw [d2]; exact h30)
      refine V_aload_n C dX7_meet_120 rfl ?_
      refine V_getR C fl_X7_149 (ob_K hM) (ob_R hM 37 1038 rfl rfl) rfl dX7_meet_121 ?_
      refine V_iload C dX7_meet_124 rfl ?_
      refine V_iconst C (v := nI 1) dX7_meet_126 (by decide +kernel) ?_
      refine V_iast C (30 * b + o) (ob_A hM 37 1038 rfl rfl) (by first | rfl | (simp only [nI_add, pk_mul]; done) | (simp only [nI_add, pk_mul]; congr 1; omega)) (by rw [ob_N hM 37 1038 rfl rfl]; omega) (by rw [ob_N hM 37 1038 rfl rfl]; decide) dX7_meet_127 ?_
      refine V_aload_n C dX7_meet_128 rfl ?_
      refine V_getR C fl_X7_164 (ob_K hM) (ob_R hM 42 1043 rfl rfl) rfl dX7_meet_129 ?_
      refine V_iload C dX7_meet_132 rfl ?_
      refine V_iload C dX7_meet_134 rfl ?_
      refine V_iast C (30 * b + o) (ob_A hM 42 1043 rfl rfl) (by first | rfl | (simp only [nI_add, pk_mul]; done) | (simp only [nI_add, pk_mul]; congr 1; omega)) (by rw [ob_N hM 42 1043 rfl rfl]; omega) (by rw [ob_N hM 42 1043 rfl rfl]; decide) dX7_meet_136 ?_
      refine V_aload_n C dX7_meet_137 rfl ?_
      refine V_getR C fl_X7_155 (ob_K hM) (ob_R hM 39 1040 rfl rfl) rfl dX7_meet_138 ?_
      refine V_bipush C (v := nI 30) dX7_meet_141 (by decide +kernel) ?_
      refine V_iload_n C dX7_meet_143 rfl ?_
      refine V_imul C dX7_meet_144 ?_
      refine V_iload C dX7_meet_145 rfl ?_
      refine V_iadd C dX7_meet_147 ?_
      refine V_dup2 C dX7_meet_148 rfl rfl ?_
      refine V_iald C (30 * b + t) (ob_A hM 39 1040 rfl rfl) (by first | rfl | (simp only [nI_add, pk_mul]; done) | (simp only [nI_add, pk_mul]; congr 1; omega)) (by rw [ob_N hM 39 1040 rfl rfl]; omega) (by rw [ob_N hM 39 1040 rfl rfl]; decide) dX7_meet_149 ?_
      refine V_aload_n C dX7_meet_150 rfl ?_
      refine V_getR C fl_X7_155 (ob_K hM) (ob_R hM 39 1040 rfl rfl) rfl dX7_meet_151 ?_
      refine V_iload C dX7_meet_154 rfl ?_
      refine V_iald C (30 * b + o) (ob_A hM 39 1040 rfl rfl) (by first | rfl | (simp only [nI_add, pk_mul]; done) | (simp only [nI_add, pk_mul]; congr 1; omega)) (by rw [ob_N hM 39 1040 rfl rfl]; omega) (by rw [ob_N hM 39 1040 rfl rfl]; decide) dX7_meet_156 ?_
      refine V_iadd C dX7_meet_157 ?_
      refine V_top (w := .int (refD I J b 7 t + refD I J b 7 o)) (congrArg Value.int (show I 1040 (30 * b + t) + I 1040 (30 * b + o) = _ by rw [hu7, ho7])) ?_
      refine V_iast C (30 * b + t) (ob_A hM 39 1040 rfl rfl) (by first | rfl | (simp only [nI_add, pk_mul]; done) | (simp only [nI_add, pk_mul]; congr 1; omega)) (by rw [ob_N hM 39 1040 rfl rfl]; omega) (by rw [ob_N hM 39 1040 rfl rfl]; decide) dX7_meet_158 ?_
      refine V_iconst C (v := nI 0) dX7_meet_159 (by decide +kernel) ?_
      refine V_istore C dX7_meet_160 (hn _ (by decide)) ?_
      exact loop 12 0 _ _ rfl (f2.tr (Fr.Ga c2 (by omega))) (by rw [rGa (by rw [d2]; exact ht), d2]; rfl) (by rw [rGa (by rw [d2]; exact ht), d2]; rfl)
    by_cases h101 : nI 101 ≤ I 1000 45
    · refine V_bipush C (v := nI 30) dX7_meet_46 (by decide +kernel) ?_
      refine V_iload_n C dX7_meet_48 rfl ?_
      refine V_imul C dX7_meet_49 ?_
      refine V_iload C dX7_meet_50 rfl ?_
      refine V_iadd C dX7_meet_52 ?_
      refine V_istore C dX7_meet_53 (hn _ (by decide)) ?_
      refine V_aload_n C dX7_meet_55 rfl ?_
      refine V_getI C fl_X7_190 (ob_K hM) rfl dX7_meet_56 ?_
      refine V_bipush C (v := nI 101) dX7_meet_59 (by decide +kernel) ?_
      refine V_icmp_ge C 120 dX7_meet_61 (by decide) (fun h61 => ?_) (fun h61 => absurd (h101) h61)
      exact eat (by rw [mtD, if_pos h101]) _ _
    · have d3 : refD (up2 I 1038 (30 * b + o) (nI 3)) J b = up2 (refD I J b) 5 o (nI 3) := rSt ho
      refine V_bipush C (v := nI 30) dX7_meet_46 (by decide +kernel) ?_
      refine V_iload_n C dX7_meet_48 rfl ?_
      refine V_imul C dX7_meet_49 ?_
      refine V_iload C dX7_meet_50 rfl ?_
      refine V_iadd C dX7_meet_52 ?_
      refine V_istore C dX7_meet_53 (hn _ (by decide)) ?_
      refine V_aload_n C dX7_meet_55 rfl ?_
      refine V_getI C fl_X7_190 (ob_K hM) rfl dX7_meet_56 ?_
      refine V_bipush C (v := nI 101) dX7_meet_59 (by decide +kernel) ?_
      refine V_icmp_ge C 120 dX7_meet_61 (by decide) (fun h61 => absurd h61 (h101)) (fun h61 => ?_)
      refine V_aload_n C dX7_meet_64 rfl ?_
      refine V_iload_n C dX7_meet_65 rfl ?_
      refine V_iload C dX7_meet_66 rfl ?_
      refine V_callV (F := fun _ => True) C (m_weightOf hM hb hD ho) mi_X7_weightOf ml_X7_326 rfl (ob_K hM) (by decide) (by decide) (by decide) (Nat.le_of_ble_eq_true rfl) (fun _ _ => trivial) (fun v _ => clo_T v) rfl dX7_meet_68 ?_
      rintro v S' I' J' ⟨hS, rfl, hI, hJ⟩
      obtain rfl := hS.symm
      obtain rfl := hI.symm
      obtain rfl := hJ.symm
      refine V_i2l C dX7_meet_71 ?_
      refine V_ldc2 C dX7_meet_72 kl_X7_353 ?_
      refine V_lmul C dX7_meet_75 ?_
      refine V_aload_n C dX7_meet_76 rfl ?_
      refine V_iload_n C dX7_meet_77 rfl ?_
      refine V_iload C dX7_meet_78 rfl ?_
      refine V_callV (F := fun _ => True) C (m_weightOf hM hb hD ht) mi_X7_weightOf ml_X7_326 rfl (ob_K hM) (by decide) (by decide) (by decide) (Nat.le_of_ble_eq_true rfl) (fun _ _ => trivial) (fun v _ => clo_T v) rfl dX7_meet_80 ?_
      rintro v S' I' J' ⟨hS, rfl, hI, hJ⟩
      obtain rfl := hS.symm
      obtain rfl := hI.symm
      obtain rfl := hJ.symm
      refine V_i2l C dX7_meet_83 ?_
      refine V_aload_n C dX7_meet_84 rfl ?_
      refine V_getI C fl_X7_190 (ob_K hM) rfl dX7_meet_85 ?_
      refine V_i2l C dX7_meet_88 ?_
      refine V_lmul C dX7_meet_89 ?_
      refine V_lcmp C dX7_meet_90 ?_
      refine V_if_lt C 120 dX7_meet_91 (by decide) (fun h91 => ?_) (fun h91 => ?_)
      · exact eat (by rw [mtD, if_neg h101, if_pos h91]) _ _
      · refine V_aload_n C dX7_meet_94 rfl ?_
        refine V_getR C fl_X7_149 (ob_K hM) (ob_R hM 37 1038 rfl rfl) rfl dX7_meet_95 ?_
        refine V_iload C dX7_meet_98 rfl ?_
        refine V_iconst C (v := nI 3) dX7_meet_100 (by decide +kernel) ?_
        refine V_iast C (30 * b + o) (ob_A hM 37 1038 rfl rfl) (by first | rfl | (simp only [nI_add, pk_mul]; done) | (simp only [nI_add, pk_mul]; congr 1; omega)) (by rw [ob_N hM 37 1038 rfl rfl]; omega) (by rw [ob_N hM 37 1038 rfl rfl]; decide) dX7_meet_101 ?_
        refine V_aload_n C dX7_meet_102 rfl ?_
        refine V_getR C fl_X7_143 (ob_K hM) (ob_R hM 35 1036 rfl rfl) rfl dX7_meet_103 ?_
        refine V_iload_n C dX7_meet_106 rfl ?_
        refine V_dup2 C dX7_meet_107 rfl rfl ?_
        refine V_lald C (b) (ob_A hM 35 1036 rfl rfl) (by first | rfl | (simp only [nI_add, pk_mul]; done) | (simp only [nI_add, pk_mul]; congr 1; omega)) (by rw [ob_N hM 35 1036 rfl rfl]; omega) (by rw [ob_N hM 35 1036 rfl rfl]; decide) dX7_meet_108 ?_
        refine V_aload_n C dX7_meet_109 rfl ?_
        refine V_iload_n C dX7_meet_110 rfl ?_
        refine V_iload C dX7_meet_111 rfl ?_
        refine V_callV (F := fun _ => True) C (m_weightOf hM hb (show rOk (refD (up2 I 1038 (30 * b + o) (nI 3)) J b) by rw [d3]; exact kpD.ok ⟨rfl, rfl, rfl⟩ hD) (show o < cmD (refD (up2 I 1038 (30 * b + o) (nI 3)) J b) by rw [d3]; exact ho)) mi_X7_weightOf ml_X7_326 rfl (ob_K hM) (by decide) (by decide) (by decide) (Nat.le_of_ble_eq_true rfl) (fun _ _ => trivial) (fun v _ => clo_T v) rfl dX7_meet_113 ?_
        rintro v S' I' J' ⟨hS, rfl, hI, hJ⟩
        obtain rfl := hS.symm
        obtain rfl := hI.symm
        obtain rfl := hJ.symm
        refine V_i2l C dX7_meet_116 ?_
        refine V_ladd C dX7_meet_117 ?_
        refine V_last C (b) (ob_A hM 35 1036 rfl rfl) (by first | rfl | (simp only [nI_add, pk_mul]; done) | (simp only [nI_add, pk_mul]; congr 1; omega)) (by rw [ob_N hM 35 1036 rfl rfl]; omega) (by rw [ob_N hM 35 1036 rfl rfl]; decide) dX7_meet_118 ?_
        exact V_vret C (Nat.zero_le _) (Nat.zero_le _) dX7_meet_119 (hP _ _ _ ⟨rfl, by rw [mtD, if_neg h101, if_neg h91, up2_row, va_up_self, d3]; exact congrArg (fun z => (z, _)) d3, rfl, (Fr.St hC (by omega)).tr Fr.thr⟩)
  by_cases hw : wD (refD I J b) s ≤ wD (refD I J b) f
  · refine V_aload_n C dX7_meet_0 rfl ?_
    refine V_iload_n C dX7_meet_1 rfl ?_
    refine V_iload_n C dX7_meet_2 rfl ?_
    refine V_callV (F := fun _ => True) C (m_weightOf hM hb hD hs) mi_X7_weightOf ml_X7_326 rfl (ob_K hM) (by decide) (by decide) (by decide) (Nat.le_of_ble_eq_true rfl) (fun _ _ => trivial) (fun v _ => clo_T v) rfl dX7_meet_3 ?_
    rintro v S' I' J' ⟨hS, rfl, hI, hJ⟩
    obtain rfl := hS.symm
    obtain rfl := hI.symm
    obtain rfl := hJ.symm
    refine V_aload_n C dX7_meet_6 rfl ?_
    refine V_iload_n C dX7_meet_7 rfl ?_
    refine V_iload_n C dX7_meet_8 rfl ?_
    refine V_callV (F := fun _ => True) C (m_weightOf hM hb hD hf) mi_X7_weightOf ml_X7_326 rfl (ob_K hM) (by decide) (by decide) (by decide) (Nat.le_of_ble_eq_true rfl) (fun _ _ => trivial) (fun v _ => clo_T v) rfl dX7_meet_9 ?_
    rintro v S' I' J' ⟨hS, rfl, hI, hJ⟩
    obtain rfl := hS.symm
    obtain rfl := hI.symm
    obtain rfl := hJ.symm
    refine V_icmp_le C 19 dX7_meet_12 (by decide) (fun h12 => ?_) (fun h12 => absurd (hw) h12)
    refine V_iconst C (v := nI 0) dX7_meet_19 (by decide +kernel) ?_
    refine V_istore C dX7_meet_20 (hn _ (by decide)) ?_
    refine V_iload C dX7_meet_22 rfl ?_
    refine V_if_eq C 31 dX7_meet_24 (by decide) (fun h24 => ?_) (fun h24 => absurd (rfl) h24)
    refine V_iload_n C dX7_meet_31 rfl ?_
    refine V_istore C dX7_meet_32 (hn _ (by decide)) ?_
    refine V_iload C dX7_meet_34 rfl ?_
    refine V_if_eq C 43 dX7_meet_36 (by decide) (fun h36 => ?_) (fun h36 => absurd (rfl) h36)
    refine V_iload_n C dX7_meet_43 rfl ?_
    refine V_istore C dX7_meet_44 (hn _ (by decide)) ?_
    exact main f s _ hf hs hne (by rw [mtAt, if_pos hw])
  · refine V_aload_n C dX7_meet_0 rfl ?_
    refine V_iload_n C dX7_meet_1 rfl ?_
    refine V_iload_n C dX7_meet_2 rfl ?_
    refine V_callV (F := fun _ => True) C (m_weightOf hM hb hD hs) mi_X7_weightOf ml_X7_326 rfl (ob_K hM) (by decide) (by decide) (by decide) (Nat.le_of_ble_eq_true rfl) (fun _ _ => trivial) (fun v _ => clo_T v) rfl dX7_meet_3 ?_
    rintro v S' I' J' ⟨hS, rfl, hI, hJ⟩
    obtain rfl := hS.symm
    obtain rfl := hI.symm
    obtain rfl := hJ.symm
    refine V_aload_n C dX7_meet_6 rfl ?_
    refine V_iload_n C dX7_meet_7 rfl ?_
    refine V_iload_n C dX7_meet_8 rfl ?_
    refine V_callV (F := fun _ => True) C (m_weightOf hM hb hD hf) mi_X7_weightOf ml_X7_326 rfl (ob_K hM) (by decide) (by decide) (by decide) (Nat.le_of_ble_eq_true rfl) (fun _ _ => trivial) (fun v _ => clo_T v) rfl dX7_meet_9 ?_
    rintro v S' I' J' ⟨hS, rfl, hI, hJ⟩
    obtain rfl := hS.symm
    obtain rfl := hI.symm
    obtain rfl := hJ.symm
    refine V_icmp_le C 19 dX7_meet_12 (by decide) (fun h12 => absurd h12 (hw)) (fun h12 => ?_)
    refine V_iconst C (v := nI 1) dX7_meet_15 (by decide +kernel) ?_
    refine V_goto C 20 dX7_meet_16 (by decide) ?_
    refine V_istore C dX7_meet_20 (hn _ (by decide)) ?_
    refine V_iload C dX7_meet_22 rfl ?_
    refine V_if_eq C 31 dX7_meet_24 (by decide) (fun h24 => absurd h24 (by decide)) (fun h24 => ?_)
    refine V_iload_n C dX7_meet_27 rfl ?_
    refine V_goto C 32 dX7_meet_28 (by decide) ?_
    refine V_istore C dX7_meet_32 (hn _ (by decide)) ?_
    refine V_iload C dX7_meet_34 rfl ?_
    refine V_if_eq C 43 dX7_meet_36 (by decide) (fun h36 => absurd h36 (by decide)) (fun h36 => ?_)
    refine V_iload_n C dX7_meet_39 rfl ?_
    refine V_goto C 44 dX7_meet_40 (by decide) ?_
    refine V_istore C dX7_meet_44 (hn _ (by decide)) ?_
    exact main s f _ hs hf (Ne.symm hne) (by rw [mtAt, if_neg hw])
end M11
