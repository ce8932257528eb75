/-! the reference: drifts -/
section M7
variable {l : Launch} {S : HS} {I : HI} {J : HJ}
def bkD (D : DV) (G : Nat → Int32) (r s : Nat) : Int32 := if 0 ≤ wayD D r then nI 0 else if nI r ≤ 0 then nI 0 else if nI s < G (r - 1) then nI 0 else nI 1
/-- what leaves a ring's size -/
def lvD (lw : LW) (D : DV) (G : Nat → Int32) (r s : Nat) : Int32 :=
  if (if wayD D r = 0 then -1 else lw 2 (fDu D r s)) < 0 then nI 0 else if bkD D G r s = 0 then prt (D 4 (5 * r + s)) (lw 2 (fDu D r s)) else nI 0
/-- where it goes -/
def toD (D : DV) (r : Nat) : Nat := (nI r + wayD D r).toNatClampNeg
/-- one size leaves: the disk, and what has fallen -/
def drAt (D0 : DV) (lv : Nat → Nat → Int32) (r s : Nat) (q : DV × Int64) : DV × Int64 :=
  if 0 ≤ nI r + wayD D0 r then (mvD q.1 (5 * r + s) (5 * toD D0 r + s) (lv r s), q.2) else (up2 q.1 4 (5 * r + s) (q.1 4 (5 * r + s) - lv r s), q.2 + (lv r s).toInt64)
def drR (D0 : DV) (lv : Nat → Nat → Int32) (r : Nat) : Nat → Nat → DV × Int64 → DV × Int64
  | 0, _, q => q
  | c + 1, s, q => drR D0 lv r c (s + 1) (drAt D0 lv r s q)
def drN (D0 : DV) (lv : Nat → Nat → Int32) : Nat → Nat → DV × Int64 → DV × Int64
  | 0, _, q => q
  | c + 1, r, q => drN D0 lv c (r + 1) (drR D0 lv r 5 0 q)
def gOk (D : DV) : Prop := ∀ r, r < 12 → 0 ≤ D 1 r
theorem wayD_cases (D : DV) (r : Nat) : wayD D r = 1 ∨ wayD D r = 0 ∨ wayD D r = -1 := by
  unfold wayD
  by_cases h1 : inD D r ≤ D 1 r
  · rw [if_pos h1, if_pos h1]
    split
    · exact Or.inr (Or.inl rfl)
    · exact Or.inl rfl
  · rw [if_neg h1, if_neg h1]
    split
    · exact Or.inr (Or.inr rfl)
    · exact Or.inl rfl
theorem way_up {D : DV} (hD : rOk D) (hg : gOk D) {r : Nat} (hr : r < rgD D) (h : wayD D r = 1) : r + 1 < rgD D := by
  refine Nat.lt_of_not_le (fun q => ?_)
  have e : r = rgD D - 1 := by omega
  have h2 := hD.2.1
  have h12 := hD.2.2.1
  have eo : outD D r = nI 0 := by
    unfold outD
    rw [if_pos]
    rw [hD.1, pk_sub (by omega), e]
  have hle : outD D r ≤ (if inD D r ≤ D 1 r then D 1 r else inD D r) := by
    rw [eo]
    have h0 := hg r (by omega)
    split
    · exact h0
    · rename_i hi
      exact Int32.le_trans h0 (Int32.le_of_lt (Int32.not_le.mp hi))
  unfold wayD at h
  rw [if_pos hle] at h
  split at h <;> exact absurd h (by decide)
theorem toD_ok {D : DV} (hD : rOk D) (hg : gOk D) {r : Nat} (hr : r < rgD D) (h : 0 ≤ nI r + wayD D r) : nI r + wayD D r = nI (toD D r) ∧ toD D r < rgD D := by
  have h12 := hD.2.2.1
  unfold toD
  rcases wayD_cases D r with e | e | e
  · have := way_up hD hg hr e
    rw [e, nI_1, nI_clamp (by omega)]
    exact ⟨rfl, this⟩
  · rw [e, show nI r + 0 = nI r by rw [← nI_0, nI_add]; rfl, nI_clamp (by omega)]
    exact ⟨rfl, hr⟩
  · rw [e] at h ⊢
    cases r with
    | zero => exact absurd h (by decide)
    | succ r =>
      rw [pk_m1, nI_clamp (by omega)]
      exact ⟨rfl, by omega⟩
/-- rings, gas and pull stay: so do the ways -/
def kgD (D D' : DV) : Prop := kpD D D' ∧ D' 0 = D 0 ∧ D' 1 = D 1
theorem kgD.way {D D' : DV} (h : kgD D D') (r : Nat) : wayD D' r = wayD D r := by
  unfold wayD inD outD
  rw [h.2.1, h.2.2]
theorem drAt_kg {D0 : DV} {lv : Nat → Nat → Int32} {r s : Nat} {q : DV × Int64} : kgD q.1 (drAt D0 lv r s q).1 := by
  unfold drAt
  split
  · exact ⟨⟨rfl, rfl, rfl⟩, rfl, rfl⟩
  · exact ⟨⟨rfl, rfl, rfl⟩, rfl, rfl⟩
theorem kgD.tr {D E F : DV} (h : kgD D E) (g : kgD E F) : kgD D F := ⟨h.1.tr g.1, g.2.1.trans h.2.1, g.2.2.trans h.2.2⟩
theorem Fr.fall {I : HI} {J : HJ} {b : Nat} {v : Int64} : Fr b I J I (up2 J 1035 b v) := ⟨fun _ _ => rfl, fun _ _ _ => rfl, fun a h1 _ => up2_ne _ _ _ h1, fun d hd => ⟨by rw [up2_row, va_up_ne _ _ hd], rfl⟩⟩
theorem Fr.thr {I : HI} {J : HJ} {b : Nat} {v : Int64} : Fr b I J I (up2 J 1036 b v) := ⟨fun _ _ => rfl, fun _ _ _ => rfl, fun a _ h1 => up2_ne _ _ _ h1, fun d hd => ⟨rfl, by rw [up2_row, va_up_ne _ _ hd]⟩⟩
set_option maxRecDepth 100000 in
set_option maxHeartbeats 8000000 in
theorem m_drifts (hM : Ob S 7 1000) {b : Nat} (hb : b < 8) {L : List Law} {g : Int32} {lk : Nat} (hG : rG I L g lk) (hD : rOk (refD I J b)) (hg0 : gOk (refD I J b)) : Mn l yX7_drifts cX7_drifts 7 none 4 [.ref 1000, .int (nI b)] S I J (fun v I' J' => v = none ∧ (refD I' J' b, J' 1035 b) = drN (refD I J b) (lvD (kcl L g) (refD I J b) (gapN (kcl L g) (refD I J b) (cmD (refD I J b)))) (rgD (refD I J b)) 0 (refD I J b, J 1035 b) ∧ J' 1036 b = J 1036 b ∧ Fr b I J I' J') := by
  refine Mn.of (by decide) (fun ad => by simp [lg_sl, vv, Value.category]) (fun X P hP hn C => ?_)
  generalize hgap : gapN (kcl L g) (refD I J b) (cmD (refD I J b)) = G at hP
  generalize hDD : refD I J b = D at *
  generalize hnn : rgD D = n at hP
  have hn0 : D 0 0 = nI n := by rw [← hnn]; exact hD.1
  have hn12 : n ≤ 12 := by rw [← hnn]; exact hD.2.2.1
  have outer2 : ∀ (c r : Nat) (Ic : HI) (Jc : HJ) (x3 x4 x5 x6 : Option Value), r + c = n → Fr b I J Ic Jc → kgD D (refD Ic Jc b) → Jc 1036 b = J 1036 b → (∀ r s, r < n → s < 5 → Ic 1047 (5 * r + s) = lvD (kcl L g) D G r s) → drN D (lvD (kcl L g) D G) c r (refD Ic Jc b, Jc 1035 b) = drN D (lvD (kcl L g) D G) n 0 (D, J 1035 b) → V X P 0 0 134 [some (.ref 1000), some (.int (nI b)), some (.int (nI r)), x3, x4, x5, x6] [] S Ic Jc := by
    intro c
    induction c with
    | zero =>
      intro r Ic Jc x3 x4 x5 x6 hr hF hk hj hlv he
      have hr : r = n := hr
      subst hr
      have c9 : Ic 1027 b ≤ nI r := by rw [show Ic 1027 b = nI r from hk.1.1.trans hn0]; exact Int32.le_refl _
      refine V_iload_n C dX7_drifts_134 rfl ?_
      refine V_aload_n C dX7_drifts_135 rfl ?_
      refine V_getR C fl_X7_116 (ob_K hM) (ob_R hM 26 1027 rfl rfl) rfl dX7_drifts_136 ?_
      refine V_iload_n C dX7_drifts_139 rfl ?_
      refine V_iald C (b) (ob_A hM 26 1027 rfl rfl) (by first | rfl | (simp only [nI_add, pk_mul]; done) | (simp only [nI_add, pk_mul]; congr 1; omega)) (by rw [ob_N hM 26 1027 rfl rfl]; omega) (by rw [ob_N hM 26 1027 rfl rfl]; decide) dX7_drifts_140 ?_
      refine V_icmp_ge C 250 dX7_drifts_141 (by decide) (fun h141 => ?_) (fun h141 => absurd (c9) h141)
      exact V_vret C (Nat.zero_le _) (Nat.zero_le _) dX7_drifts_250 (hP _ _ _ ⟨rfl, he, hj, hF⟩)
    | succ c ih =>
      intro r Ic Jc x3 x4 x5 x6 hr hF hk hj hlv he
      have c9 : ¬ Ic 1027 b ≤ nI r := by rw [show Ic 1027 b = nI n from hk.1.1.trans hn0]; exact nI_ge (by omega) (by omega)
      have hrn : r < rgD D := by omega
      have inner : ∀ (m s : Nat) (Ic : HI) (Jc : HJ) (x5 x6 : Option Value), s + m = 5 → Fr b I J Ic Jc → kgD D (refD Ic Jc b) → Jc 1036 b = J 1036 b → (∀ r s, r < n → s < 5 → Ic 1047 (5 * r + s) = lvD (kcl L g) D G r s) → drN D (lvD (kcl L g) D G) c (r + 1) (drR D (lvD (kcl L g) D G) r m s (refD Ic Jc b, Jc 1035 b)) = drN D (lvD (kcl L g) D G) n 0 (D, J 1035 b) → V X P 0 0 154 [some (.ref 1000), some (.int (nI b)), some (.int (nI r)), some (.int (wayD D r)), some (.int (nI s)), x5, x6] [] S Ic Jc := by
        intro m
        induction m with
        | zero =>
          intro s Ic Jc x5 x6 hs hF hk hj hlv he
          have hs : s = 5 := hs
          subst hs
          refine V_iload C dX7_drifts_154 rfl ?_
          refine V_iconst C (v := nI 5) dX7_drifts_156 (by decide +kernel) ?_
          refine V_icmp_ge C 244 dX7_drifts_157 (by decide) (fun h157 => ?_) (fun h157 => absurd (by decide) h157)
          refine V_iincU C dX7_drifts_244 rfl (hn _ (by decide)) ?_
          refine V_goto C 134 dX7_drifts_247 (by decide) ?_
          exact ih (r + 1) Ic Jc _ _ _ _ (by omega) hF hk hj hlv he
        | succ m ih2 =>
          intro s Ic Jc x5 x6 hs hF hk hj hlv he
          have h60 : 5 * r + s < 60 := by omega
          have e47 := hlv r s (by omega) (by omega)
          have fin : ∀ (In : HI) (Jn : HJ) (x5 x6 : Option Value), Fr b I J In Jn → In 1047 = Ic 1047 → Jn 1036 b = Jc 1036 b → (refD In Jn b, Jn 1035 b) = drAt D (lvD (kcl L g) D G) r s (refD Ic Jc b, Jc 1035 b) → V X P 0 0 154 [some (.ref 1000), some (.int (nI b)), some (.int (nI r)), some (.int (wayD D r)), some (.int (nI (s + 1))), x5, x6] [] S In Jn := by
            intro In Jn x5 x6 hF3 e1 e2 eN
            refine ih2 (s + 1) In Jn x5 x6 (by omega) hF3 ?_ (e2.trans hj) (fun r s h1 h2 => by rw [e1]; exact hlv r s h1 h2) ?_
            · have h := drAt_kg (D0 := D) (lv := lvD (kcl L g) D G) (r := r) (s := s) (q := (refD Ic Jc b, Jc 1035 b))
              rw [← eN] at h
              exact hk.tr h
            · rw [eN]; exact he
          by_cases hw : 0 ≤ nI r + wayD D r
          · obtain ⟨et, ht⟩ := toD_ok hD hg0 hrn hw
            have h62 : 5 * toD D r + s < 60 := by omega
            refine V_iload C dX7_drifts_154 rfl ?_
            refine V_iconst C (v := nI 5) dX7_drifts_156 (by decide +kernel) ?_
            refine V_icmp_ge C 244 dX7_drifts_157 (by decide) (fun h157 => absurd h157 (nI_ge (by omega) (by omega))) (fun h157 => ?_)
            refine V_aload_n C dX7_drifts_160 rfl ?_
            refine V_getR C fl_X7_170 (ob_K hM) (ob_R hM 46 1047 rfl rfl) rfl dX7_drifts_161 ?_
            refine V_iconst C (v := nI 5) dX7_drifts_164 (by decide +kernel) ?_
            refine V_iload_n C dX7_drifts_165 rfl ?_
            refine V_imul C dX7_drifts_166 ?_
            refine V_iload C dX7_drifts_167 rfl ?_
            refine V_iadd C dX7_drifts_169 ?_
            refine V_iald C (5 * r + s) (ob_A hM 46 1047 rfl rfl) (by first | rfl | (simp only [nI_add, pk_mul]; done) | (simp only [nI_add, pk_mul]; congr 1; omega)) (by rw [ob_N hM 46 1047 rfl rfl]; omega) (by rw [ob_N hM 46 1047 rfl rfl]; decide) dX7_drifts_170 ?_
            rw [e47]
            refine V_istore C dX7_drifts_171 (hn _ (by decide)) ?_
            refine V_aload_n C dX7_drifts_173 rfl ?_
            refine V_getR C fl_X7_128 (ob_K hM) (ob_R hM 30 1031 rfl rfl) rfl dX7_drifts_174 ?_
            refine V_bipush C (v := nI 60) dX7_drifts_177 (by decide +kernel) ?_
            refine V_iload_n C dX7_drifts_179 rfl ?_
            refine V_imul C dX7_drifts_180 ?_
            refine V_iconst C (v := nI 5) dX7_drifts_181 (by decide +kernel) ?_
            refine V_iload_n C dX7_drifts_182 rfl ?_
            refine V_imul C dX7_drifts_183 ?_
            refine V_iadd C dX7_drifts_184 ?_
            refine V_iload C dX7_drifts_185 rfl ?_
            refine V_iadd C dX7_drifts_187 ?_
            refine V_dup2 C dX7_drifts_188 rfl rfl ?_
            refine V_iald C (60 * b + (5 * r + s)) (ob_A hM 30 1031 rfl rfl) (by first | rfl | (simp only [nI_add, pk_mul]; done) | (simp only [nI_add, pk_mul]; congr 1; omega)) (by rw [ob_N hM 30 1031 rfl rfl]; omega) (by rw [ob_N hM 30 1031 rfl rfl]; decide) dX7_drifts_189 ?_
            refine V_iload C dX7_drifts_190 rfl ?_
            refine V_isub C dX7_drifts_192 ?_
            refine V_iast C (60 * b + (5 * r + s)) (ob_A hM 30 1031 rfl rfl) (by first | rfl | (simp only [nI_add, pk_mul]; done) | (simp only [nI_add, pk_mul]; congr 1; omega)) (by rw [ob_N hM 30 1031 rfl rfl]; omega) (by rw [ob_N hM 30 1031 rfl rfl]; decide) dX7_drifts_193 ?_
            refine V_iload_n C dX7_drifts_194 rfl ?_
            refine V_iload_n C dX7_drifts_195 rfl ?_
            refine V_iadd C dX7_drifts_196 ?_
            refine V_if_ge C 215 dX7_drifts_197 (by decide) (fun h197 => ?_) (fun h197 => absurd (hw) h197)
            refine V_aload_n C dX7_drifts_215 rfl ?_
            refine V_getR C fl_X7_128 (ob_K hM) (ob_R hM 30 1031 rfl rfl) rfl dX7_drifts_216 ?_
            refine V_bipush C (v := nI 60) dX7_drifts_219 (by decide +kernel) ?_
            refine V_iload_n C dX7_drifts_221 rfl ?_
            refine V_imul C dX7_drifts_222 ?_
            refine V_iconst C (v := nI 5) dX7_drifts_223 (by decide +kernel) ?_
            refine V_iload_n C dX7_drifts_224 rfl ?_
            refine V_iload_n C dX7_drifts_225 rfl ?_
            refine V_iadd C dX7_drifts_226 ?_
            rw [et]
            refine V_imul C dX7_drifts_227 ?_
            refine V_iadd C dX7_drifts_228 ?_
            refine V_iload C dX7_drifts_229 rfl ?_
            refine V_iadd C dX7_drifts_231 ?_
            refine V_dup2 C dX7_drifts_232 rfl rfl ?_
            refine V_iald C (60 * b + (5 * toD D r + s)) (ob_A hM 30 1031 rfl rfl) (by first | rfl | (simp only [nI_add, pk_mul]; done) | (simp only [nI_add, pk_mul]; congr 1; omega)) (by rw [ob_N hM 30 1031 rfl rfl]; omega) (by rw [ob_N hM 30 1031 rfl rfl]; decide) dX7_drifts_233 ?_
            refine V_iload C dX7_drifts_234 rfl ?_
            refine V_iadd C dX7_drifts_236 ?_
            refine V_iast C (60 * b + (5 * toD D r + s)) (ob_A hM 30 1031 rfl rfl) (by first | rfl | (simp only [nI_add, pk_mul]; done) | (simp only [nI_add, pk_mul]; congr 1; omega)) (by rw [ob_N hM 30 1031 rfl rfl]; omega) (by rw [ob_N hM 30 1031 rfl rfl]; decide) dX7_drifts_237 ?_
            refine V_iincU C dX7_drifts_238 rfl (hn _ (by decide)) ?_
            refine V_goto C 154 dX7_drifts_241 (by decide) ?_
            exact fin _ _ _ _ (hF.tr (Fr.mv h60 h62)) rfl rfl (by rw [rMv h60 h62, drAt, if_pos hw])
          · refine V_iload C dX7_drifts_154 rfl ?_
            refine V_iconst C (v := nI 5) dX7_drifts_156 (by decide +kernel) ?_
            refine V_icmp_ge C 244 dX7_drifts_157 (by decide) (fun h157 => absurd h157 (nI_ge (by omega) (by omega))) (fun h157 => ?_)
            refine V_aload_n C dX7_drifts_160 rfl ?_
            refine V_getR C fl_X7_170 (ob_K hM) (ob_R hM 46 1047 rfl rfl) rfl dX7_drifts_161 ?_
            refine V_iconst C (v := nI 5) dX7_drifts_164 (by decide +kernel) ?_
            refine V_iload_n C dX7_drifts_165 rfl ?_
            refine V_imul C dX7_drifts_166 ?_
            refine V_iload C dX7_drifts_167 rfl ?_
            refine V_iadd C dX7_drifts_169 ?_
            refine V_iald C (5 * r + s) (ob_A hM 46 1047 rfl rfl) (by first | rfl | (simp only [nI_add, pk_mul]; done) | (simp only [nI_add, pk_mul]; congr 1; omega)) (by rw [ob_N hM 46 1047 rfl rfl]; omega) (by rw [ob_N hM 46 1047 rfl rfl]; decide) dX7_drifts_170 ?_
            rw [e47]
            refine V_istore C dX7_drifts_171 (hn _ (by decide)) ?_
            refine V_aload_n C dX7_drifts_173 rfl ?_
            refine V_getR C fl_X7_128 (ob_K hM) (ob_R hM 30 1031 rfl rfl) rfl dX7_drifts_174 ?_
            refine V_bipush C (v := nI 60) dX7_drifts_177 (by decide +kernel) ?_
            refine V_iload_n C dX7_drifts_179 rfl ?_
            refine V_imul C dX7_drifts_180 ?_
            refine V_iconst C (v := nI 5) dX7_drifts_181 (by decide +kernel) ?_
            refine V_iload_n C dX7_drifts_182 rfl ?_
            refine V_imul C dX7_drifts_183 ?_
            refine V_iadd C dX7_drifts_184 ?_
            refine V_iload C dX7_drifts_185 rfl ?_
            refine V_iadd C dX7_drifts_187 ?_
            refine V_dup2 C dX7_drifts_188 rfl rfl ?_
            refine V_iald C (60 * b + (5 * r + s)) (ob_A hM 30 1031 rfl rfl) (by first | rfl | (simp only [nI_add, pk_mul]; done) | (simp only [nI_add, pk_mul]; congr 1; omega)) (by rw [ob_N hM 30 1031 rfl rfl]; omega) (by rw [ob_N hM 30 1031 rfl rfl]; decide) dX7_drifts_189 ?_
            refine V_iload C dX7_drifts_190 rfl ?_
            refine V_isub C dX7_drifts_192 ?_
            refine V_iast C (60 * b + (5 * r + s)) (ob_A hM 30 1031 rfl rfl) (by first | rfl | (simp only [nI_add, pk_mul]; done) | (simp only [nI_add, pk_mul]; congr 1; omega)) (by rw [ob_N hM 30 1031 rfl rfl]; omega) (by rw [ob_N hM 30 1031 rfl rfl]; decide) dX7_drifts_193 ?_
            refine V_iload_n C dX7_drifts_194 rfl ?_
            refine V_iload_n C dX7_drifts_195 rfl ?_
            refine V_iadd C dX7_drifts_196 ?_
            refine V_if_ge C 215 dX7_drifts_197 (by decide) (fun h197 => absurd h197 (hw)) (fun h197 => ?_)
            refine V_aload_n C dX7_drifts_200 rfl ?_
            refine V_getR C fl_X7_140 (ob_K hM) (ob_R hM 34 1035 rfl rfl) rfl dX7_drifts_201 ?_
            refine V_iload_n C dX7_drifts_204 rfl ?_
            refine V_dup2 C dX7_drifts_205 rfl rfl ?_
            refine V_lald C (b) (ob_A hM 34 1035 rfl rfl) (by first | rfl | (simp only [nI_add, pk_mul]; done) | (simp only [nI_add, pk_mul]; congr 1; omega)) (by rw [ob_N hM 34 1035 rfl rfl]; omega) (by rw [ob_N hM 34 1035 rfl rfl]; decide) dX7_drifts_206 ?_
            refine V_iload C dX7_drifts_207 rfl ?_
            refine V_i2l C dX7_drifts_209 ?_
            refine V_ladd C dX7_drifts_210 ?_
            refine V_last C (b) (ob_A hM 34 1035 rfl rfl) (by first | rfl | (simp only [nI_add, pk_mul]; done) | (simp only [nI_add, pk_mul]; congr 1; omega)) (by rw [ob_N hM 34 1035 rfl rfl]; omega) (by rw [ob_N hM 34 1035 rfl rfl]; decide) dX7_drifts_211 ?_
            refine V_goto C 238 dX7_drifts_212 (by decide) ?_
            refine V_iincU C dX7_drifts_238 rfl (hn _ (by decide)) ?_
            refine V_goto C 154 dX7_drifts_241 (by decide) ?_
            exact fin _ _ _ _ ((hF.tr (Fr.dust h60)).tr Fr.fall) rfl rfl (by rw [drAt, if_neg hw, up2_row, va_up_self]; dsimp only; rw [rD4 h60]; exact congrArg (fun z => (z, _)) (rDust h60))
      refine V_iload_n C dX7_drifts_134 rfl ?_
      refine V_aload_n C dX7_drifts_135 rfl ?_
      refine V_getR C fl_X7_116 (ob_K hM) (ob_R hM 26 1027 rfl rfl) rfl dX7_drifts_136 ?_
      refine V_iload_n C dX7_drifts_139 rfl ?_
      refine V_iald C (b) (ob_A hM 26 1027 rfl rfl) (by first | rfl | (simp only [nI_add, pk_mul]; done) | (simp only [nI_add, pk_mul]; congr 1; omega)) (by rw [ob_N hM 26 1027 rfl rfl]; omega) (by rw [ob_N hM 26 1027 rfl rfl]; decide) dX7_drifts_140 ?_
      refine V_icmp_ge C 250 dX7_drifts_141 (by decide) (fun h141 => absurd h141 (c9)) (fun h141 => ?_)
      refine V_aload_n C dX7_drifts_144 rfl ?_
      refine V_iload_n C dX7_drifts_145 rfl ?_
      refine V_iload_n C dX7_drifts_146 rfl ?_
      refine V_callV (F := fun _ => True) C (m_wayOf hM hb (hk.1.ok hD) (by rw [show rgD (refD Ic Jc b) = rgD D by unfold rgD; rw [hk.1.1]]; exact hrn)) mi_X7_wayOf ml_X7_382 rfl (ob_K hM) (by decide) (by decide) (by decide) (Nat.le_of_ble_eq_true rfl) (fun _ _ => trivial) (fun v _ => clo_T v) rfl dX7_drifts_147 ?_
      rintro v S' I' J' ⟨hS, rfl, hI, hJ⟩
      obtain rfl := hS.symm
      obtain rfl := hI.symm
      obtain rfl := hJ.symm
      rw [hk.way]
      refine V_istore_n C dX7_drifts_150 (hn _ (by decide)) ?_
      refine V_iconst C (v := nI 0) dX7_drifts_151 (by decide +kernel) ?_
      refine V_istore C dX7_drifts_152 (hn _ (by decide)) ?_
      exact inner 5 0 Ic Jc _ _ rfl hF hk hj hlv he
  have outer1 : ∀ (c r : Nat) (Ic : HI) (x3 x4 x5 x6 : Option Value), r + c = n → Sc I Ic → (∀ j, j < 12 → Ic 1048 j = G j) → (∀ r' s, r' < r → s < 5 → Ic 1047 (5 * r' + s) = lvD (kcl L g) D G r' s) → V X P 0 0 7 [some (.ref 1000), some (.int (nI b)), some (.int (nI r)), x3, x4, x5, x6] [] S Ic J := by
    intro c
    induction c with
    | zero =>
      intro r Ic x3 x4 x5 x6 hr hF hgv hlv
      have hr : r = n := hr
      subst hr
      have eD : refD Ic J b = D := (hF.eq b).trans hDD
      have c9 : Ic 1027 b ≤ nI r := by rw [show Ic 1027 b = nI r from (congrFun (congrFun eD 0) 0).trans hn0]; exact Int32.le_refl _
      refine V_iload_n C dX7_drifts_7 rfl ?_
      refine V_aload_n C dX7_drifts_8 rfl ?_
      refine V_getR C fl_X7_116 (ob_K hM) (ob_R hM 26 1027 rfl rfl) rfl dX7_drifts_9 ?_
      refine V_iload_n C dX7_drifts_12 rfl ?_
      refine V_iald C (b) (ob_A hM 26 1027 rfl rfl) (by first | rfl | (simp only [nI_add, pk_mul]; done) | (simp only [nI_add, pk_mul]; congr 1; omega)) (by rw [ob_N hM 26 1027 rfl rfl]; omega) (by rw [ob_N hM 26 1027 rfl rfl]; decide) dX7_drifts_13 ?_
      refine V_icmp_ge C 132 dX7_drifts_14 (by decide) (fun h14 => ?_) (fun h14 => absurd (c9) h14)
      refine V_iconst C (v := nI 0) dX7_drifts_132 (by decide +kernel) ?_
      refine V_istore_n C dX7_drifts_133 (hn _ (by decide)) ?_
      exact outer2 r 0 Ic J _ _ _ _ (by omega) hF.fr (by rw [eD]; exact ⟨kpD.re, rfl, rfl⟩) rfl hlv (by rw [eD])
    | succ c ih =>
      intro r Ic x3 x4 x5 x6 hr hF hgv hlv
      have eD : refD Ic J b = D := (hF.eq b).trans hDD
      have c9 : ¬ Ic 1027 b ≤ nI r := by rw [show Ic 1027 b = nI n from (congrFun (congrFun eD 0) 0).trans hn0]; exact nI_ge (by omega) (by omega)
      have inner : ∀ (m s : Nat) (Ic : HI) (x5 x6 : Option Value), s + m = 5 → Sc I Ic → (∀ j, j < 12 → Ic 1048 j = G j) → (∀ r' s, r' < r → s < 5 → Ic 1047 (5 * r' + s) = lvD (kcl L g) D G r' s) → (∀ s', s' < s → Ic 1047 (5 * r + s') = lvD (kcl L g) D G r s') → V X P 0 0 27 [some (.ref 1000), some (.int (nI b)), some (.int (nI r)), some (.int (wayD D r)), some (.int (nI s)), x5, x6] [] S Ic J := by
        intro m
        induction m with
        | zero =>
          intro s Ic x5 x6 hs hF hgv hlv hls
          have hs : s = 5 := hs
          subst hs
          refine V_iload C dX7_drifts_27 rfl ?_
          refine V_iconst C (v := nI 5) dX7_drifts_29 (by decide +kernel) ?_
          refine V_icmp_ge C 126 dX7_drifts_30 (by decide) (fun h30 => ?_) (fun h30 => absurd (by decide) h30)
          refine V_iincU C dX7_drifts_126 rfl (hn _ (by decide)) ?_
          refine V_goto C 7 dX7_drifts_129 (by decide) ?_
          exact ih (r + 1) Ic _ _ _ _ (by omega) hF hgv (fun r' s h1 h2 => by
                      by_cases e : r' = r
                      · subst e; exact hls s h2
                      · exact hlv r' s (by omega) h2)
        | succ m ih2 =>
          intro s Ic x5 x6 hs hF hgv hlv hls
          have eD : refD Ic J b = D := (hF.eq b).trans hDD
          have hDc : rOk (refD Ic J b) := by rw [eD]; exact hD
          have hGc := hG.fr (J := J) (J' := J) (b := b) hF.fr
          have fin : ∀ (In : HI) (x5 x6 : Option Value), Sc I In → In 1048 = Ic 1048 → In 1047 = va_up (Ic 1047) (5 * r + s) (lvD (kcl L g) D G r s) → V X P 0 0 27 [some (.ref 1000), some (.int (nI b)), some (.int (nI r)), some (.int (wayD D r)), some (.int (nI (s + 1))), x5, x6] [] S In J := by
            intro In x5 x6 hF3 e1 e2
            refine ih2 (s + 1) In x5 x6 (by omega) hF3 (fun j hj => by rw [e1]; exact hgv j hj) (fun r' s' h1 h2 => by rw [e2, va_up_ne _ _ (by omega)]; exact hlv r' s' h1 h2) (fun s' h => ?_)
            rw [e2]
            by_cases e : s' = s
            · subst e; rw [va_up_self]
            · rw [va_up_ne _ _ (by omega)]; exact hls s' (by omega)
          refine V_iload C dX7_drifts_27 rfl ?_
          refine V_iconst C (v := nI 5) dX7_drifts_29 (by decide +kernel) ?_
          refine V_icmp_ge C 126 dX7_drifts_30 (by decide) (fun h30 => absurd h30 (nI_ge (by omega) (by omega))) (fun h30 => ?_)
          refine V_aload_n C dX7_drifts_33 rfl ?_
          refine V_iload_n C dX7_drifts_34 rfl ?_
          refine V_iload_n C dX7_drifts_35 rfl ?_
          refine V_iload C dX7_drifts_36 rfl ?_
          refine V_callV (F := fun _ => True) C (m_knowsDust hM hb hDc (by omega) (by omega)) mi_X7_knowsDust ml_X7_355 rfl (ob_K hM) (by decide) (by decide) (by decide) (Nat.le_of_ble_eq_true rfl) (fun _ _ => trivial) (fun v _ => clo_T v) rfl dX7_drifts_38 ?_
          rintro v S' I' J' ⟨hS, rfl, hI, hJ⟩
          obtain rfl := hS.symm
          obtain rfl := hI.symm
          obtain rfl := hJ.symm
          rw [eD]
          refine V_iload_n C dX7_drifts_41 rfl ?_
          refine V_if_ne C 49 dX7_drifts_42 (by decide) (fun h42 => ?_) (fun h42 => ?_)
          · refine V_aload_n C dX7_drifts_49 rfl ?_
            refine V_iconst C (v := nI 2) dX7_drifts_50 (by decide +kernel) ?_
            refine V_callV (F := fun _ => True) C (m_lawK hM hGc (by omega)) mi_X7_lawFor ml_X7_359 rfl (ob_K hM) (by decide) (by decide) (by decide) (Nat.le_of_ble_eq_true rfl) (fun _ _ => trivial) (fun v _ => clo_T v) rfl dX7_drifts_51 ?_
            rintro v S' I' J' ⟨hS, rfl, ⟨p2, hI⟩, hJ⟩
            obtain rfl := hS.symm
            obtain rfl := hJ.symm
            subst hI
            refine V_istore C dX7_drifts_54 (hn _ (by decide)) ?_
            refine V_iload_n C dX7_drifts_56 rfl ?_
            refine V_tern_if_ge (vt := nI 0) (vf := if nI r ≤ 0 then nI 0 else if nI s < G (r - 1) then nI 0 else nI 1) (pm := 82) C 81 dX7_drifts_57 (by decide) (fun h57 k => ?_) (fun h57 k => ?_) ?_
            · refine V_iconst C (v := nI 0) dX7_drifts_81 (by decide +kernel) ?_
              exact k
            · refine V_iload_n C dX7_drifts_60 rfl ?_
              refine V_tern_if_le (vt := nI 0) (vf := if nI s < G (r - 1) then nI 0 else nI 1) (pm := 82) C 81 dX7_drifts_61 (by decide) (fun h61 k => ?_) (fun h61 k => ?_) ?_
              · refine V_iconst C (v := nI 0) dX7_drifts_81 (by decide +kernel) ?_
                exact k
              · refine V_aload_n C dX7_drifts_64 rfl ?_
                refine V_getR C fl_X7_173 (ob_K hM) (ob_R hM 47 1048 rfl rfl) rfl dX7_drifts_65 ?_
                refine V_iload_n C dX7_drifts_68 rfl ?_
                refine V_iconst C (v := nI 1) dX7_drifts_69 (by decide +kernel) ?_
                refine V_isub C dX7_drifts_70 ?_
                refine V_iald C (r - 1) (ob_A hM 47 1048 rfl rfl) (pk_sub (by have h0 : r ≠ 0 := (fun e => h61 (by rw [e]; decide)); omega)) (by rw [ob_N hM 47 1048 rfl rfl]; omega) (by rw [ob_N hM 47 1048 rfl rfl]; decide) dX7_drifts_71 ?_
                refine V_top (w := .int (G (r - 1))) (congrArg Value.int (hgv (r - 1) (by omega))) ?_
                refine V_iload C dX7_drifts_72 rfl ?_
                refine V_tern_icmp_gt (vt := nI 0) (vf := nI 1) (pm := 82) C 81 dX7_drifts_74 (by decide) (fun h74 k => ?_) (fun h74 k => ?_) ?_
                · refine V_iconst C (v := nI 0) dX7_drifts_81 (by decide +kernel) ?_
                  exact k
                · refine V_iconst C (v := nI 1) dX7_drifts_77 (by decide +kernel) ?_
                  refine V_goto C 82 dX7_drifts_78 (by decide) ?_
                  exact k
                exact k
              exact k
            refine V_istore C dX7_drifts_82 (hn _ (by decide)) ?_
            refine V_aload_n C dX7_drifts_84 rfl ?_
            refine V_getR C fl_X7_170 (ob_K hM) (ob_R hM 46 1047 rfl rfl) rfl dX7_drifts_85 ?_
            refine V_iconst C (v := nI 5) dX7_drifts_88 (by decide +kernel) ?_
            refine V_iload_n C dX7_drifts_89 rfl ?_
            refine V_imul C dX7_drifts_90 ?_
            refine V_iload C dX7_drifts_91 rfl ?_
            refine V_iadd C dX7_drifts_93 ?_
            refine V_iload C dX7_drifts_94 rfl ?_
            refine V_if_lt C 104 dX7_drifts_96 (by decide) (fun h96 => ?_) (fun h96 => ?_)
            · refine V_iconst C (v := nI 0) dX7_drifts_104 (by decide +kernel) ?_
              refine V_goto C 119 dX7_drifts_105 (by decide) ?_
              refine V_iast C (5 * r + s) (ob_A hM 46 1047 rfl rfl) (by first | rfl | (simp only [nI_add, pk_mul]; done) | (simp only [nI_add, pk_mul]; congr 1; omega)) (by rw [ob_N hM 46 1047 rfl rfl]; omega) (by rw [ob_N hM 46 1047 rfl rfl]; decide) dX7_drifts_119 ?_
              refine V_iincU C dX7_drifts_120 rfl (hn _ (by decide)) ?_
              refine V_goto C 27 dX7_drifts_123 (by decide) ?_
              first
                | exact absurd (by decide) h96
                | exact fin _ _ _ ((hF.tr (Sc.kn _)).tr (Sc.lv _ _)) rfl (by rw [up2_row, lvD, if_pos (show (if wayD D r = 0 then -1 else kcl L g 2 (fDu D r s)) < 0 by rw [if_pos h42]; decide)]; rfl)
                | exact fin _ _ _ (((hF.tr (Sc.kn _)).tr (Sc.pl _)).tr (Sc.lv _ _)) rfl (by rw [up2_row, lvD, if_pos (show (if wayD D r = 0 then -1 else kcl L g 2 (fDu D r s)) < 0 by rw [if_neg h42]; exact h96)]; rfl)
                | exact fin _ _ _ (((hF.tr (Sc.kn _)).tr (Sc.pl _)).tr (Sc.lv _ _)) rfl (by rw [up2_row, lvD, if_neg (show ¬ (if wayD D r = 0 then -1 else kcl L g 2 (fDu D r s)) < 0 by rw [if_neg h42]; exact h96), if_pos (show bkD D G r s = 0 from h101)]; rfl)
                | exact fin _ _ _ (((hF.tr (Sc.kn _)).tr (Sc.pl _)).tr (Sc.lv _ _)) rfl (by rw [up2_row, lvD, if_neg (show ¬ (if wayD D r = 0 then -1 else kcl L g 2 (fDu D r s)) < 0 by rw [if_neg h42]; exact h96), if_neg (show ¬ bkD D G r s = 0 from h101)]; rfl)
            · refine V_iload C dX7_drifts_99 rfl ?_
              refine V_if_eq C 108 dX7_drifts_101 (by decide) (fun h101 => ?_) (fun h101 => ?_)
              · refine V_aload_n C dX7_drifts_108 rfl ?_
                refine V_getR C fl_X7_110 (ob_K hM) (ob_R hM 22 1023 rfl rfl) rfl dX7_drifts_109 ?_
                refine V_iconst C (v := nI 4) dX7_drifts_112 (by decide +kernel) ?_
                refine V_iald C (4) (ob_A hM 22 1023 rfl rfl) (by first | rfl | (simp only [nI_add, pk_mul]; done) | (simp only [nI_add, pk_mul]; congr 1; omega)) (by rw [ob_N hM 22 1023 rfl rfl]; omega) (by rw [ob_N hM 22 1023 rfl rfl]; decide) dX7_drifts_113 ?_
                refine V_top (w := .int (D 4 (5 * r + s))) rfl ?_
                refine V_iload C dX7_drifts_114 rfl ?_
                refine V_callS (F := fun _ => True) C (m_part _ _) ms_X7_part ml_X7_369 rfl (by decide) (by decide) (Nat.le_of_ble_eq_true rfl) (fun _ _ => trivial) (fun v _ => clo_T v) rfl dX7_drifts_116 ?_
                rintro v S' I' J' ⟨hS, rfl, hI, hJ⟩
                obtain rfl := hS.symm
                obtain rfl := hI.symm
                obtain rfl := hJ.symm
                refine V_iast C (5 * r + s) (ob_A hM 46 1047 rfl rfl) (by first | rfl | (simp only [nI_add, pk_mul]; done) | (simp only [nI_add, pk_mul]; congr 1; omega)) (by rw [ob_N hM 46 1047 rfl rfl]; omega) (by rw [ob_N hM 46 1047 rfl rfl]; decide) dX7_drifts_119 ?_
                refine V_iincU C dX7_drifts_120 rfl (hn _ (by decide)) ?_
                refine V_goto C 27 dX7_drifts_123 (by decide) ?_
                first
                  | exact absurd (by decide) h96
                  | exact fin _ _ _ ((hF.tr (Sc.kn _)).tr (Sc.lv _ _)) rfl (by rw [up2_row, lvD, if_pos (show (if wayD D r = 0 then -1 else kcl L g 2 (fDu D r s)) < 0 by rw [if_pos h42]; decide)]; rfl)
                  | exact fin _ _ _ (((hF.tr (Sc.kn _)).tr (Sc.pl _)).tr (Sc.lv _ _)) rfl (by rw [up2_row, lvD, if_pos (show (if wayD D r = 0 then -1 else kcl L g 2 (fDu D r s)) < 0 by rw [if_neg h42]; exact h96)]; rfl)
                  | exact fin _ _ _ (((hF.tr (Sc.kn _)).tr (Sc.pl _)).tr (Sc.lv _ _)) rfl (by rw [up2_row, lvD, if_neg (show ¬ (if wayD D r = 0 then -1 else kcl L g 2 (fDu D r s)) < 0 by rw [if_neg h42]; exact h96), if_pos (show bkD D G r s = 0 from h101)]; rfl)
                  | exact fin _ _ _ (((hF.tr (Sc.kn _)).tr (Sc.pl _)).tr (Sc.lv _ _)) rfl (by rw [up2_row, lvD, if_neg (show ¬ (if wayD D r = 0 then -1 else kcl L g 2 (fDu D r s)) < 0 by rw [if_neg h42]; exact h96), if_neg (show ¬ bkD D G r s = 0 from h101)]; rfl)
              · refine V_iconst C (v := nI 0) dX7_drifts_104 (by decide +kernel) ?_
                refine V_goto C 119 dX7_drifts_105 (by decide) ?_
                refine V_iast C (5 * r + s) (ob_A hM 46 1047 rfl rfl) (by first | rfl | (simp only [nI_add, pk_mul]; done) | (simp only [nI_add, pk_mul]; congr 1; omega)) (by rw [ob_N hM 46 1047 rfl rfl]; omega) (by rw [ob_N hM 46 1047 rfl rfl]; decide) dX7_drifts_119 ?_
                refine V_iincU C dX7_drifts_120 rfl (hn _ (by decide)) ?_
                refine V_goto C 27 dX7_drifts_123 (by decide) ?_
                first
                  | exact absurd (by decide) h96
                  | exact fin _ _ _ ((hF.tr (Sc.kn _)).tr (Sc.lv _ _)) rfl (by rw [up2_row, lvD, if_pos (show (if wayD D r = 0 then -1 else kcl L g 2 (fDu D r s)) < 0 by rw [if_pos h42]; decide)]; rfl)
                  | exact fin _ _ _ (((hF.tr (Sc.kn _)).tr (Sc.pl _)).tr (Sc.lv _ _)) rfl (by rw [up2_row, lvD, if_pos (show (if wayD D r = 0 then -1 else kcl L g 2 (fDu D r s)) < 0 by rw [if_neg h42]; exact h96)]; rfl)
                  | exact fin _ _ _ (((hF.tr (Sc.kn _)).tr (Sc.pl _)).tr (Sc.lv _ _)) rfl (by rw [up2_row, lvD, if_neg (show ¬ (if wayD D r = 0 then -1 else kcl L g 2 (fDu D r s)) < 0 by rw [if_neg h42]; exact h96), if_pos (show bkD D G r s = 0 from h101)]; rfl)
                  | exact fin _ _ _ (((hF.tr (Sc.kn _)).tr (Sc.pl _)).tr (Sc.lv _ _)) rfl (by rw [up2_row, lvD, if_neg (show ¬ (if wayD D r = 0 then -1 else kcl L g 2 (fDu D r s)) < 0 by rw [if_neg h42]; exact h96), if_neg (show ¬ bkD D G r s = 0 from h101)]; rfl)
          · refine V_iconst C (v := (-1)) dX7_drifts_45 (by decide +kernel) ?_
            refine V_goto C 54 dX7_drifts_46 (by decide) ?_
            refine V_istore C dX7_drifts_54 (hn _ (by decide)) ?_
            refine V_iload_n C dX7_drifts_56 rfl ?_
            refine V_tern_if_ge (vt := nI 0) (vf := if nI r ≤ 0 then nI 0 else if nI s < G (r - 1) then nI 0 else nI 1) (pm := 82) C 81 dX7_drifts_57 (by decide) (fun h57 k => ?_) (fun h57 k => ?_) ?_
            · refine V_iconst C (v := nI 0) dX7_drifts_81 (by decide +kernel) ?_
              exact k
            · refine V_iload_n C dX7_drifts_60 rfl ?_
              refine V_tern_if_le (vt := nI 0) (vf := if nI s < G (r - 1) then nI 0 else nI 1) (pm := 82) C 81 dX7_drifts_61 (by decide) (fun h61 k => ?_) (fun h61 k => ?_) ?_
              · refine V_iconst C (v := nI 0) dX7_drifts_81 (by decide +kernel) ?_
                exact k
              · refine V_aload_n C dX7_drifts_64 rfl ?_
                refine V_getR C fl_X7_173 (ob_K hM) (ob_R hM 47 1048 rfl rfl) rfl dX7_drifts_65 ?_
                refine V_iload_n C dX7_drifts_68 rfl ?_
                refine V_iconst C (v := nI 1) dX7_drifts_69 (by decide +kernel) ?_
                refine V_isub C dX7_drifts_70 ?_
                refine V_iald C (r - 1) (ob_A hM 47 1048 rfl rfl) (pk_sub (by have h0 : r ≠ 0 := (fun e => h61 (by rw [e]; decide)); omega)) (by rw [ob_N hM 47 1048 rfl rfl]; omega) (by rw [ob_N hM 47 1048 rfl rfl]; decide) dX7_drifts_71 ?_
                refine V_top (w := .int (G (r - 1))) (congrArg Value.int (hgv (r - 1) (by omega))) ?_
                refine V_iload C dX7_drifts_72 rfl ?_
                refine V_tern_icmp_gt (vt := nI 0) (vf := nI 1) (pm := 82) C 81 dX7_drifts_74 (by decide) (fun h74 k => ?_) (fun h74 k => ?_) ?_
                · refine V_iconst C (v := nI 0) dX7_drifts_81 (by decide +kernel) ?_
                  exact k
                · refine V_iconst C (v := nI 1) dX7_drifts_77 (by decide +kernel) ?_
                  refine V_goto C 82 dX7_drifts_78 (by decide) ?_
                  exact k
                exact k
              exact k
            refine V_istore C dX7_drifts_82 (hn _ (by decide)) ?_
            refine V_aload_n C dX7_drifts_84 rfl ?_
            refine V_getR C fl_X7_170 (ob_K hM) (ob_R hM 46 1047 rfl rfl) rfl dX7_drifts_85 ?_
            refine V_iconst C (v := nI 5) dX7_drifts_88 (by decide +kernel) ?_
            refine V_iload_n C dX7_drifts_89 rfl ?_
            refine V_imul C dX7_drifts_90 ?_
            refine V_iload C dX7_drifts_91 rfl ?_
            refine V_iadd C dX7_drifts_93 ?_
            refine V_iload C dX7_drifts_94 rfl ?_
            refine V_if_lt C 104 dX7_drifts_96 (by decide) (fun h96 => ?_) (fun h96 => ?_)
            · refine V_iconst C (v := nI 0) dX7_drifts_104 (by decide +kernel) ?_
              refine V_goto C 119 dX7_drifts_105 (by decide) ?_
              refine V_iast C (5 * r + s) (ob_A hM 46 1047 rfl rfl) (by first | rfl | (simp only [nI_add, pk_mul]; done) | (simp only [nI_add, pk_mul]; congr 1; omega)) (by rw [ob_N hM 46 1047 rfl rfl]; omega) (by rw [ob_N hM 46 1047 rfl rfl]; decide) dX7_drifts_119 ?_
              refine V_iincU C dX7_drifts_120 rfl (hn _ (by decide)) ?_
              refine V_goto C 27 dX7_drifts_123 (by decide) ?_
              first
                | exact absurd (by decide) h96
                | exact fin _ _ _ ((hF.tr (Sc.kn _)).tr (Sc.lv _ _)) rfl (by rw [up2_row, lvD, if_pos (show (if wayD D r = 0 then -1 else kcl L g 2 (fDu D r s)) < 0 by rw [if_pos h42]; decide)]; rfl)
                | exact fin _ _ _ (((hF.tr (Sc.kn _)).tr (Sc.pl _)).tr (Sc.lv _ _)) rfl (by rw [up2_row, lvD, if_pos (show (if wayD D r = 0 then -1 else kcl L g 2 (fDu D r s)) < 0 by rw [if_neg h42]; exact h96)]; rfl)
                | exact fin _ _ _ (((hF.tr (Sc.kn _)).tr (Sc.pl _)).tr (Sc.lv _ _)) rfl (by rw [up2_row, lvD, if_neg (show ¬ (if wayD D r = 0 then -1 else kcl L g 2 (fDu D r s)) < 0 by rw [if_neg h42]; exact h96), if_pos (show bkD D G r s = 0 from h101)]; rfl)
                | exact fin _ _ _ (((hF.tr (Sc.kn _)).tr (Sc.pl _)).tr (Sc.lv _ _)) rfl (by rw [up2_row, lvD, if_neg (show ¬ (if wayD D r = 0 then -1 else kcl L g 2 (fDu D r s)) < 0 by rw [if_neg h42]; exact h96), if_neg (show ¬ bkD D G r s = 0 from h101)]; rfl)
            · refine V_iload C dX7_drifts_99 rfl ?_
              refine V_if_eq C 108 dX7_drifts_101 (by decide) (fun h101 => ?_) (fun h101 => ?_)
              · refine V_aload_n C dX7_drifts_108 rfl ?_
                refine V_getR C fl_X7_110 (ob_K hM) (ob_R hM 22 1023 rfl rfl) rfl dX7_drifts_109 ?_
                refine V_iconst C (v := nI 4) dX7_drifts_112 (by decide +kernel) ?_
                refine V_iald C (4) (ob_A hM 22 1023 rfl rfl) (by first | rfl | (simp only [nI_add, pk_mul]; done) | (simp only [nI_add, pk_mul]; congr 1; omega)) (by rw [ob_N hM 22 1023 rfl rfl]; omega) (by rw [ob_N hM 22 1023 rfl rfl]; decide) dX7_drifts_113 ?_
                refine V_top (w := .int (D 4 (5 * r + s))) rfl ?_
                refine V_iload C dX7_drifts_114 rfl ?_
                refine V_callS (F := fun _ => True) C (m_part _ _) ms_X7_part ml_X7_369 rfl (by decide) (by decide) (Nat.le_of_ble_eq_true rfl) (fun _ _ => trivial) (fun v _ => clo_T v) rfl dX7_drifts_116 ?_
                rintro v S' I' J' ⟨hS, rfl, hI, hJ⟩
                obtain rfl := hS.symm
                obtain rfl := hI.symm
                obtain rfl := hJ.symm
                refine V_iast C (5 * r + s) (ob_A hM 46 1047 rfl rfl) (by first | rfl | (simp only [nI_add, pk_mul]; done) | (simp only [nI_add, pk_mul]; congr 1; omega)) (by rw [ob_N hM 46 1047 rfl rfl]; omega) (by rw [ob_N hM 46 1047 rfl rfl]; decide) dX7_drifts_119 ?_
                refine V_iincU C dX7_drifts_120 rfl (hn _ (by decide)) ?_
                refine V_goto C 27 dX7_drifts_123 (by decide) ?_
                first
                  | exact absurd (by decide) h96
                  | exact fin _ _ _ ((hF.tr (Sc.kn _)).tr (Sc.lv _ _)) rfl (by rw [up2_row, lvD, if_pos (show (if wayD D r = 0 then -1 else kcl L g 2 (fDu D r s)) < 0 by rw [if_pos h42]; decide)]; rfl)
                  | exact fin _ _ _ (((hF.tr (Sc.kn _)).tr (Sc.pl _)).tr (Sc.lv _ _)) rfl (by rw [up2_row, lvD, if_pos (show (if wayD D r = 0 then -1 else kcl L g 2 (fDu D r s)) < 0 by rw [if_neg h42]; exact h96)]; rfl)
                  | exact fin _ _ _ (((hF.tr (Sc.kn _)).tr (Sc.pl _)).tr (Sc.lv _ _)) rfl (by rw [up2_row, lvD, if_neg (show ¬ (if wayD D r = 0 then -1 else kcl L g 2 (fDu D r s)) < 0 by rw [if_neg h42]; exact h96), if_pos (show bkD D G r s = 0 from h101)]; rfl)
                  | exact fin _ _ _ (((hF.tr (Sc.kn _)).tr (Sc.pl _)).tr (Sc.lv _ _)) rfl (by rw [up2_row, lvD, if_neg (show ¬ (if wayD D r = 0 then -1 else kcl L g 2 (fDu D r s)) < 0 by rw [if_neg h42]; exact h96), if_neg (show ¬ bkD D G r s = 0 from h101)]; rfl)
              · refine V_iconst C (v := nI 0) dX7_drifts_104 (by decide +kernel) ?_
                refine V_goto C 119 dX7_drifts_105 (by decide) ?_
                refine V_iast C (5 * r + s) (ob_A hM 46 1047 rfl rfl) (by first | rfl | (simp only [nI_add, pk_mul]; done) | (simp only [nI_add, pk_mul]; congr 1; omega)) (by rw [ob_N hM 46 1047 rfl rfl]; omega) (by rw [ob_N hM 46 1047 rfl rfl]; decide) dX7_drifts_119 ?_
                refine V_iincU C dX7_drifts_120 rfl (hn _ (by decide)) ?_
                refine V_goto C 27 dX7_drifts_123 (by decide) ?_
                first
                  | exact absurd (by decide) h96
                  | exact fin _ _ _ ((hF.tr (Sc.kn _)).tr (Sc.lv _ _)) rfl (by rw [up2_row, lvD, if_pos (show (if wayD D r = 0 then -1 else kcl L g 2 (fDu D r s)) < 0 by rw [if_pos h42]; decide)]; rfl)
                  | exact fin _ _ _ (((hF.tr (Sc.kn _)).tr (Sc.pl _)).tr (Sc.lv _ _)) rfl (by rw [up2_row, lvD, if_pos (show (if wayD D r = 0 then -1 else kcl L g 2 (fDu D r s)) < 0 by rw [if_neg h42]; exact h96)]; rfl)
                  | exact fin _ _ _ (((hF.tr (Sc.kn _)).tr (Sc.pl _)).tr (Sc.lv _ _)) rfl (by rw [up2_row, lvD, if_neg (show ¬ (if wayD D r = 0 then -1 else kcl L g 2 (fDu D r s)) < 0 by rw [if_neg h42]; exact h96), if_pos (show bkD D G r s = 0 from h101)]; rfl)
                  | exact fin _ _ _ (((hF.tr (Sc.kn _)).tr (Sc.pl _)).tr (Sc.lv _ _)) rfl (by rw [up2_row, lvD, if_neg (show ¬ (if wayD D r = 0 then -1 else kcl L g 2 (fDu D r s)) < 0 by rw [if_neg h42]; exact h96), if_neg (show ¬ bkD D G r s = 0 from h101)]; rfl)
      refine V_iload_n C dX7_drifts_7 rfl ?_
      refine V_aload_n C dX7_drifts_8 rfl ?_
      refine V_getR C fl_X7_116 (ob_K hM) (ob_R hM 26 1027 rfl rfl) rfl dX7_drifts_9 ?_
      refine V_iload_n C dX7_drifts_12 rfl ?_
      refine V_iald C (b) (ob_A hM 26 1027 rfl rfl) (by first | rfl | (simp only [nI_add, pk_mul]; done) | (simp only [nI_add, pk_mul]; congr 1; omega)) (by rw [ob_N hM 26 1027 rfl rfl]; omega) (by rw [ob_N hM 26 1027 rfl rfl]; decide) dX7_drifts_13 ?_
      refine V_icmp_ge C 132 dX7_drifts_14 (by decide) (fun h14 => absurd h14 (c9)) (fun h14 => ?_)
      refine V_aload_n C dX7_drifts_17 rfl ?_
      refine V_iload_n C dX7_drifts_18 rfl ?_
      refine V_iload_n C dX7_drifts_19 rfl ?_
      refine V_callV (F := fun _ => True) C (m_wayOf hM hb (show rOk (refD Ic J b) by rw [eD]; exact hD) (by rw [eD]; omega)) mi_X7_wayOf ml_X7_382 rfl (ob_K hM) (by decide) (by decide) (by decide) (Nat.le_of_ble_eq_true rfl) (fun _ _ => trivial) (fun v _ => clo_T v) rfl dX7_drifts_20 ?_
      rintro v S' I' J' ⟨hS, rfl, hI, hJ⟩
      obtain rfl := hS.symm
      obtain rfl := hI.symm
      obtain rfl := hJ.symm
      rw [eD]
      refine V_istore_n C dX7_drifts_23 (hn _ (by decide)) ?_
      refine V_iconst C (v := nI 0) dX7_drifts_24 (by decide +kernel) ?_
      refine V_istore C dX7_drifts_25 (hn _ (by decide)) ?_
      exact inner 5 0 Ic _ _ rfl hF hgv hlv (fun s' h => absurd h (Nat.not_lt_zero _))
  refine V_aload_n C dX7_drifts_0 rfl ?_
  refine V_iload_n C dX7_drifts_1 rfl ?_
  refine V_callV (F := fun _ => True) C (m_findHeld hM hb hG (show rOk (refD I J b) by rw [hDD]; exact hD)) mi_X7_findHeld ml_X7_379 rfl (ob_K hM) (by decide) (by decide) (by decide) (Nat.le_of_ble_eq_true rfl) (fun _ _ => trivial) (fun v _ => clo_T v) rfl dX7_drifts_2 ?_
  rintro v S' I' J' ⟨hS, rfl, hSc, hgv, hJ⟩
  obtain rfl := hS.symm
  obtain rfl := hJ.symm
  rw [hDD, hgap] at hgv
  refine V_iconst C (v := nI 0) dX7_drifts_5 (by decide +kernel) ?_
  refine V_istore_n C dX7_drifts_6 (hn _ (by decide)) ?_
  exact outer1 n 0 _ _ _ _ _ (by omega) hSc hgv (fun r' s h => absurd h (Nat.not_lt_zero _))
end M7
