/-! the reference: copies -/
section M14
variable {l : Launch} {S : HS} {I I' : HI} {J J' : HJ}
/-- k of n places of the disk 'to' hold what the disk fr holds; all else as it was -/
def seg (f f' : Nat → Int32) (n to fr k : Nat) : Prop := (∀ x, x < k → f' (n * to + x) = f (n * fr + x)) ∧ ∀ y, (y < n * to ∨ n * to + n ≤ y) → f' y = f y
theorem seg.re {f : Nat → Int32} {n to fr : Nat} : seg f f n to fr 0 := ⟨fun x h => absurd h (Nat.not_lt_zero _), fun _ _ => rfl⟩
theorem seg_out {n fr to x : Nat} (hne : fr ≠ to) (hx : x < n) : n * fr + x < n * to ∨ n * to + n ≤ n * fr + x := by
  rcases Nat.lt_or_gt_of_ne hne with h | h
  · have h1 : n * (fr + 1) ≤ n * to := Nat.mul_le_mul_left n h
    rw [Nat.mul_add, Nat.mul_one] at h1
    left; omega
  · have h1 : n * (to + 1) ≤ n * fr := Nat.mul_le_mul_left n h
    rw [Nat.mul_add, Nat.mul_one] at h1
    right; omega
theorem seg.rd {f f' : Nat → Int32} {n to fr k x : Nat} (h : seg f f' n to fr k) (hne : fr ≠ to) (hx : x < n) : f' (n * fr + x) = f (n * fr + x) := h.2 _ (seg_out hne hx)
theorem seg.step {f f' : Nat → Int32} {n to fr k : Nat} (h : seg f f' n to fr k) (hk : k < n) : seg f (va_up f' (n * to + k) (f (n * fr + k))) n to fr (k + 1) := by
  refine ⟨fun x hx => ?_, fun y hy => ?_⟩
  · by_cases e : x = k
    · subst e; rw [va_up_self]
    · rw [va_up_ne _ _ (by omega)]; exact h.1 x (by omega)
  · rw [va_up_ne _ _ (by omega)]; exact h.2 y hy
def Cp (I I' : HI) (to fr a b c e : Nat) : Prop := (I' 1027 = va_up (I 1027) to (I 1027 fr) ∧ I' 1032 = va_up (I 1032) to (I 1032 fr) ∧ I' 1033 = va_up (I 1033) to (I 1033 fr) ∧ I' 1034 = va_up (I 1034) to (I 1034 fr) ∧ I' 1037 = va_up (I 1037) to (I 1037 fr)) ∧ (seg (I 1028) (I' 1028) 12 to fr a ∧ seg (I 1029) (I' 1029) 12 to fr a ∧ seg (I 1030) (I' 1030) 12 to fr a) ∧ seg (I 1031) (I' 1031) 60 to fr b ∧ (seg (I 1038) (I' 1038) 30 to fr c ∧ seg (I 1039) (I' 1039) 30 to fr c ∧ seg (I 1040) (I' 1040) 30 to fr c ∧ seg (I 1041) (I' 1041) 30 to fr c ∧ seg (I 1042) (I' 1042) 30 to fr c ∧ seg (I 1043) (I' 1043) 30 to fr c) ∧ seg (I 1044) (I' 1044) 360 to fr e ∧ ∀ m, (m < 1027 ∨ m = 1035 ∨ m = 1036 ∨ 1044 < m) → I' m = I m
theorem refD_ext2 {d e : Nat} (h00 : I' 1027 d = I 1027 e) (h01 : I' 1034 d = I 1034 e) (h02 : I' 1032 d = I 1032 e) (h03 : I' 1033 d = I 1033 e) (h06 : I' 1037 d = I 1037 e) (h1 : ∀ x, x < 12 → I' 1028 (12 * d + x) = I 1028 (12 * e + x)) (h2 : ∀ x, x < 12 → I' 1029 (12 * d + x) = I 1029 (12 * e + x)) (h3 : ∀ x, x < 12 → I' 1030 (12 * d + x) = I 1030 (12 * e + x)) (h4 : ∀ x, x < 60 → I' 1031 (60 * d + x) = I 1031 (60 * e + x))
    (h5 : ∀ x, x < (I 1037 e).toNatClampNeg → I' 1038 (30 * d + x) = I 1038 (30 * e + x)) (h6 : ∀ x, x < (I 1037 e).toNatClampNeg → I' 1039 (30 * d + x) = I 1039 (30 * e + x)) (h7 : ∀ x, x < (I 1037 e).toNatClampNeg → I' 1040 (30 * d + x) = I 1040 (30 * e + x)) (h8 : ∀ x, x < (I 1037 e).toNatClampNeg → I' 1041 (30 * d + x) = I 1041 (30 * e + x)) (h9 : ∀ x, x < (I 1037 e).toNatClampNeg → I' 1042 (30 * d + x) = I 1042 (30 * e + x)) (h10 : ∀ x, x < (I 1037 e).toNatClampNeg → I' 1043 (30 * d + x) = I 1043 (30 * e + x)) (h11 : ∀ x, x < 12 * (I 1037 e).toNatClampNeg → I' 1044 (360 * d + x) = I 1044 (360 * e + x)) : refD I' J' d = refD I J e := by
  have a1 : ∀ k : Nat, (if k < 12 then I' 1028 (12 * d + k) else 0) = if k < 12 then I 1028 (12 * e + k) else 0 := fun k => mask_eq (h1 k)
  have a2 : ∀ k : Nat, (if k < 12 then I' 1029 (12 * d + k) else 0) = if k < 12 then I 1029 (12 * e + k) else 0 := fun k => mask_eq (h2 k)
  have a3 : ∀ k : Nat, (if k < 12 then I' 1030 (12 * d + k) else 0) = if k < 12 then I 1030 (12 * e + k) else 0 := fun k => mask_eq (h3 k)
  have a4 : ∀ k : Nat, (if k < 60 then I' 1031 (60 * d + k) else 0) = if k < 60 then I 1031 (60 * e + k) else 0 := fun k => mask_eq (h4 k)
  have a5 : ∀ k : Nat, (if k < (I 1037 e).toNatClampNeg then I' 1038 (30 * d + k) else 0) = if k < (I 1037 e).toNatClampNeg then I 1038 (30 * e + k) else 0 := fun k => mask_eq (h5 k)
  have a6 : ∀ k : Nat, (if k < (I 1037 e).toNatClampNeg then I' 1039 (30 * d + k) else 0) = if k < (I 1037 e).toNatClampNeg then I 1039 (30 * e + k) else 0 := fun k => mask_eq (h6 k)
  have a7 : ∀ k : Nat, (if k < (I 1037 e).toNatClampNeg then I' 1040 (30 * d + k) else 0) = if k < (I 1037 e).toNatClampNeg then I 1040 (30 * e + k) else 0 := fun k => mask_eq (h7 k)
  have a8 : ∀ k : Nat, (if k < (I 1037 e).toNatClampNeg then I' 1041 (30 * d + k) else 0) = if k < (I 1037 e).toNatClampNeg then I 1041 (30 * e + k) else 0 := fun k => mask_eq (h8 k)
  have a9 : ∀ k : Nat, (if k < (I 1037 e).toNatClampNeg then I' 1042 (30 * d + k) else 0) = if k < (I 1037 e).toNatClampNeg then I 1042 (30 * e + k) else 0 := fun k => mask_eq (h9 k)
  have a10 : ∀ k : Nat, (if k < (I 1037 e).toNatClampNeg then I' 1043 (30 * d + k) else 0) = if k < (I 1037 e).toNatClampNeg then I 1043 (30 * e + k) else 0 := fun k => mask_eq (h10 k)
  have a11 : ∀ k : Nat, (if k < 12 * (I 1037 e).toNatClampNeg then I' 1044 (360 * d + k) else 0) = if k < 12 * (I 1037 e).toNatClampNeg then I 1044 (360 * e + k) else 0 := fun k => mask_eq (h11 k)
  funext c k
  simp only [refD, h00, h01, h02, h03, h06, a1, a2, a3, a4, a5, a6, a7, a8, a9, a10, a11]
theorem Cp.to_ {to fr : Nat} (h : Cp I I' to fr 12 60 30 360) (hc : cmD (refD I J fr) ≤ 30) : refD I' J' to = refD I J fr := by
  obtain ⟨⟨s1, s2, s3, s4, s5⟩, ⟨g1, g2, g3⟩, g4, ⟨g5, g6, g7, g8, g9, g10⟩, g11, -⟩ := h
  have e30 : ∀ x, x < (I 1037 fr).toNatClampNeg → x < 30 := fun x hx => Nat.lt_of_lt_of_le hx hc
  have e360 : ∀ x, x < 12 * (I 1037 fr).toNatClampNeg → x < 360 := fun x hx => Nat.lt_of_lt_of_le hx (show 12 * cmD (refD I J fr) ≤ 360 by omega)
  exact refD_ext2 (by rw [s1, va_up_self]) (by rw [s4, va_up_self]) (by rw [s2, va_up_self]) (by rw [s3, va_up_self]) (by rw [s5, va_up_self]) g1.1 g2.1 g3.1 g4.1 (fun x hx => g5.1 x (e30 x hx)) (fun x hx => g6.1 x (e30 x hx)) (fun x hx => g7.1 x (e30 x hx)) (fun x hx => g8.1 x (e30 x hx)) (fun x hx => g9.1 x (e30 x hx)) (fun x hx => g10.1 x (e30 x hx)) (fun x hx => g11.1 x (e360 x hx))
theorem Cp.ne_ {to fr d : Nat} (h : Cp I I' to fr 12 60 30 360) (hd : d ≠ to) (hc : cmD (refD I J d) ≤ 30) : refD I' J' d = refD I J d := by
  obtain ⟨⟨s1, s2, s3, s4, s5⟩, ⟨g1, g2, g3⟩, g4, ⟨g5, g6, g7, g8, g9, g10⟩, g11, -⟩ := h
  have e30 : ∀ x, x < (I 1037 d).toNatClampNeg → x < 30 := fun x hx => Nat.lt_of_lt_of_le hx hc
  have e360 : ∀ x, x < 12 * (I 1037 d).toNatClampNeg → x < 360 := fun x hx => Nat.lt_of_lt_of_le hx (show 12 * cmD (refD I J d) ≤ 360 by omega)
  exact refD_ext2 (by rw [s1, va_up_ne _ _ hd]) (by rw [s4, va_up_ne _ _ hd]) (by rw [s2, va_up_ne _ _ hd]) (by rw [s3, va_up_ne _ _ hd]) (by rw [s5, va_up_ne _ _ hd]) (fun x hx => g1.2 _ (seg_out hd hx)) (fun x hx => g2.2 _ (seg_out hd hx)) (fun x hx => g3.2 _ (seg_out hd hx)) (fun x hx => g4.2 _ (seg_out hd hx)) (fun x hx => g5.2 _ (seg_out hd (e30 x hx))) (fun x hx => g6.2 _ (seg_out hd (e30 x hx))) (fun x hx => g7.2 _ (seg_out hd (e30 x hx))) (fun x hx => g8.2 _ (seg_out hd (e30 x hx))) (fun x hx => g9.2 _ (seg_out hd (e30 x hx))) (fun x hx => g10.2 _ (seg_out hd (e30 x hx))) (fun x hx => g11.2 _ (seg_out hd (e360 x hx)))
set_option maxRecDepth 100000 in
set_option maxHeartbeats 4000000 in
theorem m_copies (hM : Ob S 7 1000) {fr to : Nat} (hf : fr < 8) (ht : to < 8) (hne : fr ≠ to) (hC : cAll I J) : Mn l yX7_copies cX7_copies 7 none 0 [.ref 1000, .int (nI fr), .int (nI to)] S I J (fun v I' J' => v = none ∧ refQ I' J' to = refQ I J fr ∧ Fr to I J I' J') := by
  refine Mn.of (by decide) (fun ad => by simp [lg_sl, vv, Value.category]) (fun X P hP hn C => ?_)
  generalize hJ2 : up2 (up2 J 1035 to (J 1035 fr)) 1036 to (J 1036 fr) = J2
  have fin : ∀ In : HI, Cp I In to fr 12 60 30 360 → refQ In J2 to = refQ I J fr ∧ Fr to I J In J2 := by
    intro In h
    refine ⟨?_, fun m hm => h.2.2.2.2.2 m (by omega), fun d h8 hd => h.ne_ hd (hC d h8), fun a h1 h2 => ?_, fun d hd => ?_⟩
    · unfold refQ
      rw [h.to_ (J := J) (hC fr hf), ← hJ2, up2_row, va_up_self, up2_ne _ _ _ (by decide), up2_row, va_up_self]
    · rw [← hJ2, up2_ne _ _ _ h2, up2_ne _ _ _ h1]
    · rw [← hJ2, up2_row, up2_ne _ _ _ (by decide), up2_row, va_up_ne _ _ hd, up2_ne _ _ _ (by decide), va_up_ne _ _ hd]
      exact ⟨rfl, rfl⟩
  have loop3 : ∀ (c u : Nat) (In : HI) (x4 x5 x6 : Option Value), u + c = 30 → Cp I In to fr 12 60 u (12 * u) → V X P 0 0 202 [some (.ref 1000), some (.int (nI fr)), some (.int (nI to)), some (.int (nI u)), x4, x5, x6] [] S In J2 := by
    intro c
    induction c with
    | zero =>
      intro u In x4 x5 x6 hu h
      have hu : u = 30 := hu
      subst hu
      refine V_iload_n C dX7_copies_202 rfl ?_
      refine V_bipush C (v := nI 30) dX7_copies_203 (by decide +kernel) ?_
      refine V_icmp_ge C 356 dX7_copies_205 (by decide) (fun h205 => ?_) (fun h205 => absurd (by decide) h205)
      exact V_vret C (Nat.zero_le _) (Nat.zero_le _) dX7_copies_356 (hP _ _ _ ⟨rfl, fin _ h⟩)
    | succ c ih =>
      intro u In x4 x5 x6 hu h
      have inner : ∀ (m x : Nat) (In : HI), x + m = 12 → Cp I In to fr 12 60 (u + 1) (12 * u + x) → V X P 0 0 311 [some (.ref 1000), some (.int (nI fr)), some (.int (nI to)), some (.int (nI u)), some (.int (nI 30 * nI fr + nI u)), some (.int (nI 30 * nI to + nI u)), some (.int (nI x))] [] S In J2 := by
        intro m
        induction m with
        | zero =>
          intro x In hx h
          have hx : x = 12 := hx
          subst hx
          refine V_iload C dX7_copies_311 rfl ?_
          refine V_bipush C (v := nI 12) dX7_copies_313 (by decide +kernel) ?_
          refine V_icmp_ge C 350 dX7_copies_315 (by decide) (fun h315 => ?_) (fun h315 => absurd (by decide) h315)
          refine V_iincU C dX7_copies_350 rfl (hn _ (by decide)) ?_
          refine V_goto C 202 dX7_copies_353 (by decide) ?_
          exact ih (u + 1) In _ _ _ (by omega) h
        | succ m ih2 =>
          intro x In hx h
          obtain ⟨h1, h2, h3, h4, h5, h6⟩ := h
          have e := h5.rd hne (show 12 * u + x < 360 by omega)
          refine V_iload C dX7_copies_311 rfl ?_
          refine V_bipush C (v := nI 12) dX7_copies_313 (by decide +kernel) ?_
          refine V_icmp_ge C 350 dX7_copies_315 (by decide) (fun h315 => absurd h315 (nI_ge (by omega) (by omega))) (fun h315 => ?_)
          refine V_aload_n C dX7_copies_318 rfl ?_
          refine V_getR C fl_X7_167 (ob_K hM) (ob_R hM 43 1044 rfl rfl) rfl dX7_copies_319 ?_
          refine V_bipush C (v := nI 12) dX7_copies_322 (by decide +kernel) ?_
          refine V_iload C dX7_copies_324 rfl ?_
          refine V_imul C dX7_copies_326 ?_
          refine V_iload C dX7_copies_327 rfl ?_
          refine V_iadd C dX7_copies_329 ?_
          refine V_aload_n C dX7_copies_330 rfl ?_
          refine V_getR C fl_X7_167 (ob_K hM) (ob_R hM 43 1044 rfl rfl) rfl dX7_copies_331 ?_
          refine V_bipush C (v := nI 12) dX7_copies_334 (by decide +kernel) ?_
          refine V_iload C dX7_copies_336 rfl ?_
          refine V_imul C dX7_copies_338 ?_
          refine V_iload C dX7_copies_339 rfl ?_
          refine V_iadd C dX7_copies_341 ?_
          refine V_iald C (360 * fr + (12 * u + x)) (ob_A hM 43 1044 rfl rfl) (by first | rfl | (simp only [nI_add, pk_mul]; done) | (simp only [nI_add, pk_mul]; congr 1; omega)) (by rw [ob_N hM 43 1044 rfl rfl]; omega) (by rw [ob_N hM 43 1044 rfl rfl]; decide) dX7_copies_342 ?_
          rw [e]
          refine V_iast C (360 * to + (12 * u + x)) (ob_A hM 43 1044 rfl rfl) (by first | rfl | (simp only [nI_add, pk_mul]; done) | (simp only [nI_add, pk_mul]; congr 1; omega)) (by rw [ob_N hM 43 1044 rfl rfl]; omega) (by rw [ob_N hM 43 1044 rfl rfl]; decide) dX7_copies_343 ?_
          refine V_iincU C dX7_copies_344 rfl (hn _ (by decide)) ?_
          refine V_goto C 311 dX7_copies_347 (by decide) ?_
          exact ih2 (x + 1) _ (by omega) ⟨h1, h2, h3, h4, h5.step (by omega), fun m hm => (up2_ne _ _ _ (by omega)).trans (h6 m hm)⟩
      obtain ⟨h1, h2, h3, ⟨g5, g6, g7, g8, g9, g10⟩, h5, h6⟩ := h
      have r5 := g5.rd hne (show u < 30 by omega)
      have r6 := g6.rd hne (show u < 30 by omega)
      have r7 := g7.rd hne (show u < 30 by omega)
      have r8 := g8.rd hne (show u < 30 by omega)
      have r9 := g9.rd hne (show u < 30 by omega)
      have r10 := g10.rd hne (show u < 30 by omega)
      refine V_iload_n C dX7_copies_202 rfl ?_
      refine V_bipush C (v := nI 30) dX7_copies_203 (by decide +kernel) ?_
      refine V_icmp_ge C 356 dX7_copies_205 (by decide) (fun h205 => absurd h205 (nI_ge (by omega) (by omega))) (fun h205 => ?_)
      refine V_bipush C (v := nI 30) dX7_copies_208 (by decide +kernel) ?_
      refine V_iload_n C dX7_copies_210 rfl ?_
      refine V_imul C dX7_copies_211 ?_
      refine V_iload_n C dX7_copies_212 rfl ?_
      refine V_iadd C dX7_copies_213 ?_
      refine V_istore C dX7_copies_214 (hn _ (by decide)) ?_
      refine V_bipush C (v := nI 30) dX7_copies_216 (by decide +kernel) ?_
      refine V_iload_n C dX7_copies_218 rfl ?_
      refine V_imul C dX7_copies_219 ?_
      refine V_iload_n C dX7_copies_220 rfl ?_
      refine V_iadd C dX7_copies_221 ?_
      refine V_istore C dX7_copies_222 (hn _ (by decide)) ?_
      refine V_aload_n C dX7_copies_224 rfl ?_
      refine V_getR C fl_X7_149 (ob_K hM) (ob_R hM 37 1038 rfl rfl) rfl dX7_copies_225 ?_
      refine V_iload C dX7_copies_228 rfl ?_
      refine V_aload_n C dX7_copies_230 rfl ?_
      refine V_getR C fl_X7_149 (ob_K hM) (ob_R hM 37 1038 rfl rfl) rfl dX7_copies_231 ?_
      refine V_iload C dX7_copies_234 rfl ?_
      refine V_iald C (30 * fr + u) (ob_A hM 37 1038 rfl rfl) (by first | rfl | (simp only [nI_add, pk_mul]; done) | (simp only [nI_add, pk_mul]; congr 1; omega)) (by rw [ob_N hM 37 1038 rfl rfl]; omega) (by rw [ob_N hM 37 1038 rfl rfl]; decide) dX7_copies_236 ?_
      refine V_top (congrArg Value.int r5) ?_
      refine V_iast C (30 * to + u) (ob_A hM 37 1038 rfl rfl) (by first | rfl | (simp only [nI_add, pk_mul]; done) | (simp only [nI_add, pk_mul]; congr 1; omega)) (by rw [ob_N hM 37 1038 rfl rfl]; omega) (by rw [ob_N hM 37 1038 rfl rfl]; decide) dX7_copies_237 ?_
      refine V_aload_n C dX7_copies_238 rfl ?_
      refine V_getR C fl_X7_152 (ob_K hM) (ob_R hM 38 1039 rfl rfl) rfl dX7_copies_239 ?_
      refine V_iload C dX7_copies_242 rfl ?_
      refine V_aload_n C dX7_copies_244 rfl ?_
      refine V_getR C fl_X7_152 (ob_K hM) (ob_R hM 38 1039 rfl rfl) rfl dX7_copies_245 ?_
      refine V_iload C dX7_copies_248 rfl ?_
      refine V_iald C (30 * fr + u) (ob_A hM 38 1039 rfl rfl) (by first | rfl | (simp only [nI_add, pk_mul]; done) | (simp only [nI_add, pk_mul]; congr 1; omega)) (by rw [ob_N hM 38 1039 rfl rfl]; omega) (by rw [ob_N hM 38 1039 rfl rfl]; decide) dX7_copies_250 ?_
      refine V_top (congrArg Value.int r6) ?_
      refine V_iast C (30 * to + u) (ob_A hM 38 1039 rfl rfl) (by first | rfl | (simp only [nI_add, pk_mul]; done) | (simp only [nI_add, pk_mul]; congr 1; omega)) (by rw [ob_N hM 38 1039 rfl rfl]; omega) (by rw [ob_N hM 38 1039 rfl rfl]; decide) dX7_copies_251 ?_
      refine V_aload_n C dX7_copies_252 rfl ?_
      refine V_getR C fl_X7_155 (ob_K hM) (ob_R hM 39 1040 rfl rfl) rfl dX7_copies_253 ?_
      refine V_iload C dX7_copies_256 rfl ?_
      refine V_aload_n C dX7_copies_258 rfl ?_
      refine V_getR C fl_X7_155 (ob_K hM) (ob_R hM 39 1040 rfl rfl) rfl dX7_copies_259 ?_
      refine V_iload C dX7_copies_262 rfl ?_
      refine V_iald C (30 * fr + u) (ob_A hM 39 1040 rfl rfl) (by first | rfl | (simp only [nI_add, pk_mul]; done) | (simp only [nI_add, pk_mul]; congr 1; omega)) (by rw [ob_N hM 39 1040 rfl rfl]; omega) (by rw [ob_N hM 39 1040 rfl rfl]; decide) dX7_copies_264 ?_
      refine V_top (congrArg Value.int r7) ?_
      refine V_iast C (30 * to + u) (ob_A hM 39 1040 rfl rfl) (by first | rfl | (simp only [nI_add, pk_mul]; done) | (simp only [nI_add, pk_mul]; congr 1; omega)) (by rw [ob_N hM 39 1040 rfl rfl]; omega) (by rw [ob_N hM 39 1040 rfl rfl]; decide) dX7_copies_265 ?_
      refine V_aload_n C dX7_copies_266 rfl ?_
      refine V_getR C fl_X7_158 (ob_K hM) (ob_R hM 40 1041 rfl rfl) rfl dX7_copies_267 ?_
      refine V_iload C dX7_copies_270 rfl ?_
      refine V_aload_n C dX7_copies_272 rfl ?_
      refine V_getR C fl_X7_158 (ob_K hM) (ob_R hM 40 1041 rfl rfl) rfl dX7_copies_273 ?_
      refine V_iload C dX7_copies_276 rfl ?_
      refine V_iald C (30 * fr + u) (ob_A hM 40 1041 rfl rfl) (by first | rfl | (simp only [nI_add, pk_mul]; done) | (simp only [nI_add, pk_mul]; congr 1; omega)) (by rw [ob_N hM 40 1041 rfl rfl]; omega) (by rw [ob_N hM 40 1041 rfl rfl]; decide) dX7_copies_278 ?_
      refine V_top (congrArg Value.int r8) ?_
      refine V_iast C (30 * to + u) (ob_A hM 40 1041 rfl rfl) (by first | rfl | (simp only [nI_add, pk_mul]; done) | (simp only [nI_add, pk_mul]; congr 1; omega)) (by rw [ob_N hM 40 1041 rfl rfl]; omega) (by rw [ob_N hM 40 1041 rfl rfl]; decide) dX7_copies_279 ?_
      refine V_aload_n C dX7_copies_280 rfl ?_
      refine V_getR C fl_X7_161 (ob_K hM) (ob_R hM 41 1042 rfl rfl) rfl dX7_copies_281 ?_
      refine V_iload C dX7_copies_284 rfl ?_
      refine V_aload_n C dX7_copies_286 rfl ?_
      refine V_getR C fl_X7_161 (ob_K hM) (ob_R hM 41 1042 rfl rfl) rfl dX7_copies_287 ?_
      refine V_iload C dX7_copies_290 rfl ?_
      refine V_iald C (30 * fr + u) (ob_A hM 41 1042 rfl rfl) (by first | rfl | (simp only [nI_add, pk_mul]; done) | (simp only [nI_add, pk_mul]; congr 1; omega)) (by rw [ob_N hM 41 1042 rfl rfl]; omega) (by rw [ob_N hM 41 1042 rfl rfl]; decide) dX7_copies_292 ?_
      refine V_top (congrArg Value.int r9) ?_
      refine V_iast C (30 * to + u) (ob_A hM 41 1042 rfl rfl) (by first | rfl | (simp only [nI_add, pk_mul]; done) | (simp only [nI_add, pk_mul]; congr 1; omega)) (by rw [ob_N hM 41 1042 rfl rfl]; omega) (by rw [ob_N hM 41 1042 rfl rfl]; decide) dX7_copies_293 ?_
      refine V_aload_n C dX7_copies_294 rfl ?_
      refine V_getR C fl_X7_164 (ob_K hM) (ob_R hM 42 1043 rfl rfl) rfl dX7_copies_295 ?_
      refine V_iload C dX7_copies_298 rfl ?_
      refine V_aload_n C dX7_copies_300 rfl ?_
      refine V_getR C fl_X7_164 (ob_K hM) (ob_R hM 42 1043 rfl rfl) rfl dX7_copies_301 ?_
      refine V_iload C dX7_copies_304 rfl ?_
      refine V_iald C (30 * fr + u) (ob_A hM 42 1043 rfl rfl) (by first | rfl | (simp only [nI_add, pk_mul]; done) | (simp only [nI_add, pk_mul]; congr 1; omega)) (by rw [ob_N hM 42 1043 rfl rfl]; omega) (by rw [ob_N hM 42 1043 rfl rfl]; decide) dX7_copies_306 ?_
      refine V_top (congrArg Value.int r10) ?_
      refine V_iast C (30 * to + u) (ob_A hM 42 1043 rfl rfl) (by first | rfl | (simp only [nI_add, pk_mul]; done) | (simp only [nI_add, pk_mul]; congr 1; omega)) (by rw [ob_N hM 42 1043 rfl rfl]; omega) (by rw [ob_N hM 42 1043 rfl rfl]; decide) dX7_copies_307 ?_
      refine V_iconst C (v := nI 0) dX7_copies_308 (by decide +kernel) ?_
      refine V_istore C dX7_copies_309 (hn _ (by decide)) ?_
      exact inner 12 0 _ rfl ⟨h1, h2, h3, ⟨g5.step (by omega), g6.step (by omega), g7.step (by omega), g8.step (by omega), g9.step (by omega), g10.step (by omega)⟩, h5, fun m hm => (up2_ne _ _ _ (by omega)).trans ((up2_ne _ _ _ (by omega)).trans ((up2_ne _ _ _ (by omega)).trans ((up2_ne _ _ _ (by omega)).trans ((up2_ne _ _ _ (by omega)).trans ((up2_ne _ _ _ (by omega)).trans (h6 m hm))))))⟩
  have loop2 : ∀ (c x : Nat) (In : HI), x + c = 60 → Cp I In to fr 12 x 0 0 → V X P 0 0 166 [some (.ref 1000), some (.int (nI fr)), some (.int (nI to)), some (.int (nI x)), none, none, none] [] S In J2 := by
    intro c
    induction c with
    | zero =>
      intro x In hx h
      have hx : x = 60 := hx
      subst hx
      refine V_iload_n C dX7_copies_166 rfl ?_
      refine V_bipush C (v := nI 60) dX7_copies_167 (by decide +kernel) ?_
      refine V_icmp_ge C 200 dX7_copies_169 (by decide) (fun h169 => ?_) (fun h169 => absurd (by decide) h169)
      refine V_iconst C (v := nI 0) dX7_copies_200 (by decide +kernel) ?_
      refine V_istore_n C dX7_copies_201 (hn _ (by decide)) ?_
      exact loop3 30 0 _ _ _ _ rfl h
    | succ c ih =>
      intro x In hx h
      obtain ⟨h1, h2, h3, h4, h5, h6⟩ := h
      have e := h3.rd hne (show x < 60 by omega)
      refine V_iload_n C dX7_copies_166 rfl ?_
      refine V_bipush C (v := nI 60) dX7_copies_167 (by decide +kernel) ?_
      refine V_icmp_ge C 200 dX7_copies_169 (by decide) (fun h169 => absurd h169 (nI_ge (by omega) (by omega))) (fun h169 => ?_)
      refine V_aload_n C dX7_copies_172 rfl ?_
      refine V_getR C fl_X7_128 (ob_K hM) (ob_R hM 30 1031 rfl rfl) rfl dX7_copies_173 ?_
      refine V_bipush C (v := nI 60) dX7_copies_176 (by decide +kernel) ?_
      refine V_iload_n C dX7_copies_178 rfl ?_
      refine V_imul C dX7_copies_179 ?_
      refine V_iload_n C dX7_copies_180 rfl ?_
      refine V_iadd C dX7_copies_181 ?_
      refine V_aload_n C dX7_copies_182 rfl ?_
      refine V_getR C fl_X7_128 (ob_K hM) (ob_R hM 30 1031 rfl rfl) rfl dX7_copies_183 ?_
      refine V_bipush C (v := nI 60) dX7_copies_186 (by decide +kernel) ?_
      refine V_iload_n C dX7_copies_188 rfl ?_
      refine V_imul C dX7_copies_189 ?_
      refine V_iload_n C dX7_copies_190 rfl ?_
      refine V_iadd C dX7_copies_191 ?_
      refine V_iald C (60 * fr + x) (ob_A hM 30 1031 rfl rfl) (by first | rfl | (simp only [nI_add, pk_mul]; done) | (simp only [nI_add, pk_mul]; congr 1; omega)) (by rw [ob_N hM 30 1031 rfl rfl]; omega) (by rw [ob_N hM 30 1031 rfl rfl]; decide) dX7_copies_192 ?_
      rw [e]
      refine V_iast C (60 * to + x) (ob_A hM 30 1031 rfl rfl) (by first | rfl | (simp only [nI_add, pk_mul]; done) | (simp only [nI_add, pk_mul]; congr 1; omega)) (by rw [ob_N hM 30 1031 rfl rfl]; omega) (by rw [ob_N hM 30 1031 rfl rfl]; decide) dX7_copies_193 ?_
      refine V_iincU C dX7_copies_194 rfl (hn _ (by decide)) ?_
      refine V_goto C 166 dX7_copies_197 (by decide) ?_
      exact ih (x + 1) _ (by omega) ⟨h1, h2, h3.step (by omega), h4, h5, fun m hm => (up2_ne _ _ _ (by omega)).trans (h6 m hm)⟩
  have loop1 : ∀ (c x : Nat) (In : HI), x + c = 12 → Cp I In to fr x 0 0 0 → V X P 0 0 86 [some (.ref 1000), some (.int (nI fr)), some (.int (nI to)), some (.int (nI x)), none, none, none] [] S In J2 := by
    intro c
    induction c with
    | zero =>
      intro x In hx h
      have hx : x = 12 := hx
      subst hx
      refine V_iload_n C dX7_copies_86 rfl ?_
      refine V_bipush C (v := nI 12) dX7_copies_87 (by decide +kernel) ?_
      refine V_icmp_ge C 164 dX7_copies_89 (by decide) (fun h89 => ?_) (fun h89 => absurd (by decide) h89)
      refine V_iconst C (v := nI 0) dX7_copies_164 (by decide +kernel) ?_
      refine V_istore_n C dX7_copies_165 (hn _ (by decide)) ?_
      exact loop2 60 0 _ rfl h
    | succ c ih =>
      intro x In hx h
      obtain ⟨h1, ⟨g1, g2, g3⟩, h3, h4, h5, h6⟩ := h
      have r1 := g1.rd hne (show x < 12 by omega)
      have r2 := g2.rd hne (show x < 12 by omega)
      have r3 := g3.rd hne (show x < 12 by omega)
      refine V_iload_n C dX7_copies_86 rfl ?_
      refine V_bipush C (v := nI 12) dX7_copies_87 (by decide +kernel) ?_
      refine V_icmp_ge C 164 dX7_copies_89 (by decide) (fun h89 => absurd h89 (nI_ge (by omega) (by omega))) (fun h89 => ?_)
      refine V_aload_n C dX7_copies_92 rfl ?_
      refine V_getR C fl_X7_119 (ob_K hM) (ob_R hM 27 1028 rfl rfl) rfl dX7_copies_93 ?_
      refine V_bipush C (v := nI 12) dX7_copies_96 (by decide +kernel) ?_
      refine V_iload_n C dX7_copies_98 rfl ?_
      refine V_imul C dX7_copies_99 ?_
      refine V_iload_n C dX7_copies_100 rfl ?_
      refine V_iadd C dX7_copies_101 ?_
      refine V_aload_n C dX7_copies_102 rfl ?_
      refine V_getR C fl_X7_119 (ob_K hM) (ob_R hM 27 1028 rfl rfl) rfl dX7_copies_103 ?_
      refine V_bipush C (v := nI 12) dX7_copies_106 (by decide +kernel) ?_
      refine V_iload_n C dX7_copies_108 rfl ?_
      refine V_imul C dX7_copies_109 ?_
      refine V_iload_n C dX7_copies_110 rfl ?_
      refine V_iadd C dX7_copies_111 ?_
      refine V_iald C (12 * fr + x) (ob_A hM 27 1028 rfl rfl) (by first | rfl | (simp only [nI_add, pk_mul]; done) | (simp only [nI_add, pk_mul]; congr 1; omega)) (by rw [ob_N hM 27 1028 rfl rfl]; omega) (by rw [ob_N hM 27 1028 rfl rfl]; decide) dX7_copies_112 ?_
      refine V_top (congrArg Value.int r1) ?_
      refine V_iast C (12 * to + x) (ob_A hM 27 1028 rfl rfl) (by first | rfl | (simp only [nI_add, pk_mul]; done) | (simp only [nI_add, pk_mul]; congr 1; omega)) (by rw [ob_N hM 27 1028 rfl rfl]; omega) (by rw [ob_N hM 27 1028 rfl rfl]; decide) dX7_copies_113 ?_
      refine V_aload_n C dX7_copies_114 rfl ?_
      refine V_getR C fl_X7_122 (ob_K hM) (ob_R hM 28 1029 rfl rfl) rfl dX7_copies_115 ?_
      refine V_bipush C (v := nI 12) dX7_copies_118 (by decide +kernel) ?_
      refine V_iload_n C dX7_copies_120 rfl ?_
      refine V_imul C dX7_copies_121 ?_
      refine V_iload_n C dX7_copies_122 rfl ?_
      refine V_iadd C dX7_copies_123 ?_
      refine V_aload_n C dX7_copies_124 rfl ?_
      refine V_getR C fl_X7_122 (ob_K hM) (ob_R hM 28 1029 rfl rfl) rfl dX7_copies_125 ?_
      refine V_bipush C (v := nI 12) dX7_copies_128 (by decide +kernel) ?_
      refine V_iload_n C dX7_copies_130 rfl ?_
      refine V_imul C dX7_copies_131 ?_
      refine V_iload_n C dX7_copies_132 rfl ?_
      refine V_iadd C dX7_copies_133 ?_
      refine V_iald C (12 * fr + x) (ob_A hM 28 1029 rfl rfl) (by first | rfl | (simp only [nI_add, pk_mul]; done) | (simp only [nI_add, pk_mul]; congr 1; omega)) (by rw [ob_N hM 28 1029 rfl rfl]; omega) (by rw [ob_N hM 28 1029 rfl rfl]; decide) dX7_copies_134 ?_
      refine V_top (congrArg Value.int r2) ?_
      refine V_iast C (12 * to + x) (ob_A hM 28 1029 rfl rfl) (by first | rfl | (simp only [nI_add, pk_mul]; done) | (simp only [nI_add, pk_mul]; congr 1; omega)) (by rw [ob_N hM 28 1029 rfl rfl]; omega) (by rw [ob_N hM 28 1029 rfl rfl]; decide) dX7_copies_135 ?_
      refine V_aload_n C dX7_copies_136 rfl ?_
      refine V_getR C fl_X7_125 (ob_K hM) (ob_R hM 29 1030 rfl rfl) rfl dX7_copies_137 ?_
      refine V_bipush C (v := nI 12) dX7_copies_140 (by decide +kernel) ?_
      refine V_iload_n C dX7_copies_142 rfl ?_
      refine V_imul C dX7_copies_143 ?_
      refine V_iload_n C dX7_copies_144 rfl ?_
      refine V_iadd C dX7_copies_145 ?_
      refine V_aload_n C dX7_copies_146 rfl ?_
      refine V_getR C fl_X7_125 (ob_K hM) (ob_R hM 29 1030 rfl rfl) rfl dX7_copies_147 ?_
      refine V_bipush C (v := nI 12) dX7_copies_150 (by decide +kernel) ?_
      refine V_iload_n C dX7_copies_152 rfl ?_
      refine V_imul C dX7_copies_153 ?_
      refine V_iload_n C dX7_copies_154 rfl ?_
      refine V_iadd C dX7_copies_155 ?_
      refine V_iald C (12 * fr + x) (ob_A hM 29 1030 rfl rfl) (by first | rfl | (simp only [nI_add, pk_mul]; done) | (simp only [nI_add, pk_mul]; congr 1; omega)) (by rw [ob_N hM 29 1030 rfl rfl]; omega) (by rw [ob_N hM 29 1030 rfl rfl]; decide) dX7_copies_156 ?_
      refine V_top (congrArg Value.int r3) ?_
      refine V_iast C (12 * to + x) (ob_A hM 29 1030 rfl rfl) (by first | rfl | (simp only [nI_add, pk_mul]; done) | (simp only [nI_add, pk_mul]; congr 1; omega)) (by rw [ob_N hM 29 1030 rfl rfl]; omega) (by rw [ob_N hM 29 1030 rfl rfl]; decide) dX7_copies_157 ?_
      refine V_iincU C dX7_copies_158 rfl (hn _ (by decide)) ?_
      refine V_goto C 86 dX7_copies_161 (by decide) ?_
      exact ih (x + 1) _ (by omega) ⟨h1, ⟨g1.step (by omega), g2.step (by omega), g3.step (by omega)⟩, h3, h4, h5, fun m hm => (up2_ne _ _ _ (by omega)).trans ((up2_ne _ _ _ (by omega)).trans ((up2_ne _ _ _ (by omega)).trans (h6 m hm)))⟩
  refine V_aload_n C dX7_copies_0 rfl ?_
  refine V_getR C fl_X7_116 (ob_K hM) (ob_R hM 26 1027 rfl rfl) rfl dX7_copies_1 ?_
  refine V_iload_n C dX7_copies_4 rfl ?_
  refine V_aload_n C dX7_copies_5 rfl ?_
  refine V_getR C fl_X7_116 (ob_K hM) (ob_R hM 26 1027 rfl rfl) rfl dX7_copies_6 ?_
  refine V_iload_n C dX7_copies_9 rfl ?_
  refine V_iald C (fr) (ob_A hM 26 1027 rfl rfl) (by first | rfl | (simp only [nI_add, pk_mul]; done) | (simp only [nI_add, pk_mul]; congr 1; omega)) (by rw [ob_N hM 26 1027 rfl rfl]; omega) (by rw [ob_N hM 26 1027 rfl rfl]; decide) dX7_copies_10 ?_
  refine V_iast C (to) (ob_A hM 26 1027 rfl rfl) (by first | rfl | (simp only [nI_add, pk_mul]; done) | (simp only [nI_add, pk_mul]; congr 1; omega)) (by rw [ob_N hM 26 1027 rfl rfl]; omega) (by rw [ob_N hM 26 1027 rfl rfl]; decide) dX7_copies_11 ?_
  refine V_aload_n C dX7_copies_12 rfl ?_
  refine V_getR C fl_X7_131 (ob_K hM) (ob_R hM 31 1032 rfl rfl) rfl dX7_copies_13 ?_
  refine V_iload_n C dX7_copies_16 rfl ?_
  refine V_aload_n C dX7_copies_17 rfl ?_
  refine V_getR C fl_X7_131 (ob_K hM) (ob_R hM 31 1032 rfl rfl) rfl dX7_copies_18 ?_
  refine V_iload_n C dX7_copies_21 rfl ?_
  refine V_iald C (fr) (ob_A hM 31 1032 rfl rfl) (by first | rfl | (simp only [nI_add, pk_mul]; done) | (simp only [nI_add, pk_mul]; congr 1; omega)) (by rw [ob_N hM 31 1032 rfl rfl]; omega) (by rw [ob_N hM 31 1032 rfl rfl]; decide) dX7_copies_22 ?_
  refine V_iast C (to) (ob_A hM 31 1032 rfl rfl) (by first | rfl | (simp only [nI_add, pk_mul]; done) | (simp only [nI_add, pk_mul]; congr 1; omega)) (by rw [ob_N hM 31 1032 rfl rfl]; omega) (by rw [ob_N hM 31 1032 rfl rfl]; decide) dX7_copies_23 ?_
  refine V_aload_n C dX7_copies_24 rfl ?_
  refine V_getR C fl_X7_134 (ob_K hM) (ob_R hM 32 1033 rfl rfl) rfl dX7_copies_25 ?_
  refine V_iload_n C dX7_copies_28 rfl ?_
  refine V_aload_n C dX7_copies_29 rfl ?_
  refine V_getR C fl_X7_134 (ob_K hM) (ob_R hM 32 1033 rfl rfl) rfl dX7_copies_30 ?_
  refine V_iload_n C dX7_copies_33 rfl ?_
  refine V_iald C (fr) (ob_A hM 32 1033 rfl rfl) (by first | rfl | (simp only [nI_add, pk_mul]; done) | (simp only [nI_add, pk_mul]; congr 1; omega)) (by rw [ob_N hM 32 1033 rfl rfl]; omega) (by rw [ob_N hM 32 1033 rfl rfl]; decide) dX7_copies_34 ?_
  refine V_iast C (to) (ob_A hM 32 1033 rfl rfl) (by first | rfl | (simp only [nI_add, pk_mul]; done) | (simp only [nI_add, pk_mul]; congr 1; omega)) (by rw [ob_N hM 32 1033 rfl rfl]; omega) (by rw [ob_N hM 32 1033 rfl rfl]; decide) dX7_copies_35 ?_
  refine V_aload_n C dX7_copies_36 rfl ?_
  refine V_getR C fl_X7_137 (ob_K hM) (ob_R hM 33 1034 rfl rfl) rfl dX7_copies_37 ?_
  refine V_iload_n C dX7_copies_40 rfl ?_
  refine V_aload_n C dX7_copies_41 rfl ?_
  refine V_getR C fl_X7_137 (ob_K hM) (ob_R hM 33 1034 rfl rfl) rfl dX7_copies_42 ?_
  refine V_iload_n C dX7_copies_45 rfl ?_
  refine V_iald C (fr) (ob_A hM 33 1034 rfl rfl) (by first | rfl | (simp only [nI_add, pk_mul]; done) | (simp only [nI_add, pk_mul]; congr 1; omega)) (by rw [ob_N hM 33 1034 rfl rfl]; omega) (by rw [ob_N hM 33 1034 rfl rfl]; decide) dX7_copies_46 ?_
  refine V_iast C (to) (ob_A hM 33 1034 rfl rfl) (by first | rfl | (simp only [nI_add, pk_mul]; done) | (simp only [nI_add, pk_mul]; congr 1; omega)) (by rw [ob_N hM 33 1034 rfl rfl]; omega) (by rw [ob_N hM 33 1034 rfl rfl]; decide) dX7_copies_47 ?_
  refine V_aload_n C dX7_copies_48 rfl ?_
  refine V_getR C fl_X7_140 (ob_K hM) (ob_R hM 34 1035 rfl rfl) rfl dX7_copies_49 ?_
  refine V_iload_n C dX7_copies_52 rfl ?_
  refine V_aload_n C dX7_copies_53 rfl ?_
  refine V_getR C fl_X7_140 (ob_K hM) (ob_R hM 34 1035 rfl rfl) rfl dX7_copies_54 ?_
  refine V_iload_n C dX7_copies_57 rfl ?_
  refine V_lald C (fr) (ob_A hM 34 1035 rfl rfl) (by first | rfl | (simp only [nI_add, pk_mul]; done) | (simp only [nI_add, pk_mul]; congr 1; omega)) (by rw [ob_N hM 34 1035 rfl rfl]; omega) (by rw [ob_N hM 34 1035 rfl rfl]; decide) dX7_copies_58 ?_
  refine V_last C (to) (ob_A hM 34 1035 rfl rfl) (by first | rfl | (simp only [nI_add, pk_mul]; done) | (simp only [nI_add, pk_mul]; congr 1; omega)) (by rw [ob_N hM 34 1035 rfl rfl]; omega) (by rw [ob_N hM 34 1035 rfl rfl]; decide) dX7_copies_59 ?_
  refine V_aload_n C dX7_copies_60 rfl ?_
  refine V_getR C fl_X7_143 (ob_K hM) (ob_R hM 35 1036 rfl rfl) rfl dX7_copies_61 ?_
  refine V_iload_n C dX7_copies_64 rfl ?_
  refine V_aload_n C dX7_copies_65 rfl ?_
  refine V_getR C fl_X7_143 (ob_K hM) (ob_R hM 35 1036 rfl rfl) rfl dX7_copies_66 ?_
  refine V_iload_n C dX7_copies_69 rfl ?_
  refine V_lald C (fr) (ob_A hM 35 1036 rfl rfl) (by first | rfl | (simp only [nI_add, pk_mul]; done) | (simp only [nI_add, pk_mul]; congr 1; omega)) (by rw [ob_N hM 35 1036 rfl rfl]; omega) (by rw [ob_N hM 35 1036 rfl rfl]; decide) dX7_copies_70 ?_
  refine V_last C (to) (ob_A hM 35 1036 rfl rfl) (by first | rfl | (simp only [nI_add, pk_mul]; done) | (simp only [nI_add, pk_mul]; congr 1; omega)) (by rw [ob_N hM 35 1036 rfl rfl]; omega) (by rw [ob_N hM 35 1036 rfl rfl]; decide) dX7_copies_71 ?_
  refine V_aload_n C dX7_copies_72 rfl ?_
  refine V_getR C fl_X7_146 (ob_K hM) (ob_R hM 36 1037 rfl rfl) rfl dX7_copies_73 ?_
  refine V_iload_n C dX7_copies_76 rfl ?_
  refine V_aload_n C dX7_copies_77 rfl ?_
  refine V_getR C fl_X7_146 (ob_K hM) (ob_R hM 36 1037 rfl rfl) rfl dX7_copies_78 ?_
  refine V_iload_n C dX7_copies_81 rfl ?_
  refine V_iald C (fr) (ob_A hM 36 1037 rfl rfl) (by first | rfl | (simp only [nI_add, pk_mul]; done) | (simp only [nI_add, pk_mul]; congr 1; omega)) (by rw [ob_N hM 36 1037 rfl rfl]; omega) (by rw [ob_N hM 36 1037 rfl rfl]; decide) dX7_copies_82 ?_
  refine V_iast C (to) (ob_A hM 36 1037 rfl rfl) (by first | rfl | (simp only [nI_add, pk_mul]; done) | (simp only [nI_add, pk_mul]; congr 1; omega)) (by rw [ob_N hM 36 1037 rfl rfl]; omega) (by rw [ob_N hM 36 1037 rfl rfl]; decide) dX7_copies_83 ?_
  refine V_iconst C (v := nI 0) dX7_copies_84 (by decide +kernel) ?_
  refine V_istore_n C dX7_copies_85 (hn _ (by decide)) ?_
  refine V_mem rfl hJ2 ?_
  exact loop1 12 0 _ rfl ⟨⟨rfl, rfl, rfl, rfl, rfl⟩, ⟨seg.re, seg.re, seg.re⟩, seg.re, ⟨seg.re, seg.re, seg.re, seg.re, seg.re, seg.re⟩, seg.re, fun m hm => (up2_ne _ _ _ (by omega)).trans ((up2_ne _ _ _ (by omega)).trans ((up2_ne _ _ _ (by omega)).trans ((up2_ne _ _ _ (by omega)).trans (up2_ne _ _ _ (by omega)))))⟩
end M14
