/-! the class's parser: signs, room for laws -/
section C29
variable {l : Launch} {S : HS} {I : HI} {J : HJ}
set_option maxRecDepth 100000 in
theorem c_signAt (hM : Ob S 5 1120) {T : List Int32} (hT : tpK I T) (h1000 : T.length ≤ 1000) {n : Nat} (hn31 : n < 2 ^ 31) : Mn l yX5_signAt cX5_signAt 2 (some .int) 1 [.ref 1120, .int (nI n)] S I J (fun v I' J' => v = some (.int (T.getD n 0)) ∧ I' = I ∧ J' = J) := by
  refine Mn.of (by decide) (fun ad => by simp [lg_sl, vv, Value.category]) (fun X P hP hn C => ?_)
  obtain ⟨t1, t2⟩ := hT
  by_cases hl : n < T.length
  · have e := t2 n hl
    refine V_iconst C (v := nI 0) dX5_signAt_0 (by decide +kernel) ?_
    refine V_iload_n C dX5_signAt_1 rfl ?_
    refine V_icmp_gt C 22 dX5_signAt_2 (by decide) (fun h2 => absurd h2 (Int32.not_lt.mpr (nI_le (by omega) hn31))) (fun h2 => ?_)
    refine V_iload_n C dX5_signAt_5 rfl ?_
    refine V_aload_n C dX5_signAt_6 rfl ?_
    refine V_getI C fl_X5_15 (ob_K hM) rfl dX5_signAt_7 ?_
    refine V_icmp_ge C 22 dX5_signAt_10 (by decide) (fun h10 => absurd h10 (by rw [t1]; exact Int32.not_le.mpr (nI_lt hl (by omega)))) (fun h10 => ?_)
    refine V_aload_n C dX5_signAt_13 rfl ?_
    refine V_getR C fl_X5_9 (ob_K hM) (ob_R hM 1 1122 rfl rfl) rfl dX5_signAt_14 ?_
    refine V_iload_n C dX5_signAt_17 rfl ?_
    refine V_cald C (n) (ob_A hM 1 1122 rfl rfl) (by first | rfl | (simp only [nI_add, pk_mul]; done) | (simp only [nI_add, pk_mul]; congr 1; omega)) (by rw [ob_N hM 1 1122 rfl rfl]; omega) (by rw [ob_N hM 1 1122 rfl rfl]; decide) dX5_signAt_18 ?_
    refine V_goto C 23 dX5_signAt_19 (by decide) ?_
    exact V_iret C (Nat.zero_le _) (Nat.zero_le _) dX5_signAt_23 (hP _ _ _ ⟨by rw [e], rfl, rfl⟩)
  · have e : T.getD n 0 = 0 := by simp [List.getD, show T.length ≤ n by omega]
    refine V_iconst C (v := nI 0) dX5_signAt_0 (by decide +kernel) ?_
    refine V_iload_n C dX5_signAt_1 rfl ?_
    refine V_icmp_gt C 22 dX5_signAt_2 (by decide) (fun h2 => absurd h2 (Int32.not_lt.mpr (nI_le (by omega) hn31))) (fun h2 => ?_)
    refine V_iload_n C dX5_signAt_5 rfl ?_
    refine V_aload_n C dX5_signAt_6 rfl ?_
    refine V_getI C fl_X5_15 (ob_K hM) rfl dX5_signAt_7 ?_
    refine V_icmp_ge C 22 dX5_signAt_10 (by decide) (fun h10 => ?_) (fun h10 => absurd (by rw [t1]; exact nI_le (by omega) hn31) h10)
    refine V_iconst C (v := nI 0) dX5_signAt_22 (by decide +kernel) ?_
    exact V_iret C (Nat.zero_le _) (Nat.zero_le _) dX5_signAt_23 (hP _ _ _ ⟨by rw [e]; rfl, rfl, rfl⟩)
set_option maxRecDepth 100000 in
theorem c_isFull {a : Nat} (hL : Ob S 2 a) {L : List Law} (hC : CL I a L) : Mn l yX2_isFull cX2_isFull 1 (some .boolean) 0 [.ref a] S I J (fun v I' J' => v = some (.int (bI (L.length = 24))) ∧ I' = I ∧ J' = J) := by
  refine Mn.of (by decide) (fun ad => by simp [lg_sl, vv, Value.category]) (fun X P hP hn C => ?_)
  have e0 : I a 0 = nI L.length := hC.1
  have h24 := hC.2.2.2.1
  by_cases h : L.length = 24
  · refine V_aload_n C dX2_isFull_0 rfl ?_
    refine V_getI C fl_X2_42 (ob_K hL) rfl dX2_isFull_1 ?_
    refine V_bipush C (v := nI 24) dX2_isFull_4 (by decide +kernel) ?_
    refine V_icmp_lt C 13 dX2_isFull_6 (by decide) (fun h6 => absurd h6 (by rw [e0, h]; decide)) (fun h6 => ?_)
    refine V_iconst C (v := nI 1) dX2_isFull_9 (by decide +kernel) ?_
    refine V_goto C 14 dX2_isFull_10 (by decide) ?_
    exact V_zret C (by first | exact Or.inl rfl | exact Or.inr rfl | (simp only [bI]; split <;> first | exact Or.inl rfl | exact Or.inr rfl) | assumption) (Nat.zero_le _) (Nat.zero_le _) dX2_isFull_14 (hP _ _ _ ⟨by rw [bI_t h]; rfl, rfl, rfl⟩)
  · refine V_aload_n C dX2_isFull_0 rfl ?_
    refine V_getI C fl_X2_42 (ob_K hL) rfl dX2_isFull_1 ?_
    refine V_bipush C (v := nI 24) dX2_isFull_4 (by decide +kernel) ?_
    refine V_icmp_lt C 13 dX2_isFull_6 (by decide) (fun h6 => ?_) (fun h6 => absurd (by rw [e0]; exact nI_lt (by omega) (by omega)) h6)
    refine V_iconst C (v := nI 0) dX2_isFull_13 (by decide +kernel) ?_
    exact V_zret C (by first | exact Or.inl rfl | exact Or.inr rfl | (simp only [bI]; split <;> first | exact Or.inl rfl | exact Or.inr rfl) | assumption) (Nat.zero_le _) (Nat.zero_le _) dX2_isFull_14 (hP _ _ _ ⟨by rw [bI_f h]; rfl, rfl, rfl⟩)
end C29
