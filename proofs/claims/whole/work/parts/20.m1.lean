/-! the reference: small methods. The model has key 1000 -/
section M1
variable {l : Launch} {S : HS} {I : HI} {J : HJ}
def bI (c : Prop) [Decidable c] : Int32 := if c then 1 else 0
theorem bI_t {c : Prop} [Decidable c] (h : c) : bI c = 1 := if_pos h
theorem bI_f {c : Prop} [Decidable c] (h : ¬ c) : bI c = 0 := if_neg h
set_option maxRecDepth 100000 in
theorem m_within (a b c : Int32) : Mn l yX7_within cX7_within 3 (some .boolean) 0 [.int a, .int b, .int c] S I J (fun v I' J' => v = some (.int (bI (b ≤ a ∧ a ≤ c))) ∧ I' = I ∧ J' = J) := by
  refine Mn.of (by decide) (fun ad => by simp [lg_sl, vv, Value.category]) (fun X P hP hn C => ?_)
  refine V_iload_n C dX7_within_0 rfl ?_
  refine V_iload_n C dX7_within_1 rfl ?_
  -- at 2: .if_icmp .lt 12 [None, None]
  refine V_icmp_lt C 14 dX7_within_2 (by decide) (fun h => ?_) (fun h => ?_)
  · refine V_iconst C (v := nI 0) dX7_within_14 (by decide +kernel) ?_
    -- at 15: .ireturn [None]
    exact V_zret C (by first | exact Or.inl rfl | exact Or.inr rfl | assumption) (Nat.zero_le _) (Nat.zero_le _) dX7_within_15 (hP _ _ _ ⟨by rw [bI_f (fun q => absurd h (Int32.not_lt.mpr q.1))]; rfl, rfl, rfl⟩)
  · refine V_iload_n C dX7_within_5 rfl ?_
    refine V_iload_n C dX7_within_6 rfl ?_
    -- at 7: .if_icmp .gt 7 [None, None]
    refine V_icmp_gt C 14 dX7_within_7 (by decide) (fun g => ?_) (fun g => ?_)
    · refine V_iconst C (v := nI 0) dX7_within_14 (by decide +kernel) ?_
      -- at 15: .ireturn [None]
      exact V_zret C (by first | exact Or.inl rfl | exact Or.inr rfl | assumption) (Nat.zero_le _) (Nat.zero_le _) dX7_within_15 (hP _ _ _ ⟨by rw [bI_f (fun q => absurd g (Int32.not_lt.mpr q.2))]; rfl, rfl, rfl⟩)
    · refine V_iconst C (v := nI 1) dX7_within_10 (by decide +kernel) ?_
      refine V_goto C 15 dX7_within_11 (by decide) ?_
      -- at 15: .ireturn [None]
      exact V_zret C (by first | exact Or.inl rfl | exact Or.inr rfl | assumption) (Nat.zero_le _) (Nat.zero_le _) dX7_within_15 (hP _ _ _ ⟨by rw [bI_t ⟨Int32.not_lt.mp h, Int32.not_lt.mp g⟩]; rfl, rfl, rfl⟩)
set_option maxRecDepth 100000 in
theorem m_part (a b : Int32) : Mn l yX7_part cX7_part 2 (some .int) 0 [.int a, .int b] S I J (fun v I' J' => v = some (.int (a.toInt64 * b.toInt64 / 100).toInt32) ∧ I' = I ∧ J' = J) := by
  refine Mn.of (by decide) (fun ad => by simp [lg_sl, vv, Value.category]) (fun X P hP hn C => ?_)
  refine V_iload_n C dX7_part_0 rfl ?_
  refine V_i2l C dX7_part_1 ?_
  refine V_iload_n C dX7_part_2 rfl ?_
  refine V_i2l C dX7_part_3 ?_
  refine V_lmul C dX7_part_4 ?_
  refine V_ldc2 C dX7_part_5 kl_X7_353 ?_
  refine V_ldiv C dX7_part_8 (by decide) ?_
  refine V_l2i C dX7_part_9 ?_
  -- at 10: .ireturn [None]
  exact V_iret C (Nat.zero_le _) (Nat.zero_le _) dX7_part_10 (hP _ _ _ ⟨rfl, rfl, rfl⟩)
set_option maxRecDepth 100000 in
theorem m_allDust (hM : Ob S 7 1000) {b r : Nat} (hb : b < 8) (hr : r < 12) : Mn l yX7_allDust cX7_allDust 5 (some .int) 0 [.ref 1000, .int (nI b), .int (nI r)] S I J (fun v I' J' => v = some (.int (iSum (I 1031) (60 * b + 5 * r) 5)) ∧ I' = I ∧ J' = J) := by
  refine Mn.of (by decide) (fun ad => by simp [lg_sl, vv, Value.category]) (fun X P hP hn C => ?_)
  refine V_iconst C (v := nI 0) dX7_allDust_0 (by decide +kernel) ?_
  refine V_istore_n C dX7_allDust_1 (hn _ (by decide)) ?_
  refine V_iconst C (v := nI 0) dX7_allDust_2 (by decide +kernel) ?_
  refine V_istore C dX7_allDust_3 (hn _ (by decide)) ?_
  have loop : ∀ n i : Nat, n + i = 5 → V X P 0 0 5 [some (.ref 1000), some (.int (nI b)), some (.int (nI r)), some (.int (iSum (I 1031) (60 * b + 5 * r) i)), some (.int (nI i))] [] S I J := by
    intro n
    induction n with
    | zero =>
      intro i hi
      obtain rfl : i = 5 := by omega
      refine V_iload C dX7_allDust_5 rfl ?_
      refine V_iconst C (v := nI 5) dX7_allDust_7 (by decide +kernel) ?_
      -- at 8: .if_icmp .ge 28 [None, None]
      refine V_icmp_ge C 36 dX7_allDust_8 (by decide) (fun h => ?_) (fun h => ?_)
      · refine V_iload_n C dX7_allDust_36 rfl ?_
        -- at 37: .ireturn [None]
        exact V_iret C (Nat.zero_le _) (Nat.zero_le _) dX7_allDust_37 (hP _ _ _ ⟨rfl, rfl, rfl⟩)
      · exact absurd (by decide) h
    | succ n ih =>
      intro i hi
      refine V_iload C dX7_allDust_5 rfl ?_
      refine V_iconst C (v := nI 5) dX7_allDust_7 (by decide +kernel) ?_
      -- at 8: .if_icmp .ge 28 [None, None]
      refine V_icmp_ge C 36 dX7_allDust_8 (by decide) (fun h => ?_) (fun h => ?_)
      · exact absurd h (nI_ge (by omega) (by omega))
      · refine V_iload_n C dX7_allDust_11 rfl ?_
        refine V_aload_n C dX7_allDust_12 rfl ?_
        refine V_getR C fl_X7_128 (ob_K hM) (ob_R hM 30 1031 rfl rfl) rfl dX7_allDust_13 ?_
        refine V_bipush C (v := nI 60) dX7_allDust_16 (by decide +kernel) ?_
        refine V_iload_n C dX7_allDust_18 rfl ?_
        refine V_imul C dX7_allDust_19 ?_
        refine V_iconst C (v := nI 5) dX7_allDust_20 (by decide +kernel) ?_
        refine V_iload_n C dX7_allDust_21 rfl ?_
        refine V_imul C dX7_allDust_22 ?_
        refine V_iadd C dX7_allDust_23 ?_
        refine V_iload C dX7_allDust_24 rfl ?_
        refine V_iadd C dX7_allDust_26 ?_
        refine V_iald C (60 * b + 5 * r + i) (ob_A hM 30 1031 rfl rfl) (by first | rfl | (simp only [nI_add, pk_mul]; done) | (simp only [nI_add, pk_mul]; congr 1; omega)) (by rw [ob_N hM 30 1031 rfl rfl]; omega) (by rw [ob_N hM 30 1031 rfl rfl]; decide) dX7_allDust_27 ?_
        refine V_iadd C dX7_allDust_28 ?_
        refine V_istore_n C dX7_allDust_29 (hn _ (by decide)) ?_
        refine V_iincU C dX7_allDust_30 rfl (hn _ (by decide)) ?_
        refine V_goto C 5 dX7_allDust_33 (by decide) ?_
        exact ih (i + 1) (by omega)
  exact loop 5 0 rfl
end M1
