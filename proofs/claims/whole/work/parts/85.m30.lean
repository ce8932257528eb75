/-! the reference's constructor -/
theorem sk_0_1 : ∀ x, 0 ≤ x → x < 1 → arrOf 7 x = none := by
  intro x h1 h2
  have h3 : ∀ x, x < 1 → 0 ≤ x → arrOf 7 x = none := by decide
  exact h3 x h2 h1
theorem sk_2_4 : ∀ x, 2 ≤ x → x < 4 → arrOf 7 x = none := by
  intro x h1 h2
  have h3 : ∀ x, x < 4 → 2 ≤ x → arrOf 7 x = none := by decide
  exact h3 x h2 h1
theorem sk_7_9 : ∀ x, 7 ≤ x → x < 9 → arrOf 7 x = none := by
  intro x h1 h2
  have h3 : ∀ x, x < 9 → 7 ≤ x → arrOf 7 x = none := by decide
  exact h3 x h2 h1
theorem sk_10_12 : ∀ x, 10 ≤ x → x < 12 → arrOf 7 x = none := by
  intro x h1 h2
  have h3 : ∀ x, x < 12 → 10 ≤ x → arrOf 7 x = none := by decide
  exact h3 x h2 h1
theorem sk_19_20 : ∀ x, 19 ≤ x → x < 20 → arrOf 7 x = none := by
  intro x h1 h2
  have h3 : ∀ x, x < 20 → 19 ≤ x → arrOf 7 x = none := by decide
  exact h3 x h2 h1
theorem sk_24_26 : ∀ x, 24 ≤ x → x < 26 → arrOf 7 x = none := by
  intro x h1 h2
  have h3 : ∀ x, x < 26 → 24 ≤ x → arrOf 7 x = none := by decide
  exact h3 x h2 h1
theorem sk_44_46 : ∀ x, 44 ≤ x → x < 46 → arrOf 7 x = none := by
  intro x h1 h2
  have h3 : ∀ x, x < 46 → 44 ≤ x → arrOf 7 x = none := by decide
  exact h3 x h2 h1
theorem sk_48_49 : ∀ x, 48 ≤ x → x < 49 → arrOf 7 x = none := by
  intro x h1 h2
  have h3 : ∀ x, x < 49 → 48 ≤ x → arrOf 7 x = none := by decide
  exact h3 x h2 h1
theorem nwS_n {S : HS} {k kd n a : Nat} (h : a ≠ k) : (nwS S k kd n).1 a = S.1 a := va_up_ne _ _ h
theorem clD_0 {I : HI} {J : HJ} (h : ∀ a, 1027 ≤ a → a ≤ 1044 → a ≠ 1035 → a ≠ 1036 → I a = fun _ => 0) (b : Nat) : refD I J b = fun _ _ => 0 := by
  funext c k
  unfold refD
  rw [h 1027 (by omega) (by omega) (by omega) (by omega), h 1034 (by omega) (by omega) (by omega) (by omega), h 1032 (by omega) (by omega) (by omega) (by omega), h 1033 (by omega) (by omega) (by omega) (by omega), h 1037 (by omega) (by omega) (by omega) (by omega), h 1028 (by omega) (by omega) (by omega) (by omega), h 1029 (by omega) (by omega) (by omega) (by omega), h 1030 (by omega) (by omega) (by omega) (by omega), h 1031 (by omega) (by omega) (by omega) (by omega)]
  split
  · split <;> rfl
  all_goals first | rfl | (split <;> rfl) | (rw [if_neg (by show ¬ k < 0; omega)]) | (rw [if_neg (by show ¬ k < 12 * 0; omega)])
section M30
variable {l : Launch} {S : HS} {I : HI} {J : HJ}
set_option maxRecDepth 100000 in
set_option maxHeartbeats 4000000 in
/-- all rows are made; what comes then is shown to P -/
theorem m_init0 (hK : S.1 1000 = 8) (hf : ∀ c, 1000 < c → c < 1053 → S.1 c = 0) (hw : wfS S) {X : VX} {P : Option Value → HS → HI → HJ → Prop} (nF' : ∀ c, 1000 < c → c < 1053 → ¬ xF X c) (C : Cx X cX7_init yX7_init none (rmc 2 39 15024)) (kk : ∀ S' I' J', Bd 7 1000 S I J 52 S' I' J' → (∀ i, i < 23 → J' 1010 i = wdV.getD i 0) → V X P 39 15024 484 (lvs 1 [.ref 1000]) [] S' I' J') : V X P 0 0 0 (lvs 1 [.ref 1000]) [] S I J := by
  have nF : ∀ c, 1000 < c → c < 1000 + 1 + nf 7 → ¬ xF X c := fun c h1 h2 => nF' c h1 h2
  have b0 : Bd 7 1000 S I J 0 S I J := Bd.z hK hw (fun c h1 h2 => hf c h1 h2)
  refine V_aload_n C dX7_init_0 rfl ?_
  refine V_objInit C ml_X7_18 (by decide) (by decide) dX7_init_1 ?_
  refine V_aload_n C dX7_init_4 rfl ?_
  refine V_sipush C (v := nI 1000) dX7_init_5 rfl ?_
  have b0 := b0.skip (m := 1) (by omega) (sk_0_1)
  refine V_bdI C b0 (ln := 1000) rfl (by decide) lv_a1 nF rfl (by omega) (by decide) (by decide) dX7_init_8 fl_X7_14 rfl rfl rfl rfl dX7_init_10 (fun S1 I1 J1 b1 j1 => ?_)
  refine V_aload_n C dX7_init_13 rfl ?_
  refine V_sipush C (v := nI 1002) dX7_init_14 rfl ?_
  have b1 := b1.skip (m := 4) (by omega) (sk_2_4)
  refine V_bdI C b1 (ln := 1002) rfl (by decide) lv_a1 nF rfl (by omega) (by decide) (by decide) dX7_init_17 fl_X7_24 rfl rfl rfl rfl dX7_init_19 (fun S2 I2 J2 b2 j2 => ?_)
  refine V_aload_n C dX7_init_22 rfl ?_
  refine V_sipush C (v := nI 1002) dX7_init_23 rfl ?_
  refine V_bdI C b2 (ln := 1002) rfl (by decide) lv_a1 nF rfl (by omega) (by decide) (by decide) dX7_init_26 fl_X7_27 rfl rfl rfl rfl dX7_init_28 (fun S3 I3 J3 b3 j3 => ?_)
  refine V_aload_n C dX7_init_31 rfl ?_
  refine V_sipush C (v := nI 1002) dX7_init_32 rfl ?_
  refine V_bdL C b3 (ln := 1002) rfl (by decide) lv_a1 nF rfl (by omega) (by decide) (by decide) dX7_init_35 fl_X7_30 rfl rfl rfl rfl dX7_init_37 (fun S4 I4 J4 b4 j4 => ?_)
  refine V_aload_n C dX7_init_40 rfl ?_
  refine V_bipush C (v := nI 23) dX7_init_41 rfl ?_
  have b4 := b4.skip (m := 9) (by omega) (sk_7_9)
  have h1010 : S4.1 1010 = 0 := b4.2.2.1 1010 (by omega) (by decide)
  refine V_newL C 1010 ka_L (n := 23) rfl (by omega) h1010 b4.2.1 (nF _ (by omega) (by decide)) (fun v hv => by rw [lv_a1 v hv]; show 1000 ≠ 1010; omega) (fun v hv => by rw [List.mem_singleton] at hv; rw [hv]; show 1000 ≠ 1010; omega) (by decide) (by decide) dX7_init_43 ?_
  have bw := b4.row (kd := 11) (ln := 23) rfl (by decide) (by decide)
  have k10 : (nwS S4 1010 11 23).1 1010 = 11 := nwS_1
  have n10 : (nwS S4 1010 11 23).2.1 1010 = 23 := nwS_l
  refine V_dup C dX7_init_45 rfl ?_
  refine V_iconst C (v := nI 0) dX7_init_46 rfl ?_
  refine V_ldc2 C dX7_init_47 kl_X7_34 ?_
  refine V_last C 0 k10 rfl (by rw [n10]; decide) (by rw [n10]; decide) dX7_init_50 ?_
  refine V_dup C dX7_init_51 rfl ?_
  refine V_iconst C (v := nI 1) dX7_init_52 rfl ?_
  refine V_ldc2 C dX7_init_53 kl_X7_36 ?_
  refine V_last C 1 k10 rfl (by rw [n10]; decide) (by rw [n10]; decide) dX7_init_56 ?_
  refine V_dup C dX7_init_57 rfl ?_
  refine V_iconst C (v := nI 2) dX7_init_58 rfl ?_
  refine V_ldc2 C dX7_init_59 kl_X7_38 ?_
  refine V_last C 2 k10 rfl (by rw [n10]; decide) (by rw [n10]; decide) dX7_init_62 ?_
  refine V_dup C dX7_init_63 rfl ?_
  refine V_iconst C (v := nI 3) dX7_init_64 rfl ?_
  refine V_ldc2 C dX7_init_65 kl_X7_40 ?_
  refine V_last C 3 k10 rfl (by rw [n10]; decide) (by rw [n10]; decide) dX7_init_68 ?_
  refine V_dup C dX7_init_69 rfl ?_
  refine V_iconst C (v := nI 4) dX7_init_70 rfl ?_
  refine V_ldc2 C dX7_init_71 kl_X7_42 ?_
  refine V_last C 4 k10 rfl (by rw [n10]; decide) (by rw [n10]; decide) dX7_init_74 ?_
  refine V_dup C dX7_init_75 rfl ?_
  refine V_iconst C (v := nI 5) dX7_init_76 rfl ?_
  refine V_ldc2 C dX7_init_77 kl_X7_44 ?_
  refine V_last C 5 k10 rfl (by rw [n10]; decide) (by rw [n10]; decide) dX7_init_80 ?_
  refine V_dup C dX7_init_81 rfl ?_
  refine V_bipush C (v := nI 6) dX7_init_82 rfl ?_
  refine V_ldc2 C dX7_init_84 kl_X7_46 ?_
  refine V_last C 6 k10 rfl (by rw [n10]; decide) (by rw [n10]; decide) dX7_init_87 ?_
  refine V_dup C dX7_init_88 rfl ?_
  refine V_bipush C (v := nI 7) dX7_init_89 rfl ?_
  refine V_ldc2 C dX7_init_91 kl_X7_48 ?_
  refine V_last C 7 k10 rfl (by rw [n10]; decide) (by rw [n10]; decide) dX7_init_94 ?_
  refine V_dup C dX7_init_95 rfl ?_
  refine V_bipush C (v := nI 8) dX7_init_96 rfl ?_
  refine V_ldc2 C dX7_init_98 kl_X7_50 ?_
  refine V_last C 8 k10 rfl (by rw [n10]; decide) (by rw [n10]; decide) dX7_init_101 ?_
  refine V_dup C dX7_init_102 rfl ?_
  refine V_bipush C (v := nI 9) dX7_init_103 rfl ?_
  refine V_ldc2 C dX7_init_105 kl_X7_52 ?_
  refine V_last C 9 k10 rfl (by rw [n10]; decide) (by rw [n10]; decide) dX7_init_108 ?_
  refine V_dup C dX7_init_109 rfl ?_
  refine V_bipush C (v := nI 10) dX7_init_110 rfl ?_
  refine V_ldc2 C dX7_init_112 kl_X7_54 ?_
  refine V_last C 10 k10 rfl (by rw [n10]; decide) (by rw [n10]; decide) dX7_init_115 ?_
  refine V_dup C dX7_init_116 rfl ?_
  refine V_bipush C (v := nI 11) dX7_init_117 rfl ?_
  refine V_ldc2 C dX7_init_119 kl_X7_56 ?_
  refine V_last C 11 k10 rfl (by rw [n10]; decide) (by rw [n10]; decide) dX7_init_122 ?_
  refine V_dup C dX7_init_123 rfl ?_
  refine V_bipush C (v := nI 12) dX7_init_124 rfl ?_
  refine V_ldc2 C dX7_init_126 kl_X7_58 ?_
  refine V_last C 12 k10 rfl (by rw [n10]; decide) (by rw [n10]; decide) dX7_init_129 ?_
  refine V_dup C dX7_init_130 rfl ?_
  refine V_bipush C (v := nI 13) dX7_init_131 rfl ?_
  refine V_ldc2 C dX7_init_133 kl_X7_60 ?_
  refine V_last C 13 k10 rfl (by rw [n10]; decide) (by rw [n10]; decide) dX7_init_136 ?_
  refine V_dup C dX7_init_137 rfl ?_
  refine V_bipush C (v := nI 14) dX7_init_138 rfl ?_
  refine V_ldc2 C dX7_init_140 kl_X7_62 ?_
  refine V_last C 14 k10 rfl (by rw [n10]; decide) (by rw [n10]; decide) dX7_init_143 ?_
  refine V_dup C dX7_init_144 rfl ?_
  refine V_bipush C (v := nI 15) dX7_init_145 rfl ?_
  refine V_ldc2 C dX7_init_147 kl_X7_64 ?_
  refine V_last C 15 k10 rfl (by rw [n10]; decide) (by rw [n10]; decide) dX7_init_150 ?_
  refine V_dup C dX7_init_151 rfl ?_
  refine V_bipush C (v := nI 16) dX7_init_152 rfl ?_
  refine V_ldc2 C dX7_init_154 kl_X7_66 ?_
  refine V_last C 16 k10 rfl (by rw [n10]; decide) (by rw [n10]; decide) dX7_init_157 ?_
  refine V_dup C dX7_init_158 rfl ?_
  refine V_bipush C (v := nI 17) dX7_init_159 rfl ?_
  refine V_ldc2 C dX7_init_161 kl_X7_68 ?_
  refine V_last C 17 k10 rfl (by rw [n10]; decide) (by rw [n10]; decide) dX7_init_164 ?_
  refine V_dup C dX7_init_165 rfl ?_
  refine V_bipush C (v := nI 18) dX7_init_166 rfl ?_
  refine V_ldc2 C dX7_init_168 kl_X7_70 ?_
  refine V_last C 18 k10 rfl (by rw [n10]; decide) (by rw [n10]; decide) dX7_init_171 ?_
  refine V_dup C dX7_init_172 rfl ?_
  refine V_bipush C (v := nI 19) dX7_init_173 rfl ?_
  refine V_ldc2 C dX7_init_175 kl_X7_72 ?_
  refine V_last C 19 k10 rfl (by rw [n10]; decide) (by rw [n10]; decide) dX7_init_178 ?_
  refine V_dup C dX7_init_179 rfl ?_
  refine V_bipush C (v := nI 20) dX7_init_180 rfl ?_
  refine V_ldc2 C dX7_init_182 kl_X7_74 ?_
  refine V_last C 20 k10 rfl (by rw [n10]; decide) (by rw [n10]; decide) dX7_init_185 ?_
  refine V_dup C dX7_init_186 rfl ?_
  refine V_bipush C (v := nI 21) dX7_init_187 rfl ?_
  refine V_ldc2 C dX7_init_189 kl_X7_76 ?_
  refine V_last C 21 k10 rfl (by rw [n10]; decide) (by rw [n10]; decide) dX7_init_192 ?_
  refine V_dup C dX7_init_193 rfl ?_
  refine V_bipush C (v := nI 22) dX7_init_194 rfl ?_
  refine V_ldc2 C dX7_init_196 kl_X7_78 ?_
  refine V_last C 22 k10 rfl (by rw [n10]; decide) (by rw [n10]; decide) dX7_init_199 ?_
  have j0 : ∀ c, c ≠ 1010 → (up2 (up2 (up2 (up2 (up2 (up2 (up2 (up2 (up2 (up2 (up2 (up2 (up2 (up2 (up2 (up2 (up2 (up2 (up2 (up2 (up2 (up2 (up2 (nwJ J4 1010) 1010 0 36634562) 1010 1 4666969) 1010 2 8420961) 1010 3 488306075) 1010 4 310952) 1010 5 6902) 1010 6 1597499993) 1010 7 9636) 1010 8 969451) 1010 9 755) 1010 10 1176170) 1010 11 1891) 1010 12 573) 1010 13 19741) 1010 14 924600) 1010 15 975695) 1010 16 9639) 1010 17 1167067) 1010 18 232084) 1010 19 1825) 1010 20 1604747592) 1010 21 989988) 1010 22 23572053) c = (nwJ J4 1010) c := fun c hc => by rw [up2_ne _ _ _ hc, up2_ne _ _ _ hc, up2_ne _ _ _ hc, up2_ne _ _ _ hc, up2_ne _ _ _ hc, up2_ne _ _ _ hc, up2_ne _ _ _ hc, up2_ne _ _ _ hc, up2_ne _ _ _ hc, up2_ne _ _ _ hc, up2_ne _ _ _ hc, up2_ne _ _ _ hc, up2_ne _ _ _ hc, up2_ne _ _ _ hc, up2_ne _ _ _ hc, up2_ne _ _ _ hc, up2_ne _ _ _ hc, up2_ne _ _ _ hc, up2_ne _ _ _ hc, up2_ne _ _ _ hc, up2_ne _ _ _ hc, up2_ne _ _ _ hc, up2_ne _ _ _ hc]
  have w0 : ∀ i, i < 23 → (up2 (up2 (up2 (up2 (up2 (up2 (up2 (up2 (up2 (up2 (up2 (up2 (up2 (up2 (up2 (up2 (up2 (up2 (up2 (up2 (up2 (up2 (up2 (nwJ J4 1010) 1010 0 36634562) 1010 1 4666969) 1010 2 8420961) 1010 3 488306075) 1010 4 310952) 1010 5 6902) 1010 6 1597499993) 1010 7 9636) 1010 8 969451) 1010 9 755) 1010 10 1176170) 1010 11 1891) 1010 12 573) 1010 13 19741) 1010 14 924600) 1010 15 975695) 1010 16 9639) 1010 17 1167067) 1010 18 232084) 1010 19 1825) 1010 20 1604747592) 1010 21 989988) 1010 22 23572053) 1010 i = wdV.getD i 0 := by
    intro i hi
    match i, hi with
    | 0, _ => rfl
    | 1, _ => rfl
    | 2, _ => rfl
    | 3, _ => rfl
    | 4, _ => rfl
    | 5, _ => rfl
    | 6, _ => rfl
    | 7, _ => rfl
    | 8, _ => rfl
    | 9, _ => rfl
    | 10, _ => rfl
    | 11, _ => rfl
    | 12, _ => rfl
    | 13, _ => rfl
    | 14, _ => rfl
    | 15, _ => rfl
    | 16, _ => rfl
    | 17, _ => rfl
    | 18, _ => rfl
    | 19, _ => rfl
    | 20, _ => rfl
    | 21, _ => rfl
    | 22, _ => rfl
    | i + 23, h => exact absurd h (by omega)
  obtain ⟨J5, hJ5⟩ : ∃ J', J' = (up2 (up2 (up2 (up2 (up2 (up2 (up2 (up2 (up2 (up2 (up2 (up2 (up2 (up2 (up2 (up2 (up2 (up2 (up2 (up2 (up2 (up2 (up2 (nwJ J4 1010) 1010 0 36634562) 1010 1 4666969) 1010 2 8420961) 1010 3 488306075) 1010 4 310952) 1010 5 6902) 1010 6 1597499993) 1010 7 9636) 1010 8 969451) 1010 9 755) 1010 10 1176170) 1010 11 1891) 1010 12 573) 1010 13 19741) 1010 14 924600) 1010 15 975695) 1010 16 9639) 1010 17 1167067) 1010 18 232084) 1010 19 1825) 1010 20 1604747592) 1010 21 989988) 1010 22 23572053) := ⟨_, rfl⟩
  rw [← hJ5] at j0 w0 ⊢
  have b5 := bw.jw j0
  refine V_putFR C fl_X7_80 ((nwS_n (show 1000 ≠ 1010 by omega)).trans b4.1.1) rfl rfl rfl rfl dX7_init_200 ?_
  refine V_aload_n C dX7_init_203 rfl ?_
  refine V_iconst C (v := nI 2) dX7_init_204 rfl ?_
  have b5 := b5.skip (m := 12) (by omega) (sk_10_12)
  refine V_bdI C b5 (ln := 2) rfl (by decide) lv_a1 nF rfl (by omega) (by decide) (by decide) dX7_init_205 fl_X7_83 rfl rfl rfl rfl dX7_init_207 (fun S6 I6 J6 b6 j6 => ?_)
  have e6 := (j6 1010 (by decide)).trans (rfl : J5 1010 = J5 1010)
  refine V_aload_n C dX7_init_210 rfl ?_
  refine V_bipush C (v := nI 48) dX7_init_211 rfl ?_
  refine V_bdI C b6 (ln := 48) rfl (by decide) lv_a1 nF rfl (by omega) (by decide) (by decide) dX7_init_213 fl_X7_86 rfl rfl rfl rfl dX7_init_215 (fun S7 I7 J7 b7 j7 => ?_)
  have e7 := (j7 1010 (by decide)).trans e6
  refine V_aload_n C dX7_init_218 rfl ?_
  refine V_bipush C (v := nI 48) dX7_init_219 rfl ?_
  refine V_bdI C b7 (ln := 48) rfl (by decide) lv_a1 nF rfl (by omega) (by decide) (by decide) dX7_init_221 fl_X7_89 rfl rfl rfl rfl dX7_init_223 (fun S8 I8 J8 b8 j8 => ?_)
  have e8 := (j8 1010 (by decide)).trans e7
  refine V_aload_n C dX7_init_226 rfl ?_
  refine V_bipush C (v := nI 48) dX7_init_227 rfl ?_
  refine V_bdI C b8 (ln := 48) rfl (by decide) lv_a1 nF rfl (by omega) (by decide) (by decide) dX7_init_229 fl_X7_92 rfl rfl rfl rfl dX7_init_231 (fun S9 I9 J9 b9 j9 => ?_)
  have e9 := (j9 1010 (by decide)).trans e8
  refine V_aload_n C dX7_init_234 rfl ?_
  refine V_bipush C (v := nI 48) dX7_init_235 rfl ?_
  refine V_bdI C b9 (ln := 48) rfl (by decide) lv_a1 nF rfl (by omega) (by decide) (by decide) dX7_init_237 fl_X7_95 rfl rfl rfl rfl dX7_init_239 (fun S10 I10 J10 b10 j10 => ?_)
  have e10 := (j10 1010 (by decide)).trans e9
  refine V_aload_n C dX7_init_242 rfl ?_
  refine V_bipush C (v := nI 48) dX7_init_243 rfl ?_
  refine V_bdI C b10 (ln := 48) rfl (by decide) lv_a1 nF rfl (by omega) (by decide) (by decide) dX7_init_245 fl_X7_98 rfl rfl rfl rfl dX7_init_247 (fun S11 I11 J11 b11 j11 => ?_)
  have e11 := (j11 1010 (by decide)).trans e10
  refine V_aload_n C dX7_init_250 rfl ?_
  refine V_iconst C (v := nI 2) dX7_init_251 rfl ?_
  refine V_bdI C b11 (ln := 2) rfl (by decide) lv_a1 nF rfl (by omega) (by decide) (by decide) dX7_init_252 fl_X7_101 rfl rfl rfl rfl dX7_init_254 (fun S12 I12 J12 b12 j12 => ?_)
  have e12 := (j12 1010 (by decide)).trans e11
  refine V_aload_n C dX7_init_257 rfl ?_
  refine V_sipush C (v := nI 2200) dX7_init_258 rfl ?_
  have b12 := b12.skip (m := 20) (by omega) (sk_19_20)
  refine V_bdI C b12 (ln := 2200) rfl (by decide) lv_a1 nF rfl (by omega) (by decide) (by decide) dX7_init_261 fl_X7_104 rfl rfl rfl rfl dX7_init_263 (fun S13 I13 J13 b13 j13 => ?_)
  have e13 := (j13 1010 (by decide)).trans e12
  refine V_aload_n C dX7_init_266 rfl ?_
  refine V_sipush C (v := nI 2200) dX7_init_267 rfl ?_
  refine V_bdI C b13 (ln := 2200) rfl (by decide) lv_a1 nF rfl (by omega) (by decide) (by decide) dX7_init_270 fl_X7_107 rfl rfl rfl rfl dX7_init_272 (fun S14 I14 J14 b14 j14 => ?_)
  have e14 := (j14 1010 (by decide)).trans e13
  refine V_aload_n C dX7_init_275 rfl ?_
  refine V_bipush C (v := nI 9) dX7_init_276 rfl ?_
  refine V_bdI C b14 (ln := 9) rfl (by decide) lv_a1 nF rfl (by omega) (by decide) (by decide) dX7_init_278 fl_X7_110 rfl rfl rfl rfl dX7_init_280 (fun S15 I15 J15 b15 j15 => ?_)
  have e15 := (j15 1010 (by decide)).trans e14
  refine V_aload_n C dX7_init_283 rfl ?_
  refine V_sipush C (v := nI 1100) dX7_init_284 rfl ?_
  refine V_bdI C b15 (ln := 1100) rfl (by decide) lv_a1 nF rfl (by omega) (by decide) (by decide) dX7_init_287 fl_X7_113 rfl rfl rfl rfl dX7_init_289 (fun S16 I16 J16 b16 j16 => ?_)
  have e16 := (j16 1010 (by decide)).trans e15
  refine V_aload_n C dX7_init_292 rfl ?_
  refine V_bipush C (v := nI 8) dX7_init_293 rfl ?_
  have b16 := b16.skip (m := 26) (by omega) (sk_24_26)
  refine V_bdI C b16 (ln := 8) rfl (by decide) lv_a1 nF rfl (by omega) (by decide) (by decide) dX7_init_295 fl_X7_116 rfl rfl rfl rfl dX7_init_297 (fun S17 I17 J17 b17 j17 => ?_)
  have e17 := (j17 1010 (by decide)).trans e16
  refine V_aload_n C dX7_init_300 rfl ?_
  refine V_bipush C (v := nI 96) dX7_init_301 rfl ?_
  refine V_bdI C b17 (ln := 96) rfl (by decide) lv_a1 nF rfl (by omega) (by decide) (by decide) dX7_init_303 fl_X7_119 rfl rfl rfl rfl dX7_init_305 (fun S18 I18 J18 b18 j18 => ?_)
  have e18 := (j18 1010 (by decide)).trans e17
  refine V_aload_n C dX7_init_308 rfl ?_
  refine V_bipush C (v := nI 96) dX7_init_309 rfl ?_
  refine V_bdI C b18 (ln := 96) rfl (by decide) lv_a1 nF rfl (by omega) (by decide) (by decide) dX7_init_311 fl_X7_122 rfl rfl rfl rfl dX7_init_313 (fun S19 I19 J19 b19 j19 => ?_)
  have e19 := (j19 1010 (by decide)).trans e18
  refine V_aload_n C dX7_init_316 rfl ?_
  refine V_bipush C (v := nI 96) dX7_init_317 rfl ?_
  refine V_bdI C b19 (ln := 96) rfl (by decide) lv_a1 nF rfl (by omega) (by decide) (by decide) dX7_init_319 fl_X7_125 rfl rfl rfl rfl dX7_init_321 (fun S20 I20 J20 b20 j20 => ?_)
  have e20 := (j20 1010 (by decide)).trans e19
  refine V_aload_n C dX7_init_324 rfl ?_
  refine V_sipush C (v := nI 480) dX7_init_325 rfl ?_
  refine V_bdI C b20 (ln := 480) rfl (by decide) lv_a1 nF rfl (by omega) (by decide) (by decide) dX7_init_328 fl_X7_128 rfl rfl rfl rfl dX7_init_330 (fun S21 I21 J21 b21 j21 => ?_)
  have e21 := (j21 1010 (by decide)).trans e20
  refine V_aload_n C dX7_init_333 rfl ?_
  refine V_bipush C (v := nI 8) dX7_init_334 rfl ?_
  refine V_bdI C b21 (ln := 8) rfl (by decide) lv_a1 nF rfl (by omega) (by decide) (by decide) dX7_init_336 fl_X7_131 rfl rfl rfl rfl dX7_init_338 (fun S22 I22 J22 b22 j22 => ?_)
  have e22 := (j22 1010 (by decide)).trans e21
  refine V_aload_n C dX7_init_341 rfl ?_
  refine V_bipush C (v := nI 8) dX7_init_342 rfl ?_
  refine V_bdI C b22 (ln := 8) rfl (by decide) lv_a1 nF rfl (by omega) (by decide) (by decide) dX7_init_344 fl_X7_134 rfl rfl rfl rfl dX7_init_346 (fun S23 I23 J23 b23 j23 => ?_)
  have e23 := (j23 1010 (by decide)).trans e22
  refine V_aload_n C dX7_init_349 rfl ?_
  refine V_bipush C (v := nI 8) dX7_init_350 rfl ?_
  refine V_bdI C b23 (ln := 8) rfl (by decide) lv_a1 nF rfl (by omega) (by decide) (by decide) dX7_init_352 fl_X7_137 rfl rfl rfl rfl dX7_init_354 (fun S24 I24 J24 b24 j24 => ?_)
  have e24 := (j24 1010 (by decide)).trans e23
  refine V_aload_n C dX7_init_357 rfl ?_
  refine V_bipush C (v := nI 8) dX7_init_358 rfl ?_
  refine V_bdL C b24 (ln := 8) rfl (by decide) lv_a1 nF rfl (by omega) (by decide) (by decide) dX7_init_360 fl_X7_140 rfl rfl rfl rfl dX7_init_362 (fun S25 I25 J25 b25 j25 => ?_)
  have e25 := (j25 1010 (by decide)).trans e24
  refine V_aload_n C dX7_init_365 rfl ?_
  refine V_bipush C (v := nI 8) dX7_init_366 rfl ?_
  refine V_bdL C b25 (ln := 8) rfl (by decide) lv_a1 nF rfl (by omega) (by decide) (by decide) dX7_init_368 fl_X7_143 rfl rfl rfl rfl dX7_init_370 (fun S26 I26 J26 b26 j26 => ?_)
  have e26 := (j26 1010 (by decide)).trans e25
  refine V_aload_n C dX7_init_373 rfl ?_
  refine V_bipush C (v := nI 8) dX7_init_374 rfl ?_
  refine V_bdI C b26 (ln := 8) rfl (by decide) lv_a1 nF rfl (by omega) (by decide) (by decide) dX7_init_376 fl_X7_146 rfl rfl rfl rfl dX7_init_378 (fun S27 I27 J27 b27 j27 => ?_)
  have e27 := (j27 1010 (by decide)).trans e26
  refine V_aload_n C dX7_init_381 rfl ?_
  refine V_sipush C (v := nI 240) dX7_init_382 rfl ?_
  refine V_bdI C b27 (ln := 240) rfl (by decide) lv_a1 nF rfl (by omega) (by decide) (by decide) dX7_init_385 fl_X7_149 rfl rfl rfl rfl dX7_init_387 (fun S28 I28 J28 b28 j28 => ?_)
  have e28 := (j28 1010 (by decide)).trans e27
  refine V_aload_n C dX7_init_390 rfl ?_
  refine V_sipush C (v := nI 240) dX7_init_391 rfl ?_
  refine V_bdI C b28 (ln := 240) rfl (by decide) lv_a1 nF rfl (by omega) (by decide) (by decide) dX7_init_394 fl_X7_152 rfl rfl rfl rfl dX7_init_396 (fun S29 I29 J29 b29 j29 => ?_)
  have e29 := (j29 1010 (by decide)).trans e28
  refine V_aload_n C dX7_init_399 rfl ?_
  refine V_sipush C (v := nI 240) dX7_init_400 rfl ?_
  refine V_bdI C b29 (ln := 240) rfl (by decide) lv_a1 nF rfl (by omega) (by decide) (by decide) dX7_init_403 fl_X7_155 rfl rfl rfl rfl dX7_init_405 (fun S30 I30 J30 b30 j30 => ?_)
  have e30 := (j30 1010 (by decide)).trans e29
  refine V_aload_n C dX7_init_408 rfl ?_
  refine V_sipush C (v := nI 240) dX7_init_409 rfl ?_
  refine V_bdI C b30 (ln := 240) rfl (by decide) lv_a1 nF rfl (by omega) (by decide) (by decide) dX7_init_412 fl_X7_158 rfl rfl rfl rfl dX7_init_414 (fun S31 I31 J31 b31 j31 => ?_)
  have e31 := (j31 1010 (by decide)).trans e30
  refine V_aload_n C dX7_init_417 rfl ?_
  refine V_sipush C (v := nI 240) dX7_init_418 rfl ?_
  refine V_bdI C b31 (ln := 240) rfl (by decide) lv_a1 nF rfl (by omega) (by decide) (by decide) dX7_init_421 fl_X7_161 rfl rfl rfl rfl dX7_init_423 (fun S32 I32 J32 b32 j32 => ?_)
  have e32 := (j32 1010 (by decide)).trans e31
  refine V_aload_n C dX7_init_426 rfl ?_
  refine V_sipush C (v := nI 240) dX7_init_427 rfl ?_
  refine V_bdI C b32 (ln := 240) rfl (by decide) lv_a1 nF rfl (by omega) (by decide) (by decide) dX7_init_430 fl_X7_164 rfl rfl rfl rfl dX7_init_432 (fun S33 I33 J33 b33 j33 => ?_)
  have e33 := (j33 1010 (by decide)).trans e32
  refine V_aload_n C dX7_init_435 rfl ?_
  refine V_sipush C (v := nI 2880) dX7_init_436 rfl ?_
  refine V_bdI C b33 (ln := 2880) rfl (by decide) lv_a1 nF rfl (by omega) (by decide) (by decide) dX7_init_439 fl_X7_167 rfl rfl rfl rfl dX7_init_441 (fun S34 I34 J34 b34 j34 => ?_)
  have e34 := (j34 1010 (by decide)).trans e33
  refine V_aload_n C dX7_init_444 rfl ?_
  refine V_bipush C (v := nI 60) dX7_init_445 rfl ?_
  have b34 := b34.skip (m := 46) (by omega) (sk_44_46)
  refine V_bdI C b34 (ln := 60) rfl (by decide) lv_a1 nF rfl (by omega) (by decide) (by decide) dX7_init_447 fl_X7_170 rfl rfl rfl rfl dX7_init_449 (fun S35 I35 J35 b35 j35 => ?_)
  have e35 := (j35 1010 (by decide)).trans e34
  refine V_aload_n C dX7_init_452 rfl ?_
  refine V_bipush C (v := nI 12) dX7_init_453 rfl ?_
  refine V_bdI C b35 (ln := 12) rfl (by decide) lv_a1 nF rfl (by omega) (by decide) (by decide) dX7_init_455 fl_X7_173 rfl rfl rfl rfl dX7_init_457 (fun S36 I36 J36 b36 j36 => ?_)
  have e36 := (j36 1010 (by decide)).trans e35
  refine V_aload_n C dX7_init_460 rfl ?_
  refine V_bipush C (v := nI 10) dX7_init_461 rfl ?_
  have b36 := b36.skip (m := 49) (by omega) (sk_48_49)
  refine V_bdI C b36 (ln := 10) rfl (by decide) lv_a1 nF rfl (by omega) (by decide) (by decide) dX7_init_463 fl_X7_176 rfl rfl rfl rfl dX7_init_465 (fun S37 I37 J37 b37 j37 => ?_)
  have e37 := (j37 1010 (by decide)).trans e36
  refine V_aload_n C dX7_init_468 rfl ?_
  refine V_bipush C (v := nI 10) dX7_init_469 rfl ?_
  refine V_bdI C b37 (ln := 10) rfl (by decide) lv_a1 nF rfl (by omega) (by decide) (by decide) dX7_init_471 fl_X7_179 rfl rfl rfl rfl dX7_init_473 (fun S38 I38 J38 b38 j38 => ?_)
  have e38 := (j38 1010 (by decide)).trans e37
  refine V_aload_n C dX7_init_476 rfl ?_
  refine V_bipush C (v := nI 6) dX7_init_477 rfl ?_
  refine V_bdZ C b38 (ln := 6) rfl (by decide) lv_a1 nF rfl (by omega) (by decide) (by decide) dX7_init_479 fl_X7_182 rfl rfl rfl rfl dX7_init_481 (fun S39 I39 J39 b39 j39 => ?_)
  have e39 := (j39 1010 (by decide)).trans e38
  exact kk _ _ _ b39 (fun i hi => by rw [e39]; exact w0 i hi)
end M30
