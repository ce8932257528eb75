/-! the class's course (key 1140) on the disk b by the laws la: what laws are told, stick, break -/
section C6
variable {l : Launch} {S : HS} {I I' : HI} {J J' : HJ} {b la : Nat} {D : DV} {L : List Law} {e lk : Nat}
def CoS (S : HS) (b la : Nat) : Prop := Ob S 0 1140 ∧ S.2.2 1140 0 = some b ∧ S.2.2 1140 1 = some la ∧ Dk S b ∧ Ob S 2 la ∧ 1500 ≤ b ∧ (la = 1160 ∨ la = 1180)
/-- laws, end, luck, share -/
def cG (I : HI) (la : Nat) (L : List Law) (e lk : Nat) : Prop := CL I la L ∧ I 1140 2 = nI e ∧ e < 16 ∧ I 1140 3 = nI lk ∧ lk ≤ 20 ∧ lwOk (kcl L (nI e))
theorem cG.fc (hb : 1500 ≤ b) (hla : la = 1160 ∨ la = 1180) (h : FC b I J I' J') (hG : cG I la L e lk) : cG I' la L e lk := by
  obtain ⟨h1, h2, h3, h4, h5, h6⟩ := hG
  have k : ∀ a, (1140 ≤ a ∧ a ≤ 1145) ∨ (la ≤ a ∧ a ≤ la + 11) → I' a = I a := fun a ha => h.1 a ⟨by omega, by omega, by omega, by omega, by omega, by omega⟩
  exact ⟨h1.cg (fun x _ => by rw [k la (by omega)]) (fun a g1 g2 => k a (by omega)), by rw [k 1140 (by omega)]; exact h2, h3, by rw [k 1140 (by omega)]; exact h4, h5, h6⟩
theorem Sk.re : Sk I I := fun _ _ _ _ _ _ => rfl
theorem Sk.tr {I2 : HI} (h : Sk I I2) (g : Sk I2 I') : Sk I I' := fun a h1 h2 h3 h4 h5 => (g a h1 h2 h3 h4 h5).trans (h a h1 h2 h3 h4 h5)
theorem Sk.up {a : Nat} {f : Nat → Int32} (h : a = 1146 ∨ a = 1147 ∨ a = 1148 ∨ a = 1172 ∨ a = 1192) : Sk I (va_up I a f) := fun c h1 h2 h3 h4 h5 => va_up_ne _ _ (by omega)
/-- what is told and tried of laws, alone -/
def Sn (I I' : HI) : Prop := ∀ a, a ≠ 1146 → a ≠ 1172 → a ≠ 1192 → I' a = I a
theorem Sn.k (h : Sn I I') : Sk I I' := fun a h1 _ _ h4 h5 => h a h1 h4 h5
theorem Sn.re : Sn I I := fun _ _ _ _ => rfl
theorem Sn.tr {I2 : HI} (h : Sn I I2) (g : Sn I2 I') : Sn I I' := fun a h1 h4 h5 => (g a h1 h4 h5).trans (h a h1 h4 h5)
theorem Sn.up {a : Nat} {f : Nat → Int32} (h : a = 1146 ∨ a = 1172 ∨ a = 1192) : Sn I (va_up I a f) := fun c h1 h4 h5 => va_up_ne _ _ (by omega)
theorem kcl_ag {g : Int32} {k : Nat} {f f' : Nat → Int32} (hC : CL I la L) (h : ∀ j, j < 9 → f j = f' j) : lawV L g k f = kcl L g k f' := lawV_ag (fun w hw => (hC.2.2.2.2.2.2 w hw).2.1) h
set_option maxRecDepth 100000 in
theorem c_shareOf (a n : Int32) : Mn l yX0_shareOf cX0_shareOf 2 (some .int) 0 [.int a, .int n] S I J (fun v I' J' => v = some (.int (a * n / nI 100)) ∧ I' = I ∧ J' = J) := by
  refine Mn.of (by decide) (fun ad => by simp [lg_sl, vv, Value.category]) (fun X P hP hn C => ?_)
  refine V_iload_n C dX0_shareOf_0 rfl ?_
  refine V_iload_n C dX0_shareOf_1 rfl ?_
  refine V_imul C dX0_shareOf_2 ?_
  refine V_bipush C (v := nI 100) dX0_shareOf_3 (by decide +kernel) ?_
  refine V_idiv C dX0_shareOf_5 (by decide) ?_
  exact V_iret C (Nat.zero_le _) (Nat.zero_le _) dX0_shareOf_6 (hP _ _ _ ⟨rfl, rfl, rfl⟩)
set_option maxRecDepth 100000 in
theorem c_tell (hX : CoS S b la) (hC : CD I J b D) (hD : rOk D) {r : Nat} (hr : r < 12) : Mn l yX0_tellOfRing cX0_tellOfRing 2 none 1 [.ref 1140, .int (nI r)] S I J (fun v I' J' => v = none ∧ (∃ f, I' = va_up I 1146 f ∧ f 0 = nI r ∧ f 2 = D 1 r ∧ f 3 = D 2 r ∧ f 5 = aD D r ∧ f 7 = D 0 1 ∧ f 8 = thD D) ∧ J' = J) := by
  refine Mn.of (by decide) (fun ad => by simp [lg_sl, vv, Value.category]) (fun X P hP hn C => ?_)
  obtain ⟨hF, hd0, hl1, hK, hL, hb, hla⟩ := hX
  have hK1 := hK.1
  have b1 : b ≠ 1146 := by omega
  have b9 : b + 9 ≠ 1146 := by omega
  have b10 : b + 10 ≠ 1146 := by omega
  have b12 : b + 12 ≠ 1146 := by omega
  obtain ⟨g1, g2, -⟩ := hC.2.1 r hr
  have ea := hC.aD hr
  have e1 := hC.1.2.1
  have e7 := hC.1.2.2.2.2.2
  obtain ⟨I2, hI2⟩ : ∃ I2, I2 = up2 (up2 (up2 I 1146 0 (nI r)) 1146 2 (D 1 r)) 1146 3 (D 2 r) := ⟨_, rfl⟩
  have o2 : ∀ a, a ≠ 1146 → I2 a = I a := fun a ha => by rw [hI2, up2_ne _ _ _ ha, up2_ne _ _ _ ha, up2_ne _ _ _ ha]
  obtain ⟨I5, hI5⟩ : ∃ I5, I5 = up2 (up2 (up2 I2 1146 5 (aD D r)) 1146 7 (D 0 1)) 1146 8 (thD D) := ⟨_, rfl⟩
  have fin : ∃ f, I5 = va_up I 1146 f ∧ f 0 = nI r ∧ f 2 = D 1 r ∧ f 3 = D 2 r ∧ f 5 = aD D r ∧ f 7 = D 0 1 ∧ f 8 = thD D := by
    refine ⟨I5 1146, ?_, ?_⟩
    · funext a
      by_cases ea : a = 1146
      · subst ea; rw [va_up_self]
      · rw [va_up_ne _ _ ea, hI5, up2_ne _ _ _ ea, up2_ne _ _ _ ea, up2_ne _ _ _ ea, o2 a ea]
    · rw [hI5, hI2]
      exact ⟨rfl, rfl, rfl, rfl, rfl, rfl⟩
  have e47 : iSum (I2 (b + 12)) (5 * r) 5 = aD D r := by rw [o2 _ b12]; exact ea
  have e61 : up2 I2 1146 5 (aD D r) b 1 = D 0 1 := by rw [up2_ne _ _ _ b1, o2 _ b1]; exact e1
  have e75 : up2 (up2 I2 1146 5 (aD D r)) 1146 7 (D 0 1) b 7 = thD D := by rw [up2_ne _ _ _ b1, up2_ne _ _ _ b1, o2 _ b1]; exact e7
  have e20 : up2 I 1146 0 (nI r) (b + 9) r = D 1 r := by rw [up2_ne _ _ _ b9]; exact g1
  have e35 : up2 (up2 I 1146 0 (nI r)) 1146 2 (D 1 r) (b + 10) r = D 2 r := by rw [up2_ne _ _ _ b10, up2_ne _ _ _ b10]; exact g2
  refine V_aload_n C dX0_tellOfRing_0 rfl ?_
  refine V_getR C fl_X0_29 (ob_K hF) (ob_R hF 5 1146 rfl rfl) rfl dX0_tellOfRing_1 ?_
  refine V_iconst C (v := nI 0) dX0_tellOfRing_4 (by decide +kernel) ?_
  refine V_iload_n C dX0_tellOfRing_5 rfl ?_
  refine V_iast C (0) (ob_A hF 5 1146 rfl rfl) (by first | rfl | (simp only [nI_add, pk_mul]; done) | (simp only [nI_add, pk_mul]; congr 1; omega)) (by rw [ob_N hF 5 1146 rfl rfl]; omega) (by rw [ob_N hF 5 1146 rfl rfl]; decide) dX0_tellOfRing_6 ?_
  refine V_aload_n C dX0_tellOfRing_7 rfl ?_
  refine V_getR C fl_X0_29 (ob_K hF) (ob_R hF 5 1146 rfl rfl) rfl dX0_tellOfRing_8 ?_
  refine V_iconst C (v := nI 2) dX0_tellOfRing_11 (by decide +kernel) ?_
  refine V_aload_n C dX0_tellOfRing_12 rfl ?_
  refine V_getR C fl_X0_12 (ob_K hF) hd0 rfl dX0_tellOfRing_13 ?_
  refine V_getR C fl_X0_95 (ob_K hK1) (ob_R hK1 8 (b + 9) rfl rfl) rfl dX0_tellOfRing_16 ?_
  refine V_iload_n C dX0_tellOfRing_19 rfl ?_
  refine V_iald C (r) (ob_A hK1 8 (b + 9) rfl rfl) (by first | rfl | (simp only [nI_add, pk_mul]; done) | (simp only [nI_add, pk_mul]; congr 1; omega)) (by rw [ob_N hK1 8 (b + 9) rfl rfl]; omega) (by rw [ob_N hK1 8 (b + 9) rfl rfl]; decide) dX0_tellOfRing_20 ?_
  rw [e20]
  refine V_iast C (2) (ob_A hF 5 1146 rfl rfl) (by first | rfl | (simp only [nI_add, pk_mul]; done) | (simp only [nI_add, pk_mul]; congr 1; omega)) (by rw [ob_N hF 5 1146 rfl rfl]; omega) (by rw [ob_N hF 5 1146 rfl rfl]; decide) dX0_tellOfRing_21 ?_
  refine V_aload_n C dX0_tellOfRing_22 rfl ?_
  refine V_getR C fl_X0_29 (ob_K hF) (ob_R hF 5 1146 rfl rfl) rfl dX0_tellOfRing_23 ?_
  refine V_iconst C (v := nI 3) dX0_tellOfRing_26 (by decide +kernel) ?_
  refine V_aload_n C dX0_tellOfRing_27 rfl ?_
  refine V_getR C fl_X0_12 (ob_K hF) hd0 rfl dX0_tellOfRing_28 ?_
  refine V_getR C fl_X0_98 (ob_K hK1) (ob_R hK1 9 (b + 10) rfl rfl) rfl dX0_tellOfRing_31 ?_
  refine V_iload_n C dX0_tellOfRing_34 rfl ?_
  refine V_iald C (r) (ob_A hK1 9 (b + 10) rfl rfl) (by first | rfl | (simp only [nI_add, pk_mul]; done) | (simp only [nI_add, pk_mul]; congr 1; omega)) (by rw [ob_N hK1 9 (b + 10) rfl rfl]; omega) (by rw [ob_N hK1 9 (b + 10) rfl rfl]; decide) dX0_tellOfRing_35 ?_
  rw [e35]
  refine V_iast C (3) (ob_A hF 5 1146 rfl rfl) (by first | rfl | (simp only [nI_add, pk_mul]; done) | (simp only [nI_add, pk_mul]; congr 1; omega)) (by rw [ob_N hF 5 1146 rfl rfl]; omega) (by rw [ob_N hF 5 1146 rfl rfl]; decide) dX0_tellOfRing_36 ?_
  rw [← hI2]
  refine V_aload_n C dX0_tellOfRing_37 rfl ?_
  refine V_getR C fl_X0_29 (ob_K hF) (ob_R hF 5 1146 rfl rfl) rfl dX0_tellOfRing_38 ?_
  refine V_iconst C (v := nI 5) dX0_tellOfRing_41 (by decide +kernel) ?_
  refine V_aload_n C dX0_tellOfRing_42 rfl ?_
  refine V_getR C fl_X0_12 (ob_K hF) hd0 rfl dX0_tellOfRing_43 ?_
  refine V_iload_n C dX0_tellOfRing_46 rfl ?_
  refine V_callV (F := fun _ => True) C (c_allDustIn hK (r := r) hr) mi_X1_allDustIn ml_X0_101 rfl (ob_K hK1) (by decide) (by decide) (by decide) (Nat.le_of_ble_eq_true rfl) (fun _ _ => trivial) (fun v _ => clo_T v) rfl dX0_tellOfRing_47 ?_
  rintro v S' I' J' ⟨hS9, rfl, hI9, hJ9⟩
  obtain rfl := hS9.symm
  obtain rfl := hI9.symm
  obtain rfl := hJ9.symm
  rw [e47]
  refine V_iast C (5) (ob_A hF 5 1146 rfl rfl) (by first | rfl | (simp only [nI_add, pk_mul]; done) | (simp only [nI_add, pk_mul]; congr 1; omega)) (by rw [ob_N hF 5 1146 rfl rfl]; omega) (by rw [ob_N hF 5 1146 rfl rfl]; decide) dX0_tellOfRing_50 ?_
  refine V_aload_n C dX0_tellOfRing_51 rfl ?_
  refine V_getR C fl_X0_29 (ob_K hF) (ob_R hF 5 1146 rfl rfl) rfl dX0_tellOfRing_52 ?_
  refine V_bipush C (v := nI 7) dX0_tellOfRing_55 (by decide +kernel) ?_
  refine V_aload_n C dX0_tellOfRing_57 rfl ?_
  refine V_getR C fl_X0_12 (ob_K hF) hd0 rfl dX0_tellOfRing_58 ?_
  refine V_getI C fl_X0_69 (ob_K hK1) rfl dX0_tellOfRing_61 ?_
  rw [e61]
  refine V_iast C (7) (ob_A hF 5 1146 rfl rfl) (by first | rfl | (simp only [nI_add, pk_mul]; done) | (simp only [nI_add, pk_mul]; congr 1; omega)) (by rw [ob_N hF 5 1146 rfl rfl]; omega) (by rw [ob_N hF 5 1146 rfl rfl]; decide) dX0_tellOfRing_64 ?_
  refine V_aload_n C dX0_tellOfRing_65 rfl ?_
  refine V_getR C fl_X0_29 (ob_K hF) (ob_R hF 5 1146 rfl rfl) rfl dX0_tellOfRing_66 ?_
  refine V_bipush C (v := nI 8) dX0_tellOfRing_69 (by decide +kernel) ?_
  refine V_aload_n C dX0_tellOfRing_71 rfl ?_
  refine V_getR C fl_X0_12 (ob_K hF) hd0 rfl dX0_tellOfRing_72 ?_
  refine V_getI C fl_X0_105 (ob_K hK1) rfl dX0_tellOfRing_75 ?_
  rw [e75]
  refine V_iast C (8) (ob_A hF 5 1146 rfl rfl) (by first | rfl | (simp only [nI_add, pk_mul]; done) | (simp only [nI_add, pk_mul]; congr 1; omega)) (by rw [ob_N hF 5 1146 rfl rfl]; omega) (by rw [ob_N hF 5 1146 rfl rfl]; decide) dX0_tellOfRing_78 ?_
  rw [← hI5]
  exact V_vret C (Nat.zero_le _) (Nat.zero_le _) dX0_tellOfRing_79 (hP _ _ _ ⟨rfl, fin, rfl⟩)
set_option maxRecDepth 100000 in
theorem c_lawForDust (hX : CoS S b la) (hG : cG I la L e lk) (hC : CD I J b D) (hD : rOk D) {k r s : Nat} (hk : k < 9) (hr : r < 12) (hs : s < 5) : Mn l yX0_lawForDust cX0_lawForDust 4 (some .int) 3 [.ref 1140, .int (nI k), .int (nI r), .int (nI s)] S I J (fun v I' J' => v = some (.int (kcl L (nI e) k (fDu D r s))) ∧ Sn I I' ∧ J' = J) := by
  refine Mn.of (by decide) (fun ad => by simp [lg_sl, vv, Value.category]) (fun X P hP hn C => ?_)
  have hX' := hX
  obtain ⟨hF, hd0, hl1, hK, hL, hb, hla⟩ := hX
  have hK1 := hK.1
  have eidx : nI r * nI 5 + nI s = nI (5 * r + s) := by rw [pk_mul, nI_add, Nat.mul_comm]
  by_cases hno : nxI k 0 L = -1
  · have ev : kcl L (nI e) k (fDu D r s) = -1 := nxI_n L 0 (by have := hG.1.2.2.2.1; omega) hno
    refine V_aload_n C dX0_lawForDust_0 rfl ?_
    refine V_getR C fl_X0_21 (ob_K hF) hl1 rfl dX0_lawForDust_1 ?_
    refine V_iload_n C dX0_lawForDust_4 rfl ?_
    refine V_callV (F := fun _ => True) C (c_hasNone hL hG.1 hk) mi_X2_hasNone ml_X0_72 rfl (ob_K hL) (by decide) (by decide) (by decide) (Nat.le_of_ble_eq_true rfl) (fun _ _ => trivial) (fun v _ => clo_T v) rfl dX0_lawForDust_5 ?_
    rintro v S' I' J' ⟨hS9, rfl, hI9, hJ9⟩
    obtain rfl := hS9.symm
    obtain rfl := hI9.symm
    obtain rfl := hJ9.symm
    refine V_if_eq C 13 dX0_lawForDust_8 (by decide) (fun h8 => absurd h8 (by rw [bI_0]; exact fun q => q hno)) (fun h8 => ?_)
    refine V_iconst C (v := (-1)) dX0_lawForDust_11 (by decide +kernel) ?_
    exact V_iret C (Nat.zero_le _) (Nat.zero_le _) dX0_lawForDust_12 (hP _ _ _ ⟨by rw [ev], Sn.re, rfl⟩)
  · have after : ∀ f : Nat → Int32, f 0 = nI r ∧ f 2 = D 1 r ∧ f 3 = D 2 r ∧ f 5 = aD D r ∧ f 7 = D 0 1 ∧ f 8 = thD D → V X P 0 0 18 [some (.ref 1140), some (.int (nI k)), some (.int (nI r)), some (.int (nI s))] [] S (va_up I 1146 f) J := by
      intro f hf
      obtain ⟨f0, f2, f3, f5, f7, f8⟩ := hf
      obtain ⟨g, hg⟩ : ∃ g, g = va_up (va_up (va_up f 1 (nI s)) 4 (D 4 (5 * r + s))) 6 (nI 0) := ⟨_, rfl⟩
      have e42 : va_up I 1146 (va_up f 1 (nI s)) (b + 12) (5 * r + s) = D 4 (5 * r + s) := by rw [va_up_ne _ _ (by omega)]; exact hC.2.2.1 _ (by omega)
      have hag : ∀ j, j < 9 → g j = fDu D r s j := by
        rw [hg]
        exact lt9 f0 rfl f2 f3 rfl f5 rfl f7 f8
      have hG2 : cG (va_up I 1146 g) la L e lk := hG.fc hb hla (Sk.up (Or.inl rfl)).fc (J := J) (J' := J)
      have e1146 : va_up I 1146 g 1146 = g := va_up_self _ _ _
      refine V_aload_n C dX0_lawForDust_18 rfl ?_
      refine V_getR C fl_X0_29 (ob_K hF) (ob_R hF 5 1146 rfl rfl) rfl dX0_lawForDust_19 ?_
      refine V_iconst C (v := nI 1) dX0_lawForDust_22 (by decide +kernel) ?_
      refine V_iload_n C dX0_lawForDust_23 rfl ?_
      refine V_iast C (1) (ob_A hF 5 1146 rfl rfl) (by first | rfl | (simp only [nI_add, pk_mul]; done) | (simp only [nI_add, pk_mul]; congr 1; omega)) (by rw [ob_N hF 5 1146 rfl rfl]; omega) (by rw [ob_N hF 5 1146 rfl rfl]; decide) dX0_lawForDust_24 ?_
      rw [up2_up]
      refine V_aload_n C dX0_lawForDust_25 rfl ?_
      refine V_getR C fl_X0_29 (ob_K hF) (ob_R hF 5 1146 rfl rfl) rfl dX0_lawForDust_26 ?_
      refine V_iconst C (v := nI 4) dX0_lawForDust_29 (by decide +kernel) ?_
      refine V_aload_n C dX0_lawForDust_30 rfl ?_
      refine V_getR C fl_X0_12 (ob_K hF) hd0 rfl dX0_lawForDust_31 ?_
      refine V_getR C fl_X0_80 (ob_K hK1) (ob_R hK1 11 (b + 12) rfl rfl) rfl dX0_lawForDust_34 ?_
      refine V_iload_n C dX0_lawForDust_37 rfl ?_
      refine V_iconst C (v := nI 5) dX0_lawForDust_38 (by decide +kernel) ?_
      refine V_imul C dX0_lawForDust_39 ?_
      refine V_iload_n C dX0_lawForDust_40 rfl ?_
      refine V_iadd C dX0_lawForDust_41 ?_
      refine V_iald C (5 * r + s) (ob_A hK1 11 (b + 12) rfl rfl) eidx (by rw [ob_N hK1 11 (b + 12) rfl rfl]; omega) (by rw [ob_N hK1 11 (b + 12) rfl rfl]; decide) dX0_lawForDust_42 ?_
      rw [e42]
      refine V_iast C (4) (ob_A hF 5 1146 rfl rfl) (by first | rfl | (simp only [nI_add, pk_mul]; done) | (simp only [nI_add, pk_mul]; congr 1; omega)) (by rw [ob_N hF 5 1146 rfl rfl]; omega) (by rw [ob_N hF 5 1146 rfl rfl]; decide) dX0_lawForDust_43 ?_
      rw [up2_up]
      refine V_aload_n C dX0_lawForDust_44 rfl ?_
      refine V_getR C fl_X0_29 (ob_K hF) (ob_R hF 5 1146 rfl rfl) rfl dX0_lawForDust_45 ?_
      refine V_bipush C (v := nI 6) dX0_lawForDust_48 (by decide +kernel) ?_
      refine V_iconst C (v := nI 0) dX0_lawForDust_50 (by decide +kernel) ?_
      refine V_iast C (6) (ob_A hF 5 1146 rfl rfl) (by first | rfl | (simp only [nI_add, pk_mul]; done) | (simp only [nI_add, pk_mul]; congr 1; omega)) (by rw [ob_N hF 5 1146 rfl rfl]; omega) (by rw [ob_N hF 5 1146 rfl rfl]; decide) dX0_lawForDust_51 ?_
      rw [up2_up, ← hg]
      refine V_aload_n C dX0_lawForDust_52 rfl ?_
      refine V_getR C fl_X0_21 (ob_K hF) hl1 rfl dX0_lawForDust_53 ?_
      refine V_iload_n C dX0_lawForDust_56 rfl ?_
      refine V_aload_n C dX0_lawForDust_57 rfl ?_
      refine V_getI C fl_X0_39 (ob_K hF) rfl dX0_lawForDust_58 ?_
      refine V_aload_n C dX0_lawForDust_61 rfl ?_
      refine V_getR C fl_X0_29 (ob_K hF) (ob_R hF 5 1146 rfl rfl) rfl dX0_lawForDust_62 ?_
      rw [hG2.2.1]
      refine V_callV (F := fun _ => True) C (c_numberFor hL hF (by omega) hG2.1 hk hG.2.2.1) mi_X2_numberFor ml_X0_83 rfl (ob_K hL) (by decide) (by decide) (by decide) (Nat.le_of_ble_eq_true rfl) (fun _ _ => trivial) (fun v _ => clo_T v) rfl dX0_lawForDust_65 ?_
      rintro v S' I2 J2 ⟨hS9, rfl, ⟨s2, hI9⟩, hJ9⟩
      obtain rfl := hS9.symm
      obtain rfl := hJ9.symm
      rw [e1146]
      exact V_iret C (Nat.zero_le _) (Nat.zero_le _) dX0_lawForDust_68 (hP _ _ _ ⟨by rw [kcl_ag hG.1 hag], by rw [hI9]; exact (Sn.up (Or.inl rfl)).tr (Sn.up (by omega)), rfl⟩)
    refine V_aload_n C dX0_lawForDust_0 rfl ?_
    refine V_getR C fl_X0_21 (ob_K hF) hl1 rfl dX0_lawForDust_1 ?_
    refine V_iload_n C dX0_lawForDust_4 rfl ?_
    refine V_callV (F := fun _ => True) C (c_hasNone hL hG.1 hk) mi_X2_hasNone ml_X0_72 rfl (ob_K hL) (by decide) (by decide) (by decide) (Nat.le_of_ble_eq_true rfl) (fun _ _ => trivial) (fun v _ => clo_T v) rfl dX0_lawForDust_5 ?_
    rintro v S' I' J' ⟨hS9, rfl, hI9, hJ9⟩
    obtain rfl := hS9.symm
    obtain rfl := hI9.symm
    obtain rfl := hJ9.symm
    refine V_if_eq C 13 dX0_lawForDust_8 (by decide) (fun h8 => ?_) (fun h8 => absurd (bI_f hno) h8)
    refine V_aload_n C dX0_lawForDust_13 rfl ?_
    refine V_iload_n C dX0_lawForDust_14 rfl ?_
    refine V_callV (F := fun _ => True) C (c_tell hX' hC hD hr) mi_X0_tellOfRing ml_X0_76 rfl (ob_K hF) (by decide) (by decide) (by decide) (Nat.le_of_ble_eq_true rfl) (fun _ _ => trivial) (fun v _ => clo_T v) rfl dX0_lawForDust_15 ?_
    rintro v S' I2 J2 ⟨hS9, rfl, ⟨f, hI9, hf⟩, hJ9⟩
    obtain rfl := hS9.symm
    obtain rfl := hJ9.symm
    subst hI9
    exact after f hf
set_option maxRecDepth 100000 in
theorem c_lawForLump (hX : CoS S b la) (hG : cG I la L e lk) (hC : CD I J b D) (hD : rOk D) {k u : Nat} (hk : k < 9) (hu : u < cmD D) : Mn l yX0_lawForLump cX0_lawForLump 3 (some .int) 3 [.ref 1140, .int (nI k), .ref (b + 20 + 10 * u)] S I J (fun v I' J' => v = some (.int (kcl L (nI e) k (fLu D u))) ∧ Sn I I' ∧ J' = J) := by
  refine Mn.of (by decide) (fun ad => by simp [lg_sl, vv, Value.category]) (fun X P hP hn C => ?_)
  have hX' := hX
  obtain ⟨hF, hd0, hl1, hK, hL, hb, hla⟩ := hX
  have hK1 := hK.1
  have h30 := hD.2.2.2.2.1
  obtain ⟨hLu, hRu⟩ := hK.2 u (by omega)
  obtain ⟨⟨u0, u1, u2, -⟩, -⟩ := hC.2.2.2 u hu
  obtain ⟨r1, r2⟩ := hD.2.2.2.2.2 u hu
  have h12 := hD.2.2.1
  have er : I (b + 20 + 10 * u) 1 = nI (rg D u) := u1.trans r1
  by_cases hno : nxI k 0 L = -1
  · have ev : kcl L (nI e) k (fLu D u) = -1 := nxI_n L 0 (by have := hG.1.2.2.2.1; omega) hno
    refine V_aload_n C dX0_lawForLump_0 rfl ?_
    refine V_getR C fl_X0_21 (ob_K hF) hl1 rfl dX0_lawForLump_1 ?_
    refine V_iload_n C dX0_lawForLump_4 rfl ?_
    refine V_callV (F := fun _ => True) C (c_hasNone hL hG.1 hk) mi_X2_hasNone ml_X0_72 rfl (ob_K hL) (by decide) (by decide) (by decide) (Nat.le_of_ble_eq_true rfl) (fun _ _ => trivial) (fun v _ => clo_T v) rfl dX0_lawForLump_5 ?_
    rintro v S' I' J' ⟨hS9, rfl, hI9, hJ9⟩
    obtain rfl := hS9.symm
    obtain rfl := hI9.symm
    obtain rfl := hJ9.symm
    refine V_if_eq C 13 dX0_lawForLump_8 (by decide) (fun h8 => absurd h8 (by rw [bI_0]; exact fun q => q hno)) (fun h8 => ?_)
    refine V_iconst C (v := (-1)) dX0_lawForLump_11 (by decide +kernel) ?_
    exact V_iret C (Nat.zero_le _) (Nat.zero_le _) dX0_lawForLump_12 (hP _ _ _ ⟨by rw [ev], Sn.re, rfl⟩)
  · have after : ∀ f : Nat → Int32, f 0 = nI (rg D u) ∧ f 2 = D 1 (rg D u) ∧ f 3 = D 2 (rg D u) ∧ f 5 = aD D (rg D u) ∧ f 7 = D 0 1 ∧ f 8 = thD D → V X P 0 0 21 [some (.ref 1140), some (.int (nI k)), some (.ref (b + 20 + 10 * u))] [] S (va_up I 1146 f) J := by
      intro f hf
      obtain ⟨f0, f2, f3, f5, f7, f8⟩ := hf
      obtain ⟨g, hg⟩ : ∃ g, g = va_up (va_up (va_up f 1 (nI 0)) 4 (nI 0)) 6 (wD D u) := ⟨_, rfl⟩
      have e42 : va_up I 1146 (va_up (va_up f 1 (nI 0)) 4 (nI 0)) (b + 20 + 10 * u) 2 = wD D u := by rw [va_up_ne _ _ (by omega)]; exact u2
      have hag : ∀ j, j < 9 → g j = fLu D u j := by
        rw [hg]
        exact lt9 f0 rfl f2 f3 rfl f5 rfl f7 f8
      have hG2 : cG (va_up I 1146 g) la L e lk := hG.fc hb hla (Sk.up (Or.inl rfl)).fc (J := J) (J' := J)
      have e1146 : va_up I 1146 g 1146 = g := va_up_self _ _ _
      refine V_aload_n C dX0_lawForLump_21 rfl ?_
      refine V_getR C fl_X0_29 (ob_K hF) (ob_R hF 5 1146 rfl rfl) rfl dX0_lawForLump_22 ?_
      refine V_iconst C (v := nI 1) dX0_lawForLump_25 (by decide +kernel) ?_
      refine V_iconst C (v := nI 0) dX0_lawForLump_26 (by decide +kernel) ?_
      refine V_iast C (1) (ob_A hF 5 1146 rfl rfl) (by first | rfl | (simp only [nI_add, pk_mul]; done) | (simp only [nI_add, pk_mul]; congr 1; omega)) (by rw [ob_N hF 5 1146 rfl rfl]; omega) (by rw [ob_N hF 5 1146 rfl rfl]; decide) dX0_lawForLump_27 ?_
      rw [up2_up]
      refine V_aload_n C dX0_lawForLump_28 rfl ?_
      refine V_getR C fl_X0_29 (ob_K hF) (ob_R hF 5 1146 rfl rfl) rfl dX0_lawForLump_29 ?_
      refine V_iconst C (v := nI 4) dX0_lawForLump_32 (by decide +kernel) ?_
      refine V_iconst C (v := nI 0) dX0_lawForLump_33 (by decide +kernel) ?_
      refine V_iast C (4) (ob_A hF 5 1146 rfl rfl) (by first | rfl | (simp only [nI_add, pk_mul]; done) | (simp only [nI_add, pk_mul]; congr 1; omega)) (by rw [ob_N hF 5 1146 rfl rfl]; omega) (by rw [ob_N hF 5 1146 rfl rfl]; decide) dX0_lawForLump_34 ?_
      rw [up2_up]
      refine V_aload_n C dX0_lawForLump_35 rfl ?_
      refine V_getR C fl_X0_29 (ob_K hF) (ob_R hF 5 1146 rfl rfl) rfl dX0_lawForLump_36 ?_
      refine V_bipush C (v := nI 6) dX0_lawForLump_39 (by decide +kernel) ?_
      refine V_aload_n C dX0_lawForLump_41 rfl ?_
      refine V_getI C fl_X0_92 (ob_K hLu) rfl dX0_lawForLump_42 ?_
      rw [e42]
      refine V_iast C (6) (ob_A hF 5 1146 rfl rfl) (by first | rfl | (simp only [nI_add, pk_mul]; done) | (simp only [nI_add, pk_mul]; congr 1; omega)) (by rw [ob_N hF 5 1146 rfl rfl]; omega) (by rw [ob_N hF 5 1146 rfl rfl]; decide) dX0_lawForLump_45 ?_
      rw [up2_up, ← hg]
      refine V_aload_n C dX0_lawForLump_46 rfl ?_
      refine V_getR C fl_X0_21 (ob_K hF) hl1 rfl dX0_lawForLump_47 ?_
      refine V_iload_n C dX0_lawForLump_50 rfl ?_
      refine V_aload_n C dX0_lawForLump_51 rfl ?_
      refine V_getI C fl_X0_39 (ob_K hF) rfl dX0_lawForLump_52 ?_
      refine V_aload_n C dX0_lawForLump_55 rfl ?_
      refine V_getR C fl_X0_29 (ob_K hF) (ob_R hF 5 1146 rfl rfl) rfl dX0_lawForLump_56 ?_
      rw [hG2.2.1]
      refine V_callV (F := fun _ => True) C (c_numberFor hL hF (by omega) hG2.1 hk hG.2.2.1) mi_X2_numberFor ml_X0_83 rfl (ob_K hL) (by decide) (by decide) (by decide) (Nat.le_of_ble_eq_true rfl) (fun _ _ => trivial) (fun v _ => clo_T v) rfl dX0_lawForLump_59 ?_
      rintro v S' I2 J2 ⟨hS9, rfl, ⟨s2, hI9⟩, hJ9⟩
      obtain rfl := hS9.symm
      obtain rfl := hJ9.symm
      rw [e1146]
      exact V_iret C (Nat.zero_le _) (Nat.zero_le _) dX0_lawForLump_62 (hP _ _ _ ⟨by rw [kcl_ag hG.1 hag], by rw [hI9]; exact (Sn.up (Or.inl rfl)).tr (Sn.up (by omega)), rfl⟩)
    refine V_aload_n C dX0_lawForLump_0 rfl ?_
    refine V_getR C fl_X0_21 (ob_K hF) hl1 rfl dX0_lawForLump_1 ?_
    refine V_iload_n C dX0_lawForLump_4 rfl ?_
    refine V_callV (F := fun _ => True) C (c_hasNone hL hG.1 hk) mi_X2_hasNone ml_X0_72 rfl (ob_K hL) (by decide) (by decide) (by decide) (Nat.le_of_ble_eq_true rfl) (fun _ _ => trivial) (fun v _ => clo_T v) rfl dX0_lawForLump_5 ?_
    rintro v S' I' J' ⟨hS9, rfl, hI9, hJ9⟩
    obtain rfl := hS9.symm
    obtain rfl := hI9.symm
    obtain rfl := hJ9.symm
    refine V_if_eq C 13 dX0_lawForLump_8 (by decide) (fun h8 => ?_) (fun h8 => absurd (bI_f hno) h8)
    refine V_aload_n C dX0_lawForLump_13 rfl ?_
    refine V_aload_n C dX0_lawForLump_14 rfl ?_
    refine V_getI C fl_X0_87 (ob_K hLu) rfl dX0_lawForLump_15 ?_
    rw [er]
    refine V_callV (F := fun _ => True) C (c_tell hX' hC hD (r := rg D u) (by omega)) mi_X0_tellOfRing ml_X0_76 rfl (ob_K hF) (by decide) (by decide) (by decide) (Nat.le_of_ble_eq_true rfl) (fun _ _ => trivial) (fun v _ => clo_T v) rfl dX0_lawForLump_18 ?_
    rintro v S' I2 J2 ⟨hS9, rfl, ⟨f, hI9, hf⟩, hJ9⟩
    obtain rfl := hS9.symm
    obtain rfl := hJ9.symm
    subst hI9
    exact after f hf
/-- the share that grows by luck, and the seed behind it -/
def lnV (D : DV) (n : Int32) (lk : Nat) : Int32 := if n < 0 then 0 else if lk = 0 then n else clN (lkN (sdN (D 0 3)) n (nI lk))
def lnD (D : DV) (n : Int32) (lk : Nat) : DV := if n < 0 then D else if lk = 0 then D else up2 D 0 3 (sdN (D 0 3))
theorem cl_mm (x : Int32) : (if nI 0 < (if x < nI 100 then x else nI 100) then (if x < nI 100 then x else nI 100) else nI 0) = clN x := by
  unfold clN
  by_cases h1 : x < nI 100
  · rw [if_pos h1]
    by_cases h2 : 0 ≤ x
    · rw [if_pos h2, if_pos (Int32.le_of_lt h1)]
      by_cases h3 : nI 0 < x
      · rw [if_pos h3]
      · rw [if_neg h3]
        exact Int32.le_antisymm h2 (Int32.not_lt.mp h3)
    · rw [if_neg h2, if_neg (show ¬ nI 0 < x from fun q => h2 (Int32.le_of_lt q))]
  · rw [if_neg h1, if_pos (by decide)]
    have h2 : nI 100 ≤ x := Int32.not_lt.mp h1
    rw [if_pos (Int32.le_trans (by decide) h2)]
    by_cases h3 : x ≤ nI 100
    · rw [if_pos h3]; exact Int32.le_antisymm h2 h3
    · rw [if_neg h3]
set_option maxRecDepth 100000 in
theorem c_lucky (hX : CoS S b la) (hG : cG I la L e lk) (hC : CD I J b D) (h0 : 0 ≤ D 0 3) {n : Int32} (hn1 : n < 0 ↔ n = -1) : Mn l yX0_luckyNumber cX0_luckyNumber 3 (some .int) 1 [.ref 1140, .int n] S I J (fun v I' J' => v = some (.int (lnV D n lk)) ∧ I' = I ∧ CD I J' b (lnD D n lk) ∧ FC b I J I J') := by
  refine Mn.of (by decide) (fun ad => by simp [lg_sl, vv, Value.category]) (fun X P hP hn C => ?_)
  obtain ⟨hF, hd0, hl1, hK, hL, hb, hla⟩ := hX
  have hK1 := hK.1
  have elk := hG.2.2.2.1
  have l20 := hG.2.2.2.2.1
  have hne := lk_ne l20
  by_cases hm : n = -1
  · have c1 := hn1.mpr hm
    refine V_iload_n C dX0_luckyNumber_0 rfl ?_
    refine V_iconst C (v := (-1)) dX0_luckyNumber_1 (by decide +kernel) ?_
    refine V_icmp_ne C 7 dX0_luckyNumber_2 (by decide) (fun h2 => absurd (hm) h2) (fun h2 => ?_)
    refine V_iconst C (v := nI 0) dX0_luckyNumber_5 (by decide +kernel) ?_
    exact V_iret C (Nat.zero_le _) (Nat.zero_le _) dX0_luckyNumber_6 (hP _ _ _ ⟨by rw [lnV, if_pos c1]; rfl, rfl, by rw [lnD, if_pos c1]; exact hC, FC.re⟩)
  · have c1 : ¬ n < 0 := fun q => hm (hn1.mp q)
    by_cases hk : lk = 0
    · have e0 : I 1140 3 = 0 := by rw [elk, hk]; rfl
      refine V_iload_n C dX0_luckyNumber_0 rfl ?_
      refine V_iconst C (v := (-1)) dX0_luckyNumber_1 (by decide +kernel) ?_
      refine V_icmp_ne C 7 dX0_luckyNumber_2 (by decide) (fun h2 => ?_) (fun h2 => absurd h2 (hm))
      refine V_aload_n C dX0_luckyNumber_7 rfl ?_
      refine V_getI C fl_X0_111 (ob_K hF) rfl dX0_luckyNumber_8 ?_
      refine V_if_ne C 16 dX0_luckyNumber_11 (by decide) (fun h11 => absurd (e0) h11) (fun h11 => ?_)
      refine V_iload_n C dX0_luckyNumber_14 rfl ?_
      exact V_iret C (Nat.zero_le _) (Nat.zero_le _) dX0_luckyNumber_15 (hP _ _ _ ⟨by rw [lnV, if_neg c1, if_pos hk], rfl, by rw [lnD, if_neg c1, if_pos hk]; exact hC, FC.re⟩)
    · have e0 : ¬ I 1140 3 = 0 := by rw [elk]; exact nI_ne0 (by omega) (by omega)
      have es : (up2 J b 3 (sdN (D 0 3)).toInt64) = up2 J b 3 (sdN (D 0 3)).toInt64 := rfl
      have fj : FC b I J I (up2 J b 3 (sdN (D 0 3)).toInt64) := ⟨fun _ _ => rfl, fun a ha => up2_ne _ _ _ (by omega)⟩
      have ev : n + (sdN (D 0 3) / 65536 - sdN (D 0 3) / 65536 / (nI 2 * nI lk + nI 1) * (nI 2 * nI lk + nI 1)) - nI lk = lkN (sdN (D 0 3)) n (nI lk) := rfl
      refine V_iload_n C dX0_luckyNumber_0 rfl ?_
      refine V_iconst C (v := (-1)) dX0_luckyNumber_1 (by decide +kernel) ?_
      refine V_icmp_ne C 7 dX0_luckyNumber_2 (by decide) (fun h2 => ?_) (fun h2 => absurd h2 (hm))
      refine V_aload_n C dX0_luckyNumber_7 rfl ?_
      refine V_getI C fl_X0_111 (ob_K hF) rfl dX0_luckyNumber_8 ?_
      refine V_if_ne C 16 dX0_luckyNumber_11 (by decide) (fun h11 => ?_) (fun h11 => absurd h11 (e0))
      refine V_iload_n C dX0_luckyNumber_16 rfl ?_
      refine V_aload_n C dX0_luckyNumber_17 rfl ?_
      refine V_getR C fl_X0_12 (ob_K hF) hd0 rfl dX0_luckyNumber_18 ?_
      refine V_callV (F := fun _ => True) C (c_nextOfSeed hK hC.1.2.2.2.1 h0) mi_X1_nextOfSeed ml_X0_125 rfl (ob_K hK1) (by decide) (by decide) (by decide) (Nat.le_of_ble_eq_true rfl) (fun _ _ => trivial) (fun v _ => clo_T v) rfl dX0_luckyNumber_21 ?_
      rintro v S' I' J' ⟨hS9, rfl, hI9, hJ9⟩
      obtain rfl := hS9.symm
      obtain rfl := hI9.symm
      obtain rfl := hJ9.symm
      refine V_iconst C (v := nI 2) dX0_luckyNumber_24 (by decide +kernel) ?_
      refine V_aload_n C dX0_luckyNumber_25 rfl ?_
      refine V_getI C fl_X0_111 (ob_K hF) rfl dX0_luckyNumber_26 ?_
      refine V_imul C dX0_luckyNumber_29 ?_
      refine V_iconst C (v := nI 1) dX0_luckyNumber_30 (by decide +kernel) ?_
      refine V_iadd C dX0_luckyNumber_31 ?_
      refine V_irem C dX0_luckyNumber_32 (by rw [elk]; exact hne) ?_
      refine V_iadd C dX0_luckyNumber_33 ?_
      refine V_aload_n C dX0_luckyNumber_34 rfl ?_
      refine V_getI C fl_X0_111 (ob_K hF) rfl dX0_luckyNumber_35 ?_
      refine V_isub C dX0_luckyNumber_38 ?_
      rw [elk, ev]
      refine V_istore_n C dX0_luckyNumber_39 (hn _ (by decide)) ?_
      refine V_iconst C (v := nI 0) dX0_luckyNumber_40 (by decide +kernel) ?_
      refine V_bipush C (v := nI 100) dX0_luckyNumber_41 (by decide +kernel) ?_
      refine V_iload_n C dX0_luckyNumber_43 rfl ?_
      refine V_min C ml_X0_129 (by decide) (by decide) (Nat.zero_le _) (Nat.zero_le _) dX0_luckyNumber_44 ?_
      refine V_max C ml_X0_134 (by decide) (by decide) (Nat.zero_le _) (Nat.zero_le _) dX0_luckyNumber_47 ?_
      rw [cl_mm]
      exact V_iret C (Nat.zero_le _) (Nat.zero_le _) dX0_luckyNumber_50 (hP _ _ _ ⟨by rw [lnV, if_neg c1, if_neg hk], rfl, by rw [lnD, if_neg c1, if_neg hk]; exact hC.seed rfl, fj⟩)
end C6
