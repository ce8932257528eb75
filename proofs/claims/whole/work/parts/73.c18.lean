/-! the class's face: asked, sure, empty -/
section C18
variable {l : Launch} {S S' : HS} {I I' Ic : HI} {J J' Jc : HJ} {z : SV} {la lb e : Nat} {q : QV}
theorem CR.cls {S0 : HS} (hS : SS S la lb) (hO : OkC z) (hC : CR la z S I J) (k : Kc I J I' J') (hS0 : S0 = S ∨ S0 = enS S 4300) : ClsR z S0 I' J' := by
  have hla : la = 1160 ∨ la = 1180 := by have := hS.2.2.2.2.2.2.2.2.2.2; omega
  rcases hS0 with rfl | rfl
  · exact ⟨la, lb, hS, hC.ks hO hla k⟩
  · exact ⟨la, lb, hS.en, hC.ke hO hla k⟩
theorem ask_x {n w v : Int32} (h : ¬ askV z.1.1 n w v = 0) : ∃ m k, m ≤ 100 ∧ k ≤ 4 ∧ n = nI m ∧ w = nI k ∧ ((k = 0 ∨ k = 1 ∨ k = 3) → isR z.1.1 v) := by
  obtain ⟨h1, h2, h3⟩ := ask_ex h
  obtain ⟨m, hm, em⟩ := wi_ex (by omega) h1
  obtain ⟨k, hk, ek⟩ := wi_ex (by omega) h2
  refine ⟨m, k, hm, hk, em, ek, fun hq => h3 ?_⟩
  rw [ek]
  rcases hq with e | e | e
  · exact Or.inl (by rw [e])
  · exact Or.inr (Or.inl (by rw [e]))
  · exact Or.inr (Or.inr (by rw [e]))
set_option maxRecDepth 100000 in
set_option maxHeartbeats 1000000 in
theorem f_asked (hR : ClsR z S I J) (hO : OkC z) (g n w v : Int32) : Mf l yX6_asked cX6_asked 5 (some .int) 7 [.ref 1100, .int g, .int n, .int w, .int v] S I J (fun r S' I' J' => r = some (.int (askedV z g n w v)) ∧ ClsR z S' I' J') := by
  refine Mf.of (by decide) (fun ad => by simp [lg_sl, vv, Value.category]) (fun X P hP hn C => ?_)
  obtain ⟨la, lb, hS, hC⟩ := hR
  have h1 := hS.1
  have last : isE z g → ¬ askV z.1.1 n w v = 0 → V X P 0 0 21 [some (.ref 1100), some (.int g), some (.int n), some (.int w), some (.int v)] [] S I J := by
    intro o1 o2
    obtain ⟨e, he, he2, ee⟩ := isE_ex hO.2.2.2.2.2.1 o1
    obtain ⟨m, k, hm, hk, em, ek, hr⟩ := ask_x o2
    have eS : soZ z g n w v = soV (itN (stZ z (nI e)) m z.1) k v := by rw [soZ, em, ek, ee, cl, cl, nI_clamp (by omega), nI_clamp (by omega)]
    refine V_aload_n C dX6_asked_21 rfl ?_
    refine V_iload_n C dX6_asked_22 rfl ?_
    refine V_iload_n C dX6_asked_23 rfl ?_
    refine V_iload_n C dX6_asked_24 rfl ?_
    refine V_iload C dX6_asked_25 rfl ?_
    rw [em, ek, ee]
    refine V_callV (F := fun _ => True) C (f_isSo hS hO hC Kc.re (Or.inl rfl) he hm hk hr) mi_X6_isSoBehind ml_X6_207 rfl (ob_K h1) (by decide) (by decide) (by decide) (Nat.le_of_ble_eq_true rfl) (fun _ _ => trivial) (fun v _ => clo_T v) rfl dX6_asked_27 ?_
    rintro v S' I2 J2 ⟨rfl, hS9, k2⟩
    subst hS9
    refine V_if_eq C 37 dX6_asked_30 (by decide) (fun h30 => ?_) (fun h30 => ?_)
    · refine V_iconst C (v := nI 0) dX6_asked_37 (by decide +kernel) ?_
      exact V_iret C (Nat.zero_le _) (Nat.zero_le _) dX6_asked_38 (hP _ _ _ _ ⟨by rw [askedV, if_pos o1, if_neg o2, eS]; first | (rw [if_pos h30]; rfl) | (rw [if_neg h30]; rfl), hC.cls hS hO k2 (Or.inr rfl)⟩)
    · refine V_iconst C (v := nI 1) dX6_asked_33 (by decide +kernel) ?_
      refine V_goto C 38 dX6_asked_34 (by decide) ?_
      exact V_iret C (Nat.zero_le _) (Nat.zero_le _) dX6_asked_38 (hP _ _ _ _ ⟨by rw [askedV, if_pos o1, if_neg o2, eS]; first | (rw [if_pos h30]; rfl) | (rw [if_neg h30]; rfl), hC.cls hS hO k2 (Or.inr rfl)⟩)
  refine V_aload_n C dX6_asked_0 rfl ?_
  refine V_iload_n C dX6_asked_1 rfl ?_
  refine V_callV (F := fun _ => True) C (f_isEnd hS hC.2.2.1 hO.2.2.2.2.2.1 g) mi_X6_isEnd ml_X6_123 rfl (ob_K h1) (by decide) (by decide) (by decide) (Nat.le_of_ble_eq_true rfl) (fun _ _ => trivial) (fun v _ => clo_T v) rfl dX6_asked_2 ?_
  rintro v S' I' J' ⟨hS9, rfl, hI9, hJ9⟩
  obtain rfl := hS9.symm
  obtain rfl := hI9.symm
  obtain rfl := hJ9.symm
  refine V_if_eq C 19 dX6_asked_5 (by decide) (fun h5 => ?_) (fun h5 => ?_)
  · refine V_iconst C (v := (-1)) dX6_asked_19 (by decide +kernel) ?_
    exact V_iret C (Nat.zero_le _) (Nat.zero_le _) dX6_asked_20 (hP _ _ _ _ ⟨by rw [askedV]; first | rw [if_neg (bI_0.mp h5)] | rw [if_pos (Decidable.not_not.mp (fun q => h5 (bI_0.mpr q))), if_pos h16], la, lb, hS, hC⟩)
  · refine V_aload_n C dX6_asked_8 rfl ?_
    refine V_iload_n C dX6_asked_9 rfl ?_
    refine V_iload_n C dX6_asked_10 rfl ?_
    refine V_iload C dX6_asked_11 rfl ?_
    refine V_callV (F := fun _ => True) C (f_isQ hS hO hC.1 n w v) mi_X6_isQuestion ml_X6_204 rfl (ob_K h1) (by decide) (by decide) (by decide) (Nat.le_of_ble_eq_true rfl) (fun _ _ => trivial) (fun v _ => clo_T v) rfl dX6_asked_13 ?_
    rintro v S' I' J' ⟨hS9, rfl, hI9, hJ9⟩
    obtain rfl := hS9.symm
    obtain rfl := hI9.symm
    obtain rfl := hJ9.symm
    refine V_if_ne C 21 dX6_asked_16 (by decide) (fun h16 => ?_) (fun h16 => ?_)
    · exact last (Decidable.not_not.mp (fun q => h5 (bI_0.mpr q))) h16
    · refine V_iconst C (v := (-1)) dX6_asked_19 (by decide +kernel) ?_
      exact V_iret C (Nat.zero_le _) (Nat.zero_le _) dX6_asked_20 (hP _ _ _ _ ⟨by rw [askedV]; first | rw [if_neg (bI_0.mp h5)] | rw [if_pos (Decidable.not_not.mp (fun q => h5 (bI_0.mpr q))), if_pos h16], la, lb, hS, hC⟩)
/-- how many ends say yes -/
def ycN (f : Nat → Int32) : Nat → Nat
  | 0 => 0
  | e + 1 => ycN f e + if f e = 0 then 0 else 1
theorem yc_le {f : Nat → Int32} : ∀ e, ycN f e ≤ e
  | 0 => Nat.le_refl _
  | e + 1 => by
    have := yc_le (f := f) e
    show ycN f e + (if f e = 0 then 0 else 1) ≤ e + 1
    split <;> omega
theorem yc_al {f : Nat → Int32} : ∀ e, alN f e = 0 ↔ ycN f e ≠ e
  | 0 => ⟨fun h => absurd (show (1 : Int32) = 0 from h) (by decide), fun h => absurd rfl h⟩
  | e + 1 => by
    have ih := yc_al (f := f) e
    have hl := yc_le (f := f) e
    show (if alN f e = 0 then (0 : Int32) else if f e = 0 then 0 else 1) = 0 ↔ ycN f e + (if f e = 0 then 0 else 1) ≠ e + 1
    by_cases h1 : alN f e = 0
    · rw [if_pos h1]
      have := ih.mp h1
      refine ⟨fun _ => ?_, fun _ => rfl⟩
      split <;> omega
    · rw [if_neg h1]
      have h2 : ycN f e = e := Decidable.not_not.mp (fun q => h1 (ih.mpr q))
      by_cases h3 : f e = 0
      · rw [if_pos h3, if_pos h3]; exact ⟨fun _ => by omega, fun _ => rfl⟩
      · rw [if_neg h3, if_neg h3, h2]; exact ⟨fun h => absurd h (by decide), fun h => absurd rfl h⟩
theorem yc_ay {f : Nat → Int32} : ∀ e, ayN f e = 0 ↔ ycN f e = 0
  | 0 => ⟨fun _ => rfl, fun _ => rfl⟩
  | e + 1 => by
    have ih := yc_ay (f := f) e
    show (if ayN f e = 0 then (if f e = 0 then (0 : Int32) else 1) else 1) = 0 ↔ ycN f e + (if f e = 0 then 0 else 1) = 0
    by_cases h1 : ayN f e = 0
    · rw [if_pos h1, ih.mp h1]
      by_cases h3 : f e = 0
      · rw [if_pos h3, if_pos h3]; exact ⟨fun _ => rfl, fun _ => rfl⟩
      · rw [if_neg h3, if_neg h3]; exact ⟨fun h => absurd h (by decide), fun h => absurd h (by decide)⟩
    · rw [if_neg h1]
      have h2 : ycN f e ≠ 0 := fun q => h1 (ih.mpr q)
      exact ⟨fun h => absurd h (by decide), fun h => by omega⟩
theorem sure_yc {f : Nat → Int32} {n : Nat} : sureW f n = if ycN f n = n then nI 2 else if ycN f n = 0 then nI 0 else nI 1 := by
  unfold sureW
  by_cases h : ycN f n = n
  · rw [if_neg (fun q => (yc_al n).mp q h), if_pos h]
  · rw [if_pos ((yc_al n).mpr h), if_neg h]
    by_cases h2 : ycN f n = 0
    · rw [if_pos ((yc_ay n).mpr h2), if_pos h2]
    · rw [if_neg (fun q => h2 ((yc_ay n).mp q)), if_neg h2]
set_option maxRecDepth 100000 in
set_option maxHeartbeats 1000000 in
theorem f_sure (hR : ClsR z S I J) (hO : OkC z) (n w v : Int32) : Mf l yX6_sure cX6_sure 7 (some .int) 7 [.ref 1100, .int n, .int w, .int v] S I J (fun r S' I' J' => r = some (.int (sureV z n w v)) ∧ ClsR z S' I' J') := by
  refine Mf.of (by decide) (fun ad => by simp [lg_sl, vv, Value.category]) (fun X P hP hn C => ?_)
  obtain ⟨la, lb, hS, hC⟩ := hR
  obtain ⟨h1, ⟨r0, r1, r3, r4, r5, r6, r7⟩, hF, -, -, -, hLa, -, h9, h10, -⟩ := id hS
  obtain ⟨hE, hE2, hE0⟩ := eN_ex (z := z) hO.2.2.2.2.2.1
  have loop : ¬ askV z.1.1 n w v = 0 → ∀ (c e : Nat) (S0 : HS) (In : HI) (Jn : HJ), e + c = 2 ^ opN z.2.2.1.1 → (S0 = S ∨ S0 = enS S 4300) → Kc I J In Jn → V X P 0 0 27 [some (.ref 1100), some (.int n), some (.int w), some (.int v), some (.int (nI (2 ^ opN z.2.2.1.1))), some (.int (nI (ycN (fun e => soZ z (nI e) n w v) e))), some (.int (nI e))] [] S0 In Jn := by
    intro o2 c
    obtain ⟨m, k, hm, hk, em, ek, hr⟩ := ask_x o2
    subst em
    subst ek
    generalize hf : (fun e => soZ z (nI e) (nI m) (nI k) v) = f
    have hfe : ∀ e, f e = soV (itN (stZ z (nI e)) m z.1) k v := fun e => by rw [← hf]; show soV (itN (stZ z (nI e)) (cl (nI m)) z.1) (cl (nI k)) v = _; rw [cl, cl, nI_clamp (by omega), nI_clamp (by omega)]
    have hsv : sureV z (nI m) (nI k) v = if ycN f (2 ^ opN z.2.2.1.1) = 2 ^ opN z.2.2.1.1 then nI 2 else if ycN f (2 ^ opN z.2.2.1.1) = 0 then nI 0 else nI 1 := by rw [sureV, if_neg o2, hf, sure_yc]
    induction c with
    | zero =>
      intro e S0 In Jn he hS0 kk
      have he : e = 2 ^ opN z.2.2.1.1 := he
      have hcl := hC.cls hS hO kk hS0
      have hy := yc_le (f := f) e
      subst he
      generalize 2 ^ opN z.2.2.1.1 = N at *
      by_cases y1 : ycN f N = N
      · refine V_iload C dX6_sure_27 rfl ?_
        refine V_iload C dX6_sure_29 rfl ?_
        refine V_icmp_ge C 55 dX6_sure_31 (by decide) (fun h31 => ?_) (fun h31 => absurd (Int32.le_refl _) h31)
        refine V_iload C dX6_sure_55 rfl ?_
        refine V_iload C dX6_sure_57 rfl ?_
        refine V_icmp_ne C 66 dX6_sure_59 (by decide) (fun h59 => absurd (show nI (ycN f N) = nI N by rw [y1]) h59) (fun h59 => ?_)
        refine V_iconst C (v := nI 2) dX6_sure_62 (by decide +kernel) ?_
        refine V_goto C 76 dX6_sure_63 (by decide) ?_
        exact V_iret C (Nat.zero_le _) (Nat.zero_le _) dX6_sure_76 (hP _ _ _ _ ⟨by rw [hsv, if_pos y1], hcl⟩)
      · by_cases y2 : ycN f N = 0
        · refine V_iload C dX6_sure_27 rfl ?_
          refine V_iload C dX6_sure_29 rfl ?_
          refine V_icmp_ge C 55 dX6_sure_31 (by decide) (fun h31 => ?_) (fun h31 => absurd (Int32.le_refl _) h31)
          refine V_iload C dX6_sure_55 rfl ?_
          refine V_iload C dX6_sure_57 rfl ?_
          refine V_icmp_ne C 66 dX6_sure_59 (by decide) (fun h59 => ?_) (fun h59 => absurd h59 (fun q => y1 ((nI_eq (by omega) (by omega)).mp q)))
          refine V_iload C dX6_sure_66 rfl ?_
          refine V_if_le C 75 dX6_sure_68 (by decide) (fun h68 => ?_) (fun h68 => absurd (by rw [y2]; decide) h68)
          refine V_iconst C (v := nI 0) dX6_sure_75 (by decide +kernel) ?_
          exact V_iret C (Nat.zero_le _) (Nat.zero_le _) dX6_sure_76 (hP _ _ _ _ ⟨by rw [hsv, if_neg y1, if_pos y2], hcl⟩)
        · refine V_iload C dX6_sure_27 rfl ?_
          refine V_iload C dX6_sure_29 rfl ?_
          refine V_icmp_ge C 55 dX6_sure_31 (by decide) (fun h31 => ?_) (fun h31 => absurd (Int32.le_refl _) h31)
          refine V_iload C dX6_sure_55 rfl ?_
          refine V_iload C dX6_sure_57 rfl ?_
          refine V_icmp_ne C 66 dX6_sure_59 (by decide) (fun h59 => ?_) (fun h59 => absurd h59 (fun q => y1 ((nI_eq (by omega) (by omega)).mp q)))
          refine V_iload C dX6_sure_66 rfl ?_
          refine V_if_le C 75 dX6_sure_68 (by decide) (fun h68 => absurd h68 (Int32.not_le.mpr (nI_lt (a := 0) (by omega) (by omega)))) (fun h68 => ?_)
          refine V_iconst C (v := nI 1) dX6_sure_71 (by decide +kernel) ?_
          refine V_goto C 76 dX6_sure_72 (by decide) ?_
          exact V_iret C (Nat.zero_le _) (Nat.zero_le _) dX6_sure_76 (hP _ _ _ _ ⟨by rw [hsv, if_neg y1, if_neg y2], hcl⟩)
    | succ c ih =>
      intro e S0 In Jn he hS0 kk
      have hy := yc_le (f := f) e
      have hs0 : Ob S0 6 1100 := by rcases hS0 with rfl | rfl; exact h1; exact h1.en (Or.inl (by omega))
      have y0 : f e = 0 → ycN f (e + 1) = ycN f e := fun q => by show ycN f e + (if f e = 0 then 0 else 1) = _; rw [if_pos q]; rfl
      have y1 : ¬ f e = 0 → ycN f (e + 1) = ycN f e + 1 := fun q => by show ycN f e + (if f e = 0 then 0 else 1) = _; rw [if_neg q]
      have nxt : ∀ I2 J2, Kc I J I2 J2 → V X P 0 0 27 [some (.ref 1100), some (.int (nI m)), some (.int (nI k)), some (.int v), some (.int (nI (2 ^ opN z.2.2.1.1))), some (.int (nI (ycN f (e + 1)))), some (.int (nI (e + 1)))] [] (enS S 4300) I2 J2 := fun I2 J2 k2 => ih (e + 1) _ _ _ (by omega) (Or.inr rfl) k2
      refine V_iload C dX6_sure_27 rfl ?_
      refine V_iload C dX6_sure_29 rfl ?_
      refine V_icmp_ge C 55 dX6_sure_31 (by decide) (fun h31 => absurd h31 (nI_ge (by omega) (by omega))) (fun h31 => ?_)
      refine V_aload_n C dX6_sure_34 rfl ?_
      refine V_iload C dX6_sure_35 rfl ?_
      refine V_iload_n C dX6_sure_37 rfl ?_
      refine V_iload_n C dX6_sure_38 rfl ?_
      refine V_iload_n C dX6_sure_39 rfl ?_
      refine V_callV (F := fun _ => True) C (f_isSo hS hO hC kk hS0 (e := e) (by omega) hm hk hr) mi_X6_isSoBehind ml_X6_207 rfl (ob_K hs0) (by decide) (by decide) (by decide) (Nat.le_of_ble_eq_true rfl) (fun _ _ => trivial) (fun v _ => clo_T v) rfl dX6_sure_40 ?_
      rintro v S' I2 J2 ⟨rfl, hS9, k2⟩
      subst hS9
      rw [← hfe]
      refine V_if_eq C 49 dX6_sure_43 (by decide) (fun h43 => ?_) (fun h43 => ?_)
      · refine V_iincU C dX6_sure_49 rfl (hn _ (by decide)) ?_
        refine V_goto C 27 dX6_sure_52 (by decide) ?_
        first | (have nx := nxt _ _ k2; rw [y0 h43] at nx; exact nx) | (have nx := nxt _ _ k2; rw [y1 h43] at nx; exact nx)
      · refine V_iincU C dX6_sure_46 rfl (hn _ (by decide)) ?_
        refine V_iincU C dX6_sure_49 rfl (hn _ (by decide)) ?_
        refine V_goto C 27 dX6_sure_52 (by decide) ?_
        first | (have nx := nxt _ _ k2; rw [y0 h43] at nx; exact nx) | (have nx := nxt _ _ k2; rw [y1 h43] at nx; exact nx)
  have hE' : nI 1 <<< (nI (opN z.2.2.1.1) &&& 31) = nI (2 ^ opN z.2.2.1.1) := hE
  refine V_aload_n C dX6_sure_0 rfl ?_
  refine V_iload_n C dX6_sure_1 rfl ?_
  refine V_iload_n C dX6_sure_2 rfl ?_
  refine V_iload_n C dX6_sure_3 rfl ?_
  refine V_callV (F := fun _ => True) C (f_isQ hS hO hC.1 n w v) mi_X6_isQuestion ml_X6_204 rfl (ob_K h1) (by decide) (by decide) (by decide) (Nat.le_of_ble_eq_true rfl) (fun _ _ => trivial) (fun v _ => clo_T v) rfl dX6_sure_4 ?_
  rintro v S' I' J' ⟨hS9, rfl, hI9, hJ9⟩
  obtain rfl := hS9.symm
  obtain rfl := hI9.symm
  obtain rfl := hJ9.symm
  refine V_if_ne C 12 dX6_sure_7 (by decide) (fun h7 => ?_) (fun h7 => ?_)
  · refine V_aload_n C dX6_sure_12 rfl ?_
    refine V_getR C fl_X6_42 (ob_K h1) r6 rfl dX6_sure_13 ?_
    refine V_callV (F := fun _ => True) C (c_howManyEnds hLa hC.2.2.1) mi_X2_howManyEnds ml_X6_211 rfl (ob_K hLa) (by decide) (by decide) (by decide) (Nat.le_of_ble_eq_true rfl) (fun _ _ => trivial) (fun v _ => clo_T v) rfl dX6_sure_16 ?_
    rintro v S' I' J' ⟨hS9, rfl, hI9, hJ9⟩
    obtain rfl := hS9.symm
    obtain rfl := hI9.symm
    obtain rfl := hJ9.symm
    rw [hE']
    refine V_istore C dX6_sure_19 (hn _ (by decide)) ?_
    refine V_iconst C (v := nI 0) dX6_sure_21 (by decide +kernel) ?_
    refine V_istore C dX6_sure_22 (hn _ (by decide)) ?_
    refine V_iconst C (v := nI 0) dX6_sure_24 (by decide +kernel) ?_
    refine V_istore C dX6_sure_25 (hn _ (by decide)) ?_
    exact loop h7 _ 0 _ _ _ (Nat.zero_add _) (Or.inl rfl) Kc.re
  · refine V_iconst C (v := (-1)) dX6_sure_10 (by decide +kernel) ?_
    exact V_iret C (Nat.zero_le _) (Nat.zero_le _) dX6_sure_11 (hP _ _ _ _ ⟨by rw [sureV, if_pos h7], la, lb, hS, hC⟩)
end C18
