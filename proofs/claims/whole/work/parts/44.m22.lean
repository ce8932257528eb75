/-! the reference's calls: barred, asked, sure, empty, runs, mark, feed -/
section M22
variable {l : Launch} {S : HS} {I I' : HI} {J J' : HJ} {z : SV}
theorem eN_eq (hO : OkR z) : eN z = nI (2 ^ opN z.2.2.1.1) ∧ 2 ^ opN z.2.2.1.1 ≤ 16 := by
  have h := hO.2.2.2.2.1
  unfold eN
  generalize opN z.2.2.1.1 = n at h
  match n, h with
  | 0, _ => exact ⟨by decide, by decide⟩
  | 1, _ => exact ⟨by decide, by decide⟩
  | 2, _ => exact ⟨by decide, by decide⟩
  | 3, _ => exact ⟨by decide, by decide⟩
  | 4, _ => exact ⟨by decide, by decide⟩
abbrev okBar (z : SV) (i s : Int32) : Prop := wi i (nI 0) (nI (opN z.2.2.1.1) - nI 1) ∧ wi s (nI 0) (nI 1)
def brN (z : SV) (i s : Int32) : Nat → Nat → Int32
  | 0, _ => 1
  | c + 1, e => if (nI e >>> (i &&& 31)) &&& nI 1 = s then (if fitV z (nI e) = 0 then brN z i s c (e + 1) else 0) else brN z i s c (e + 1)
def barV (z : SV) (i s : Int32) : Int32 := if okBar z i s then brN z i s (2 ^ opN z.2.2.1.1) 0 else -1
set_option maxRecDepth 100000 in
theorem m_barred (hM : Ob S 7 1000) (hR : RefR z I J) (hO : OkR z) (i s : Int32) : Mn l yX7_barred cX7_barred 4 (some .int) 8 [.ref 1000, .int i, .int s] S I J (fun v I' J' => v = some (.int (barV z i s)) ∧ RefR z I' J') := by
  refine Mn.of (by decide) (fun ad => by simp [lg_sl, vv, Value.category]) (fun X P hP hn C => ?_)
  obtain ⟨hE, hE2⟩ := eN_eq hO
  have loop : ∀ (c e : Nat) (In : HI) (Jn : HJ), e + c = 2 ^ opN z.2.2.1.1 → RefR z In Jn → (∀ v, v = brN z i s c e → v = barV z i s) → V X P 0 0 37 [some (.ref 1000), some (.int i), some (.int s), some (.int (nI e))] [] S In Jn := by
    intro c
    induction c with
    | zero =>
      intro e In Jn he hR hv
      have he : e = 2 ^ opN z.2.2.1.1 := he
      obtain ⟨x, hx, e10, e19⟩ := hR.2.2.2.2.1
      refine V_iload_n C dX7_barred_37 rfl ?_
      refine V_iconst C (v := nI 1) dX7_barred_38 (by decide +kernel) ?_
      refine V_aload_n C dX7_barred_39 rfl ?_
      refine V_getR C fl_X7_101 (ob_K hM) (ob_R hM 18 1019 rfl rfl) rfl dX7_barred_40 ?_
      refine V_aload_n C dX7_barred_43 rfl ?_
      refine V_getI C fl_X7_243 (ob_K hM) rfl dX7_barred_44 ?_
      refine V_iald C (x) (ob_A hM 18 1019 rfl rfl) e10 (by rw [ob_N hM 18 1019 rfl rfl]; omega) (by rw [ob_N hM 18 1019 rfl rfl]; decide) dX7_barred_47 ?_
      rw [e19]
      refine V_ishl C dX7_barred_48 ?_
      rw [show nI 1 <<< (nI (opN z.2.2.1.1) &&& 31) = nI e by rw [he]; exact hE]
      refine V_icmp_ge C 77 dX7_barred_49 (by decide) (fun h49 => ?_) (fun h49 => absurd (Int32.le_refl _) h49)
      refine V_iconst C (v := nI 1) dX7_barred_77 (by decide +kernel) ?_
      exact V_iret C (Nat.zero_le _) (Nat.zero_le _) dX7_barred_78 (hP _ _ _ ⟨by rw [← hv _ rfl]; rfl, hR⟩)
    | succ c ih =>
      intro e In Jn he hR hv
      obtain ⟨x, hx, e10, e19⟩ := hR.2.2.2.2.1
      refine V_iload_n C dX7_barred_37 rfl ?_
      refine V_iconst C (v := nI 1) dX7_barred_38 (by decide +kernel) ?_
      refine V_aload_n C dX7_barred_39 rfl ?_
      refine V_getR C fl_X7_101 (ob_K hM) (ob_R hM 18 1019 rfl rfl) rfl dX7_barred_40 ?_
      refine V_aload_n C dX7_barred_43 rfl ?_
      refine V_getI C fl_X7_243 (ob_K hM) rfl dX7_barred_44 ?_
      refine V_iald C (x) (ob_A hM 18 1019 rfl rfl) e10 (by rw [ob_N hM 18 1019 rfl rfl]; omega) (by rw [ob_N hM 18 1019 rfl rfl]; decide) dX7_barred_47 ?_
      rw [e19]
      refine V_ishl C dX7_barred_48 ?_
      rw [show nI 1 <<< (nI (opN z.2.2.1.1) &&& 31) = nI (2 ^ opN z.2.2.1.1) from hE]
      refine V_icmp_ge C 77 dX7_barred_49 (by decide) (fun h49 => absurd h49 (nI_ge (by omega) (by omega))) (fun h49 => ?_)
      refine V_iload_n C dX7_barred_52 rfl ?_
      refine V_iload_n C dX7_barred_53 rfl ?_
      refine V_ishr C dX7_barred_54 ?_
      refine V_iconst C (v := nI 1) dX7_barred_55 (by decide +kernel) ?_
      refine V_iand C dX7_barred_56 ?_
      refine V_iload_n C dX7_barred_57 rfl ?_
      refine V_icmp_ne C 71 dX7_barred_58 (by decide) (fun h58 => ?_) (fun h58 => ?_)
      · refine V_iincU C dX7_barred_71 rfl (hn _ (by decide)) ?_
        refine V_goto C 37 dX7_barred_74 (by decide) ?_
        first | exact ih (e + 1) _ _ (by omega) hR (fun v q => hv v (by rw [brN, if_neg h58]; exact q)) | exact ih (e + 1) _ _ (by omega) hR2 (fun v q => hv v (by rw [brN, if_pos h58, if_pos h66]; exact q))
      · refine V_aload_n C dX7_barred_61 rfl ?_
        refine V_iload_n C dX7_barred_62 rfl ?_
        refine V_callV (F := fun _ => True) C (m_isFit hM hR hO (nI e)) mi_X7_isFit ml_X7_431 rfl (ob_K hM) (by decide) (by decide) (by decide) (Nat.le_of_ble_eq_true rfl) (fun _ _ => trivial) (fun v _ => clo_T v) rfl dX7_barred_63 ?_
        rintro v S' I2 J2 ⟨hS, rfl, k1⟩
        obtain rfl := hS.symm
        have hR2 := hR.kp k1
        refine V_if_eq C 71 dX7_barred_66 (by decide) (fun h66 => ?_) (fun h66 => ?_)
        · refine V_iincU C dX7_barred_71 rfl (hn _ (by decide)) ?_
          refine V_goto C 37 dX7_barred_74 (by decide) ?_
          first | exact ih (e + 1) _ _ (by omega) hR (fun v q => hv v (by rw [brN, if_neg h58]; exact q)) | exact ih (e + 1) _ _ (by omega) hR2 (fun v q => hv v (by rw [brN, if_pos h58, if_pos h66]; exact q))
        · refine V_iconst C (v := nI 0) dX7_barred_69 (by decide +kernel) ?_
          exact V_iret C (Nat.zero_le _) (Nat.zero_le _) dX7_barred_70 (hP _ _ _ ⟨by rw [← hv _ rfl, brN, if_pos h58, if_neg h66]; rfl, hR2⟩)
  have key : ∀ I0, RefR z I0 J → V X P 0 0 5 [some (.ref 1000), some (.int i), some (.int s), none] [] S I0 J := by
    intro I0 hR
    obtain ⟨x, hx, e10, e19⟩ := hR.2.2.2.2.1
    refine V_iload_n C dX7_barred_5 rfl ?_
    refine V_iconst C (v := nI 0) dX7_barred_6 (by decide +kernel) ?_
    refine V_aload_n C dX7_barred_7 rfl ?_
    refine V_getR C fl_X7_101 (ob_K hM) (ob_R hM 18 1019 rfl rfl) rfl dX7_barred_8 ?_
    refine V_aload_n C dX7_barred_11 rfl ?_
    refine V_getI C fl_X7_243 (ob_K hM) rfl dX7_barred_12 ?_
    refine V_iald C (x) (ob_A hM 18 1019 rfl rfl) e10 (by rw [ob_N hM 18 1019 rfl rfl]; omega) (by rw [ob_N hM 18 1019 rfl rfl]; decide) dX7_barred_15 ?_
    rw [e19]
    refine V_iconst C (v := nI 1) dX7_barred_16 (by decide +kernel) ?_
    refine V_isub C dX7_barred_17 ?_
    refine V_callS (F := fun _ => True) C (m_within _ _ _) ms_X7_within ml_X7_301 rfl (by decide) (by decide) (Nat.le_of_ble_eq_true rfl) (fun _ _ => trivial) (fun v _ => clo_T v) rfl dX7_barred_18 ?_
    rintro v S' I' J' ⟨hS, rfl, hI, hJ⟩
    obtain rfl := hS.symm
    obtain rfl := hI.symm
    obtain rfl := hJ.symm
    refine V_if_eq C 33 dX7_barred_21 (by decide) (fun h21 => ?_) (fun h21 => ?_)
    · refine V_iconst C (v := (-1)) dX7_barred_33 (by decide +kernel) ?_
      exact V_iret C (Nat.zero_le _) (Nat.zero_le _) dX7_barred_34 (hP _ _ _ (by have no : ¬ okBar z i s := (by first | exact fun q => (bI_0.mp h21) q.1 | exact fun q => (bI_0.mp h30) q.2); exact ⟨by rw [barV, if_neg no], hR⟩))
    · refine V_iload_n C dX7_barred_24 rfl ?_
      refine V_iconst C (v := nI 0) dX7_barred_25 (by decide +kernel) ?_
      refine V_iconst C (v := nI 1) dX7_barred_26 (by decide +kernel) ?_
      refine V_callS (F := fun _ => True) C (m_within _ _ _) ms_X7_within ml_X7_301 rfl (by decide) (by decide) (Nat.le_of_ble_eq_true rfl) (fun _ _ => trivial) (fun v _ => clo_T v) rfl dX7_barred_27 ?_
      rintro v S' I' J' ⟨hS, rfl, hI, hJ⟩
      obtain rfl := hS.symm
      obtain rfl := hI.symm
      obtain rfl := hJ.symm
      refine V_if_ne C 35 dX7_barred_30 (by decide) (fun h30 => ?_) (fun h30 => ?_)
      · refine V_iconst C (v := nI 0) dX7_barred_35 (by decide +kernel) ?_
        refine V_istore_n C dX7_barred_36 (hn _ (by decide)) ?_
        have ok : okBar z i s := ⟨Decidable.not_not.mp (fun q => h21 (bI_0.mpr q)), Decidable.not_not.mp (fun q => h30 (bI_0.mpr q))⟩
        exact loop _ 0 _ _ (Nat.zero_add _) hR (fun v q => by rw [barV, if_pos ok]; exact q)
      · refine V_iconst C (v := (-1)) dX7_barred_33 (by decide +kernel) ?_
        exact V_iret C (Nat.zero_le _) (Nat.zero_le _) dX7_barred_34 (hP _ _ _ (by have no : ¬ okBar z i s := (by first | exact fun q => (bI_0.mp h21) q.1 | exact fun q => (bI_0.mp h30) q.2); exact ⟨by rw [barV, if_neg no], hR⟩))
  refine V_aload_n C dX7_barred_0 rfl ?_
  refine V_iconst C (v := nI 0) dX7_barred_1 (by decide +kernel) ?_
  refine V_putI C fl_X7_1 (ob_K hM) rfl rfl dX7_barred_2 ?_
  exact key _ hR.zr
theorem askV_ex {D : DV} {n w v : Int32} (hD : rOk D) (h : ¬ askV D n w v = 0) : (∃ m, m ≤ 100 ∧ n = nI m) ∧ ∃ k, k ≤ 4 ∧ w = nI k ∧ (k = 0 → ∃ r, r < 12 ∧ v = nI r) := by
  unfold askV at h
  by_cases h1 : bI (nI 0 ≤ n ∧ n ≤ nI 100) = 0
  · rw [if_pos h1] at h; exact absurd rfl h
  rw [if_neg h1] at h
  by_cases h2 : bI (nI 0 ≤ w ∧ w ≤ nI 4) = 0
  · rw [if_pos h2] at h; exact absurd rfl h
  rw [if_neg h2] at h
  obtain ⟨k, hk, ek⟩ := wi_ex (by omega) (Decidable.not_not.mp (fun q => h2 (bI_0.mpr q)))
  refine ⟨wi_ex (by omega) (Decidable.not_not.mp (fun q => h1 (bI_0.mpr q))), k, hk, ek, fun e => ?_⟩
  subst e
  rw [ek] at h
  have e0 : ¬ rfl_w (nI 0) = 0 := by decide
  rw [if_neg e0] at h
  obtain ⟨r, h3, h4, h5⟩ := isR_ex (Decidable.not_not.mp (fun q => h (bI_0.mpr q))) hD
  exact ⟨r, h4, h5⟩
def soZ (z : SV) (g n w v : Int32) : Int32 := soV (itN (stZ z g) (cl n) z.1) (cl w) v
def askedV (z : SV) (g n w v : Int32) : Int32 := if isE z g then (if askV z.1.1 n w v = 0 then -1 else if soZ z g n w v = 0 then 0 else 1) else -1
set_option maxRecDepth 100000 in
theorem m_asked (hM : Ob S 7 1000) (hR : RefR z I J) (hO : OkR z) (g n w v : Int32) : Mn l yX7_asked cX7_asked 5 (some .int) 7 [.ref 1000, .int g, .int n, .int w, .int v] S I J (fun r I' J' => r = some (.int (askedV z g n w v)) ∧ RefR z I' J') := by
  refine Mn.of (by decide) (fun ad => by simp [lg_sl, vv, Value.category]) (fun X P hP hn C => ?_)
  have key : ∀ I0, RefR z I0 J → V X P 0 0 5 [some (.ref 1000), some (.int g), some (.int n), some (.int w), some (.int v)] [] S I0 J := by
    intro I0 hR
    have last : isE z g → ¬ askV z.1.1 n w v = 0 → V X P 0 0 26 [some (.ref 1000), some (.int g), some (.int n), some (.int w), some (.int v)] [] S I0 J := by
      intro o1 o2
      obtain ⟨⟨m, hm, em⟩, k, hk, ek, hr⟩ := askV_ex hO.1.1 o2
      have eS : soZ z g n w v = soV (itN (stZ z g) m z.1) k v := by rw [soZ, em, ek, cl, cl, nI_clamp (by omega), nI_clamp (by omega)]
      refine V_aload_n C dX7_asked_26 rfl ?_
      refine V_iload_n C dX7_asked_27 rfl ?_
      refine V_iload_n C dX7_asked_28 rfl ?_
      rw [em]
      refine V_callV (F := fun _ => True) C (m_tries hM hR hO g (n := m) (by omega)) mi_X7_tries ml_X7_422 rfl (ob_K hM) (by decide) (by decide) (by decide) (Nat.le_of_ble_eq_true rfl) (fun _ _ => trivial) (fun v _ => clo_T v) rfl dX7_asked_29 ?_
      rintro v S' I2 J2 ⟨hS, rfl, k1, k2, k3⟩
      obtain rfl := hS.symm
      have hR2 := hR.kp k1
      refine V_aload_n C dX7_asked_32 rfl ?_
      refine V_iload_n C dX7_asked_33 rfl ?_
      refine V_iload C dX7_asked_34 rfl ?_
      rw [ek]
      refine V_callV (F := fun _ => True) C (m_isSo hM k3 (itN_ok hO m _ hO.1) hk hr) mi_X7_isSo ml_X7_425 rfl (ob_K hM) (by decide) (by decide) (by decide) (Nat.le_of_ble_eq_true rfl) (fun _ _ => trivial) (fun v _ => clo_T v) rfl dX7_asked_36 ?_
      rintro v S' I' J' ⟨hS, rfl, hI, hJ⟩
      obtain rfl := hS.symm
      obtain rfl := hI.symm
      obtain rfl := hJ.symm
      refine V_if_eq C 46 dX7_asked_39 (by decide) (fun h39 => ?_) (fun h39 => ?_)
      · refine V_iconst C (v := nI 0) dX7_asked_46 (by decide +kernel) ?_
        exact V_iret C (Nat.zero_le _) (Nat.zero_le _) dX7_asked_47 (hP _ _ _ ⟨by rw [askedV, if_pos o1, if_neg o2, eS]; first | (rw [if_pos h39]; rfl) | (rw [if_neg h39]; rfl), hR2⟩)
      · refine V_iconst C (v := nI 1) dX7_asked_42 (by decide +kernel) ?_
        refine V_goto C 47 dX7_asked_43 (by decide) ?_
        exact V_iret C (Nat.zero_le _) (Nat.zero_le _) dX7_asked_47 (hP _ _ _ ⟨by rw [askedV, if_pos o1, if_neg o2, eS]; first | (rw [if_pos h39]; rfl) | (rw [if_neg h39]; rfl), hR2⟩)
    refine V_aload_n C dX7_asked_5 rfl ?_
    refine V_iload_n C dX7_asked_6 rfl ?_
    refine V_callV (F := fun _ => True) C (m_isEnd hM hR g) mi_X7_isEnd ml_X7_311 rfl (ob_K hM) (by decide) (by decide) (by decide) (Nat.le_of_ble_eq_true rfl) (fun _ _ => trivial) (fun v _ => clo_T v) rfl dX7_asked_7 ?_
    rintro v S' I' J' ⟨hS, rfl, hI, hJ⟩
    obtain rfl := hS.symm
    obtain rfl := hI.symm
    obtain rfl := hJ.symm
    refine V_if_eq C 24 dX7_asked_10 (by decide) (fun h10 => ?_) (fun h10 => ?_)
    · refine V_iconst C (v := (-1)) dX7_asked_24 (by decide +kernel) ?_
      exact V_iret C (Nat.zero_le _) (Nat.zero_le _) dX7_asked_25 (hP _ _ _ ⟨by rw [askedV]; first | rw [if_neg (bI_0.mp h10)] | rw [if_pos (Decidable.not_not.mp (fun q => h10 (bI_0.mpr q))), if_pos h21], hR⟩)
    · refine V_aload_n C dX7_asked_13 rfl ?_
      refine V_iload_n C dX7_asked_14 rfl ?_
      refine V_iload_n C dX7_asked_15 rfl ?_
      refine V_iload C dX7_asked_16 rfl ?_
      refine V_callV (F := fun _ => True) C (m_isAsked hM hR n w v) mi_X7_isAsked ml_X7_419 rfl (ob_K hM) (by decide) (by decide) (by decide) (Nat.le_of_ble_eq_true rfl) (fun _ _ => trivial) (fun v _ => clo_T v) rfl dX7_asked_18 ?_
      rintro v S' I' J' ⟨hS, rfl, hI, hJ⟩
      obtain rfl := hS.symm
      obtain rfl := hI.symm
      obtain rfl := hJ.symm
      refine V_if_ne C 26 dX7_asked_21 (by decide) (fun h21 => ?_) (fun h21 => ?_)
      · exact last (Decidable.not_not.mp (fun q => h10 (bI_0.mpr q))) h21
      · refine V_iconst C (v := (-1)) dX7_asked_24 (by decide +kernel) ?_
        exact V_iret C (Nat.zero_le _) (Nat.zero_le _) dX7_asked_25 (hP _ _ _ ⟨by rw [askedV]; first | rw [if_neg (bI_0.mp h10)] | rw [if_pos (Decidable.not_not.mp (fun q => h10 (bI_0.mpr q))), if_pos h21], hR⟩)
  refine V_aload_n C dX7_asked_0 rfl ?_
  refine V_iconst C (v := nI 0) dX7_asked_1 (by decide +kernel) ?_
  refine V_putI C fl_X7_1 (ob_K hM) rfl rfl dX7_asked_2 ?_
  exact key _ hR.zr
def alN (f : Nat → Int32) : Nat → Int32
  | 0 => 1
  | e + 1 => if alN f e = 0 then 0 else if f e = 0 then 0 else 1
def ayN (f : Nat → Int32) : Nat → Int32
  | 0 => 0
  | e + 1 => if ayN f e = 0 then (if f e = 0 then 0 else 1) else 1
def sureW (f : Nat → Int32) (n : Nat) : Int32 := if alN f n = 0 then (if ayN f n = 0 then nI 0 else nI 1) else nI 2
def sureV (z : SV) (n w v : Int32) : Int32 := if askV z.1.1 n w v = 0 then -1 else sureW (fun e => soZ z (nI e) n w v) (2 ^ opN z.2.2.1.1)
set_option maxRecDepth 100000 in
set_option maxHeartbeats 1000000 in
theorem m_sure (hM : Ob S 7 1000) (hR : RefR z I J) (hO : OkR z) (n w v : Int32) : Mn l yX7_sure cX7_sure 8 (some .int) 7 [.ref 1000, .int n, .int w, .int v] S I J (fun r I' J' => r = some (.int (sureV z n w v)) ∧ RefR z I' J') := by
  refine Mn.of (by decide) (fun ad => by simp [lg_sl, vv, Value.category]) (fun X P hP hn C => ?_)
  obtain ⟨hE, hE2⟩ := eN_eq hO
  have loop : ¬ askV z.1.1 n w v = 0 → ∀ (c e : Nat) (In : HI) (Jn : HJ) (x7 : Option Value), e + c = 2 ^ opN z.2.2.1.1 → RefR z In Jn → V X P 0 0 26 [some (.ref 1000), some (.int n), some (.int w), some (.int v), some (.int (alN (fun e => soZ z (nI e) n w v) e)), some (.int (ayN (fun e => soZ z (nI e) n w v) e)), some (.int (nI e)), x7] [] S In Jn := by
    intro o2 c
    obtain ⟨⟨m, hm, em⟩, k, hk, ek, hr⟩ := askV_ex hO.1.1 o2
    subst em
    subst ek
    have eS : ∀ g, soZ z g (nI m) (nI k) v = soV (itN (stZ z g) m z.1) k v := fun g => by rw [soZ, cl, cl, nI_clamp (by omega), nI_clamp (by omega)]
    generalize hf : (fun e => soZ z (nI e) (nI m) (nI k) v) = f at *
    have hfe : ∀ e, f e = soV (itN (stZ z (nI e)) m z.1) k v := fun e => by rw [← hf]; exact eS _
    induction c with
    | zero =>
      intro e In Jn x7 he hR
      have he : e = 2 ^ opN z.2.2.1.1 := he
      obtain ⟨x, hx, e10, e19⟩ := hR.2.2.2.2.1
      have eA : sureV z (nI m) (nI k) v = sureW f e := by rw [sureV, if_neg o2, hf, he]
      refine V_iload C dX7_sure_26 rfl ?_
      refine V_iconst C (v := nI 1) dX7_sure_28 (by decide +kernel) ?_
      refine V_aload_n C dX7_sure_29 rfl ?_
      refine V_getR C fl_X7_101 (ob_K hM) (ob_R hM 18 1019 rfl rfl) rfl dX7_sure_30 ?_
      refine V_aload_n C dX7_sure_33 rfl ?_
      refine V_getI C fl_X7_243 (ob_K hM) rfl dX7_sure_34 ?_
      refine V_iald C (x) (ob_A hM 18 1019 rfl rfl) e10 (by rw [ob_N hM 18 1019 rfl rfl]; omega) (by rw [ob_N hM 18 1019 rfl rfl]; decide) dX7_sure_37 ?_
      rw [e19]
      refine V_ishl C dX7_sure_38 ?_
      rw [show nI 1 <<< (nI (opN z.2.2.1.1) &&& 31) = nI e by rw [he]; exact hE]
      refine V_icmp_ge C 97 dX7_sure_39 (by decide) (fun h39 => ?_) (fun h39 => absurd (Int32.le_refl _) h39)
      refine V_iload C dX7_sure_97 rfl ?_
      refine V_if_eq C 106 dX7_sure_99 (by decide) (fun h99 => ?_) (fun h99 => ?_)
      · refine V_iload C dX7_sure_106 rfl ?_
        refine V_if_eq C 115 dX7_sure_108 (by decide) (fun h108 => ?_) (fun h108 => ?_)
        · refine V_iconst C (v := nI 0) dX7_sure_115 (by decide +kernel) ?_
          exact V_iret C (Nat.zero_le _) (Nat.zero_le _) dX7_sure_116 (hP _ _ _ ⟨by rw [eA, sureW]; first | (rw [if_pos h99, if_pos h108]) | (rw [if_pos h99, if_neg h108]) | (rw [if_neg h99]), hR⟩)
        · refine V_iconst C (v := nI 1) dX7_sure_111 (by decide +kernel) ?_
          refine V_goto C 116 dX7_sure_112 (by decide) ?_
          exact V_iret C (Nat.zero_le _) (Nat.zero_le _) dX7_sure_116 (hP _ _ _ ⟨by rw [eA, sureW]; first | (rw [if_pos h99, if_pos h108]) | (rw [if_pos h99, if_neg h108]) | (rw [if_neg h99]), hR⟩)
      · refine V_iconst C (v := nI 2) dX7_sure_102 (by decide +kernel) ?_
        refine V_goto C 116 dX7_sure_103 (by decide) ?_
        exact V_iret C (Nat.zero_le _) (Nat.zero_le _) dX7_sure_116 (hP _ _ _ ⟨by rw [eA, sureW]; first | (rw [if_pos h99, if_pos h108]) | (rw [if_pos h99, if_neg h108]) | (rw [if_neg h99]), hR⟩)
    | succ c ih =>
      intro e In Jn x7 he hR
      obtain ⟨x, hx, e10, e19⟩ := hR.2.2.2.2.1
      have nx := fun In Jn (h : RefR z In Jn) x7 => ih (e + 1) In Jn x7 (by omega) h
      simp only [alN, ayN] at nx
      refine V_iload C dX7_sure_26 rfl ?_
      refine V_iconst C (v := nI 1) dX7_sure_28 (by decide +kernel) ?_
      refine V_aload_n C dX7_sure_29 rfl ?_
      refine V_getR C fl_X7_101 (ob_K hM) (ob_R hM 18 1019 rfl rfl) rfl dX7_sure_30 ?_
      refine V_aload_n C dX7_sure_33 rfl ?_
      refine V_getI C fl_X7_243 (ob_K hM) rfl dX7_sure_34 ?_
      refine V_iald C (x) (ob_A hM 18 1019 rfl rfl) e10 (by rw [ob_N hM 18 1019 rfl rfl]; omega) (by rw [ob_N hM 18 1019 rfl rfl]; decide) dX7_sure_37 ?_
      rw [e19]
      refine V_ishl C dX7_sure_38 ?_
      rw [show nI 1 <<< (nI (opN z.2.2.1.1) &&& 31) = nI (2 ^ opN z.2.2.1.1) from hE]
      refine V_icmp_ge C 97 dX7_sure_39 (by decide) (fun h39 => absurd h39 (nI_ge (by omega) (by omega))) (fun h39 => ?_)
      refine V_aload_n C dX7_sure_42 rfl ?_
      refine V_iload C dX7_sure_43 rfl ?_
      refine V_iload_n C dX7_sure_45 rfl ?_
      refine V_callV (F := fun _ => True) C (m_tries hM hR hO (nI e) (n := m) (by omega)) mi_X7_tries ml_X7_422 rfl (ob_K hM) (by decide) (by decide) (by decide) (Nat.le_of_ble_eq_true rfl) (fun _ _ => trivial) (fun v _ => clo_T v) rfl dX7_sure_46 ?_
      rintro v S' I2 J2 ⟨hS, rfl, k1, k2, k3⟩
      obtain rfl := hS.symm
      have hR2 := hR.kp k1
      refine V_aload_n C dX7_sure_49 rfl ?_
      refine V_iload_n C dX7_sure_50 rfl ?_
      refine V_iload_n C dX7_sure_51 rfl ?_
      refine V_callV (F := fun _ => True) C (m_isSo hM k3 (itN_ok hO m _ hO.1) hk hr) mi_X7_isSo ml_X7_425 rfl (ob_K hM) (by decide) (by decide) (by decide) (Nat.le_of_ble_eq_true rfl) (fun _ _ => trivial) (fun v _ => clo_T v) rfl dX7_sure_52 ?_
      rintro v S' I' J' ⟨hS, rfl, hI, hJ⟩
      obtain rfl := hS.symm
      obtain rfl := hI.symm
      obtain rfl := hJ.symm
      rw [← hfe]
      refine V_istore C dX7_sure_55 (hn _ (by decide)) ?_
      refine V_iload C dX7_sure_57 rfl ?_
      refine V_tern_if_eq (vt := nI 0) (vf := if f e = 0 then nI 0 else nI 1) (pm := 72) C 71 dX7_sure_59 (by decide) (fun h59 k => ?_) (fun h59 k => ?_) ?_
      · refine V_iconst C (v := nI 0) dX7_sure_71 (by decide +kernel) ?_
        exact k
      · refine V_iload C dX7_sure_62 rfl ?_
        refine V_tern_if_eq (vt := nI 0) (vf := nI 1) (pm := 72) C 71 dX7_sure_64 (by decide) (fun h64 k => ?_) (fun h64 k => ?_) ?_
        · refine V_iconst C (v := nI 0) dX7_sure_71 (by decide +kernel) ?_
          exact k
        · refine V_iconst C (v := nI 1) dX7_sure_67 (by decide +kernel) ?_
          refine V_goto C 72 dX7_sure_68 (by decide) ?_
          exact k
        exact k
      refine V_istore C dX7_sure_72 (hn _ (by decide)) ?_
      refine V_iload C dX7_sure_74 rfl ?_
      refine V_tern_if_ne (vt := if f e = 0 then nI 0 else nI 1) (vf := nI 1) (pm := 89) C 84 dX7_sure_76 (by decide) (fun h76 k => ?_) (fun h76 k => ?_) ?_
      · refine V_iload C dX7_sure_79 rfl ?_
        refine V_tern_if_eq (vt := nI 0) (vf := nI 1) (pm := 89) C 88 dX7_sure_81 (by decide) (fun h81 k => ?_) (fun h81 k => ?_) ?_
        · refine V_iconst C (v := nI 0) dX7_sure_88 (by decide +kernel) ?_
          exact k
        · refine V_iconst C (v := nI 1) dX7_sure_84 (by decide +kernel) ?_
          refine V_goto C 89 dX7_sure_85 (by decide) ?_
          exact k
        exact k
      · refine V_iconst C (v := nI 1) dX7_sure_84 (by decide +kernel) ?_
        refine V_goto C 89 dX7_sure_85 (by decide) ?_
        exact k
      refine V_istore C dX7_sure_89 (hn _ (by decide)) ?_
      refine V_iincU C dX7_sure_91 rfl (hn _ (by decide)) ?_
      refine V_goto C 26 dX7_sure_94 (by decide) ?_
      exact nx _ _ hR2 _
  have key : ∀ I0, RefR z I0 J → V X P 0 0 5 [some (.ref 1000), some (.int n), some (.int w), some (.int v), none, none, none, none] [] S I0 J := by
    intro I0 hR
    refine V_aload_n C dX7_sure_5 rfl ?_
    refine V_iload_n C dX7_sure_6 rfl ?_
    refine V_iload_n C dX7_sure_7 rfl ?_
    refine V_iload_n C dX7_sure_8 rfl ?_
    refine V_callV (F := fun _ => True) C (m_isAsked hM hR n w v) mi_X7_isAsked ml_X7_419 rfl (ob_K hM) (by decide) (by decide) (by decide) (Nat.le_of_ble_eq_true rfl) (fun _ _ => trivial) (fun v _ => clo_T v) rfl dX7_sure_9 ?_
    rintro v S' I' J' ⟨hS, rfl, hI, hJ⟩
    obtain rfl := hS.symm
    obtain rfl := hI.symm
    obtain rfl := hJ.symm
    refine V_if_ne C 17 dX7_sure_12 (by decide) (fun h12 => ?_) (fun h12 => ?_)
    · refine V_iconst C (v := nI 1) dX7_sure_17 (by decide +kernel) ?_
      refine V_istore C dX7_sure_18 (hn _ (by decide)) ?_
      refine V_iconst C (v := nI 0) dX7_sure_20 (by decide +kernel) ?_
      refine V_istore C dX7_sure_21 (hn _ (by decide)) ?_
      refine V_iconst C (v := nI 0) dX7_sure_23 (by decide +kernel) ?_
      refine V_istore C dX7_sure_24 (hn _ (by decide)) ?_
      exact loop h12 _ 0 _ _ _ (Nat.zero_add _) hR
    · refine V_iconst C (v := (-1)) dX7_sure_15 (by decide +kernel) ?_
      exact V_iret C (Nat.zero_le _) (Nat.zero_le _) dX7_sure_16 (hP _ _ _ ⟨by rw [sureV, if_pos h12], hR⟩)
  refine V_aload_n C dX7_sure_0 rfl ?_
  refine V_iconst C (v := nI 0) dX7_sure_1 (by decide +kernel) ?_
  refine V_putI C fl_X7_1 (ob_K hM) rfl rfl dX7_sure_2 ?_
  exact key _ hR.zr
def emN (f : QV → QV) (r : Nat) : Nat → QV → Int32
  | 0, q => if aD q.1 r = 0 then q.1 0 1 else -1
  | c + 1, q => if aD q.1 r = 0 then q.1 0 1 else emN f r c (f q)
abbrev okEmp (z : SV) (r g : Int32) : Prop := isR z.1.1 r ∧ isE z g
def empV (z : SV) (r g : Int32) : Int32 := if okEmp z r g then emN (stZ z g) (cl r) 200 z.1 else -1
set_option maxRecDepth 100000 in
set_option maxHeartbeats 1000000 in
theorem m_empty (hM : Ob S 7 1000) (hR : RefR z I J) (hO : OkR z) (r g : Int32) : Mn l yX7_empty cX7_empty 4 (some .int) 7 [.ref 1000, .int r, .int g] S I J (fun v I' J' => v = some (.int (empV z r g)) ∧ RefR z I' J') := by
  refine Mn.of (by decide) (fun ad => by simp [lg_sl, vv, Value.category]) (fun X P hP hn C => ?_)
  have loop : ∀ (k : Nat), k < 12 → r = nI k → ∀ (c x : Nat) (In : HI) (Jn : HJ) (q : QV), x + c = 200 → RefR z In Jn → In 1000 25 = g → refQ In Jn 7 = q → okD q.1 → (∀ v, v = emN (stZ z g) k c q → v = empV z r g) → V X P 0 0 31 [some (.ref 1000), some (.int r), some (.int g), some (.int (nI x))] [] S In Jn := by
    intro k hk ek c
    subst ek
    induction c with
    | zero =>
      intro x In Jn q hx hR h2 h3 h4 hv
      have hx : x = 200 := hx
      subst hx
      have e34 : In 1034 7 = q.1 0 1 := by rw [← q7 h3]; rfl
      have done : ¬ aD q.1 k = 0 → V X P 0 0 31 [some (.ref 1000), some (.int (nI k)), some (.int g), some (.int (nI 201))] [] S In Jn := by
        intro h45
        refine V_iload_n C dX7_empty_31 rfl ?_
        refine V_sipush C (v := nI 200) dX7_empty_32 (by decide +kernel) ?_
        refine V_icmp_gt C 75 dX7_empty_35 (by decide) (fun h35 => ?_) (fun h35 => absurd (by decide) h35)
        refine V_iconst C (v := (-1)) dX7_empty_75 (by decide +kernel) ?_
        exact V_iret C (Nat.zero_le _) (Nat.zero_le _) dX7_empty_76 (hP _ _ _ ⟨by rw [← hv _ rfl, emN, if_neg h45], hR⟩)
      refine V_iload_n C dX7_empty_31 rfl ?_
      refine V_sipush C (v := nI 200) dX7_empty_32 (by decide +kernel) ?_
      refine V_icmp_gt C 75 dX7_empty_35 (by decide) (fun h35 => absurd h35 (by decide)) (fun h35 => ?_)
      refine V_aload_n C dX7_empty_38 rfl ?_
      refine V_bipush C (v := nI 7) dX7_empty_39 (by decide +kernel) ?_
      refine V_iload_n C dX7_empty_41 rfl ?_
      refine V_callV (F := fun _ => True) C (m_allDust (b := 7) hM (by omega) hk) mi_X7_allDust ml_X7_314 rfl (ob_K hM) (by decide) (by decide) (by decide) (Nat.le_of_ble_eq_true rfl) (fun _ _ => trivial) (fun v _ => clo_T v) rfl dX7_empty_42 ?_
      rintro v S' I' J' ⟨hS, rfl, hI, hJ⟩
      obtain rfl := hS.symm
      obtain rfl := hI.symm
      obtain rfl := hJ.symm
      rw [r_aD (J := Jn) hk, q7 h3]
      refine V_if_ne C 56 dX7_empty_45 (by decide) (fun h45 => ?_) (fun h45 => ?_)
      · refine V_iload_n C dX7_empty_56 rfl ?_
        refine V_sipush C (v := nI 200) dX7_empty_57 (by decide +kernel) ?_
        refine V_icmp_ge C 69 dX7_empty_60 (by decide) (fun h60 => ?_) (fun h60 => absurd (by decide) h60)
        refine V_iincU C dX7_empty_69 rfl (hn _ (by decide)) ?_
        refine V_goto C 31 dX7_empty_72 (by decide) ?_
        exact done h45
      · refine V_aload_n C dX7_empty_48 rfl ?_
        refine V_getR C fl_X7_137 (ob_K hM) (ob_R hM 33 1034 rfl rfl) rfl dX7_empty_49 ?_
        refine V_bipush C (v := nI 7) dX7_empty_52 (by decide +kernel) ?_
        refine V_iald C (7) (ob_A hM 33 1034 rfl rfl) (by first | rfl | (simp only [nI_add, pk_mul]; done) | (simp only [nI_add, pk_mul]; congr 1; omega)) (by rw [ob_N hM 33 1034 rfl rfl]; omega) (by rw [ob_N hM 33 1034 rfl rfl]; decide) dX7_empty_54 ?_
        exact V_iret C (Nat.zero_le _) (Nat.zero_le _) dX7_empty_55 (hP _ _ _ ⟨by rw [← hv _ rfl, emN, if_pos h45, e34], hR⟩)
    | succ c ih =>
      intro x In Jn q hx hR h2 h3 h4 hv
      have e34 : In 1034 7 = q.1 0 1 := by rw [← q7 h3]; rfl
      refine V_iload_n C dX7_empty_31 rfl ?_
      refine V_sipush C (v := nI 200) dX7_empty_32 (by decide +kernel) ?_
      refine V_icmp_gt C 75 dX7_empty_35 (by decide) (fun h35 => absurd h35 (Int32.not_lt.mpr (nI_le (by omega) (by omega)))) (fun h35 => ?_)
      refine V_aload_n C dX7_empty_38 rfl ?_
      refine V_bipush C (v := nI 7) dX7_empty_39 (by decide +kernel) ?_
      refine V_iload_n C dX7_empty_41 rfl ?_
      refine V_callV (F := fun _ => True) C (m_allDust (b := 7) hM (by omega) hk) mi_X7_allDust ml_X7_314 rfl (ob_K hM) (by decide) (by decide) (by decide) (Nat.le_of_ble_eq_true rfl) (fun _ _ => trivial) (fun v _ => clo_T v) rfl dX7_empty_42 ?_
      rintro v S' I' J' ⟨hS, rfl, hI, hJ⟩
      obtain rfl := hS.symm
      obtain rfl := hI.symm
      obtain rfl := hJ.symm
      rw [r_aD (J := Jn) hk, q7 h3]
      refine V_if_ne C 56 dX7_empty_45 (by decide) (fun h45 => ?_) (fun h45 => ?_)
      · refine V_iload_n C dX7_empty_56 rfl ?_
        refine V_sipush C (v := nI 200) dX7_empty_57 (by decide +kernel) ?_
        refine V_icmp_ge C 69 dX7_empty_60 (by decide) (fun h60 => absurd h60 (nI_ge (by omega) (by omega))) (fun h60 => ?_)
        refine V_aload_n C dX7_empty_63 rfl ?_
        refine V_bipush C (v := nI 7) dX7_empty_64 (by decide +kernel) ?_
        refine V_callV (F := fun _ => True) C (m_steps1 (b := 7) hM (by omega) (hR.rG hO h2) (fun f => hO.2.2.1 g f) hR.2.1 (by rw [q7 h3]; exact h4)) mi_X7_steps1 ml_X7_394 rfl (ob_K hM) (by decide) (by decide) (by decide) (Nat.le_of_ble_eq_true rfl) (fun _ _ => trivial) (fun v _ => clo_T v) rfl dX7_empty_66 ?_
        rintro v S' I2 J2 ⟨hS, rfl, e, f⟩
        obtain rfl := hS.symm
        obtain ⟨s1, s2, s3⟩ := st7 hR hO h3 h4 e f
        refine V_iincU C dX7_empty_69 rfl (hn _ (by decide)) ?_
        refine V_goto C 31 dX7_empty_72 (by decide) ?_
        exact ih (x + 1) _ _ _ (by omega) (hR.kp s1) (s2.trans h2) s3 (step_ok (fun f => hO.2.2.1 g f) h4) (fun v q => hv v (by rw [emN, if_neg h45]; exact q))
      · refine V_aload_n C dX7_empty_48 rfl ?_
        refine V_getR C fl_X7_137 (ob_K hM) (ob_R hM 33 1034 rfl rfl) rfl dX7_empty_49 ?_
        refine V_bipush C (v := nI 7) dX7_empty_52 (by decide +kernel) ?_
        refine V_iald C (7) (ob_A hM 33 1034 rfl rfl) (by first | rfl | (simp only [nI_add, pk_mul]; done) | (simp only [nI_add, pk_mul]; congr 1; omega)) (by rw [ob_N hM 33 1034 rfl rfl]; omega) (by rw [ob_N hM 33 1034 rfl rfl]; decide) dX7_empty_54 ?_
        exact V_iret C (Nat.zero_le _) (Nat.zero_le _) dX7_empty_55 (hP _ _ _ ⟨by rw [← hv _ rfl, emN, if_pos h45, e34], hR⟩)
  have key : ∀ I0, RefR z I0 J → V X P 0 0 5 [some (.ref 1000), some (.int r), some (.int g), none] [] S I0 J := by
    intro I0 hR
    refine V_aload_n C dX7_empty_5 rfl ?_
    refine V_iload_n C dX7_empty_6 rfl ?_
    refine V_callV (F := fun _ => True) C (m_isRing hM hR r) mi_X7_isRing ml_X7_305 rfl (ob_K hM) (by decide) (by decide) (by decide) (Nat.le_of_ble_eq_true rfl) (fun _ _ => trivial) (fun v _ => clo_T v) rfl dX7_empty_7 ?_
    rintro v S' I' J' ⟨hS, rfl, hI, hJ⟩
    obtain rfl := hS.symm
    obtain rfl := hI.symm
    obtain rfl := hJ.symm
    refine V_if_eq C 21 dX7_empty_10 (by decide) (fun h10 => ?_) (fun h10 => ?_)
    · refine V_iconst C (v := (-1)) dX7_empty_21 (by decide +kernel) ?_
      exact V_iret C (Nat.zero_le _) (Nat.zero_le _) dX7_empty_22 (hP _ _ _ (by have no : ¬ okEmp z r g := (by first | exact fun q => (bI_0.mp h10) q.1 | exact fun q => (bI_0.mp h18) q.2); exact ⟨by rw [empV, if_neg no], hR⟩))
    · refine V_aload_n C dX7_empty_13 rfl ?_
      refine V_iload_n C dX7_empty_14 rfl ?_
      refine V_callV (F := fun _ => True) C (m_isEnd hM hR g) mi_X7_isEnd ml_X7_311 rfl (ob_K hM) (by decide) (by decide) (by decide) (Nat.le_of_ble_eq_true rfl) (fun _ _ => trivial) (fun v _ => clo_T v) rfl dX7_empty_15 ?_
      rintro v S' I' J' ⟨hS, rfl, hI, hJ⟩
      obtain rfl := hS.symm
      obtain rfl := hI.symm
      obtain rfl := hJ.symm
      refine V_if_ne C 23 dX7_empty_18 (by decide) (fun h18 => ?_) (fun h18 => ?_)
      · refine V_aload_n C dX7_empty_23 rfl ?_
        refine V_iload_n C dX7_empty_24 rfl ?_
        refine V_iconst C (v := nI 0) dX7_empty_25 (by decide +kernel) ?_
        refine V_callV (F := fun _ => True) C (m_tries hM hR hO g (n := 0) (by omega)) mi_X7_tries ml_X7_422 rfl (ob_K hM) (by decide) (by decide) (by decide) (Nat.le_of_ble_eq_true rfl) (fun _ _ => trivial) (fun v _ => clo_T v) rfl dX7_empty_26 ?_
        rintro v S' I2 J2 ⟨hS, rfl, k1, k2, k3⟩
        obtain rfl := hS.symm
        have hR2 := hR.kp k1
        refine V_iconst C (v := nI 0) dX7_empty_29 (by decide +kernel) ?_
        refine V_istore_n C dX7_empty_30 (hn _ (by decide)) ?_
        have ok : okEmp z r g := ⟨Decidable.not_not.mp (fun q => h10 (bI_0.mpr q)), Decidable.not_not.mp (fun q => h18 (bI_0.mpr q))⟩
        obtain ⟨k, hk, hk2, ek⟩ := isR_ex ok.1 hO.1.1
        exact loop k hk2 ek 200 0 _ _ _ rfl hR2 k2 k3 hO.1 (fun v q => by rw [empV, if_pos ok, ek, cl, nI_clamp (by omega)]; exact q)
      · refine V_iconst C (v := (-1)) dX7_empty_21 (by decide +kernel) ?_
        exact V_iret C (Nat.zero_le _) (Nat.zero_le _) dX7_empty_22 (hP _ _ _ (by have no : ¬ okEmp z r g := (by first | exact fun q => (bI_0.mp h10) q.1 | exact fun q => (bI_0.mp h18) q.2); exact ⟨by rw [empV, if_neg no], hR⟩))
  refine V_aload_n C dX7_empty_0 rfl ?_
  refine V_iconst C (v := nI 0) dX7_empty_1 (by decide +kernel) ?_
  refine V_putI C fl_X7_1 (ob_K hM) rfl rfl dX7_empty_2 ?_
  exact key _ hR.zr
end M22
