/-! the class's call: laws; what the class needs is kept by it -/
section C40
variable {l : Launch} {S S' : HS} {I I' : HI} {J : HJ} {z : SV} {la lb : Nat}
theorem CR.lw {L : List Law} {e : Int32} {la' : Nat} (hO : OkC z) (h : CR la z S I J) (hlb : hLA lb) (r : ∀ a, a ≠ 1100 → a ≠ 1120 → a ≠ 1130 → (a < lb ∨ lb + 11 < a) → I' a = I a) (r0 : ∀ x, x ≠ 8 → I' 1100 x = I 1100 x) (e8 : I' 1100 8 = e) (et : I' 1120 0 = nI 0) (hL : CL I' la' L) (hS : S'.2.2 1103 = S.2.2 1103 ∧ S'.1 = S.1) (hD : ∀ c, 1500 ≤ c → Dk S c → Dk S' c) : CR la' (z.1, z.2.1, (L, e, z.2.2.1.2.2), [], z.2.2.2.2) S' I' J := by
  obtain ⟨h1, h2, h3, h4, h5, h6, h7, h8⟩ := h
  have rr : ∀ a, (1200 ≤ a ∨ a = 1110 ∨ a = 1111 ∨ a = 1140) → I' a = I a := fun a ha => r a (by omega) (by omega) (by omega) (by omega)
  refine ⟨h1.same (fun a g1 g2 => rr a (by omega)) rfl hO.1.1.1.2.2.2.2.1, fun m hm => ?_, hL, e8, by rw [rr 1140 (by omega)]; exact h5, by rw [rr 1140 (by omega)]; exact h6, ⟨et, fun i hi => absurd hi (Nat.not_lt_zero _)⟩, ?_⟩
  · have hm2 := h2 m hm
    unfold mkC at hm2 ⊢
    show (match z.2.1 m with | none => S'.2.2 1103 m = none ∧ ∀ a, 1900 + 400 * m ≤ a → a < 2300 + 400 * m → S'.1 a = 0 | some q => S'.2.2 1103 m = some (1900 + 400 * m) ∧ Dk S' (1900 + 400 * m) ∧ CQ I' J (1900 + 400 * m) q)
    cases hz : z.2.1 m with
    | none => rw [hz] at hm2; dsimp only at hm2 ⊢; rw [hS.1, hS.2]; exact hm2
    | some q =>
      rw [hz] at hm2
      dsimp only at hm2 ⊢
      exact ⟨by rw [hS.1]; exact hm2.1, hD _ (by omega) hm2.2.1, hm2.2.2.same (fun a g1 g2 => rr a (by omega)) rfl (hO.2.1 m q hz).1.1.2.2.2.2.1⟩
  · show tdK I' z.2.2.2.2
    unfold tdK
    rw [r0 11 (by decide), rr 1110 (by omega), rr 1111 (by omega)]
    exact h8
theorem SS.mv {la' lb' : Nat} (h : SS S la lb) (e1 : S'.1 = S.1) (e2 : S'.2.1 = S.2.1) (r : ∀ a, a ≠ 1100 → a ≠ 1130 → a ≠ 1140 → S'.2.2 a = S.2.2 a) (r1 : ∀ x, x ≠ 6 → x ≠ 7 → S'.2.2 1100 x = S.2.2 1100 x) (r2 : ∀ x, x ≠ 1 → S'.2.2 1140 x = S.2.2 1140 x) (q6 : S'.2.2 1100 6 = some la') (q7 : S'.2.2 1100 7 = some lb') (q1 : S'.2.2 1140 1 = some la') (hll : (la' = 1160 ∧ lb' = 1180) ∨ (la' = 1180 ∧ lb' = 1160)) (hw : wfS S') (r3 : S'.2.2 1130 0 = S.2.2 1130 0) : SS S' la' lb' := by
  obtain ⟨h1, ⟨p0, p1, p3, p4, p5, p6, p7⟩, h3, h4, h5, h6, h7, h8, h9, h10, h11, h12⟩ := h
  have hl : Ob S 2 1160 ∧ Ob S 2 1180 := by
    rcases h11 with ⟨x, y⟩ | ⟨x, y⟩
    · rw [← x, ← y]; exact ⟨h7, h8⟩
    · rw [← x, ← y]; exact ⟨h8, h7⟩
  have hl' : Ob S' 2 1160 ∧ Ob S' 2 1180 := ⟨hl.1.rr e1 e2 (r _ (by decide) (by decide) (by decide)), hl.2.rr e1 e2 (r _ (by decide) (by decide) (by decide))⟩
  refine ⟨⟨by rw [e1]; exact h1.1, fun x kd ln hx => ?_⟩, ⟨by rw [r1 0 (by decide) (by decide)]; exact p0, by rw [r1 1 (by decide) (by decide)]; exact p1, by rw [r1 3 (by decide) (by decide)]; exact p3, by rw [r1 4 (by decide) (by decide)]; exact p4, by rw [r1 5 (by decide) (by decide)]; exact p5, q6, q7⟩, ⟨by rw [e1]; exact h3.1, fun x kd ln hx => ?_⟩, q1, ⟨⟨by rw [e1]; exact h5.1.1, fun x kd ln hx => by rw [arr_4 x] at hx; cases hx⟩, by rw [r3]; exact h5.2⟩, h6.rr e1 e2 (r _ (by decide) (by decide) (by decide)), ?_, ?_, h9.rr e1 e2 (fun a g1 g2 => r a (by omega) (by omega) (by omega)), h10.rr e1 e2 (fun a g1 g2 => r a (by omega) (by omega) (by omega)), hll, hw⟩
  · have n6 : x ≠ 6 := fun e => by subst e; cases hx
    have n7 : x ≠ 7 := fun e => by subst e; cases hx
    rw [e1, e2, r1 x n6 n7]
    exact h1.2 x kd ln hx
  · have n1 : x ≠ 1 := fun e => by subst e; cases hx
    rw [e1, e2, r2 x n1]
    exact h3.2 x kd ln hx
  · rcases hll with ⟨x, -⟩ | ⟨x, -⟩
    · rw [x]; exact hl'.1
    · rw [x]; exact hl'.2
  · rcases hll with ⟨-, x⟩ | ⟨-, x⟩
    · rw [x]; exact hl'.2
    · rw [x]; exact hl'.1
theorem BLw.cl {L : List Law} (h : BLw I la L) (h24 : L.length ≤ 24) (hcd : cdN L ≤ 1000) (hw : ∀ w ∈ L, lgW w) : CL I la L := ⟨h.1.1, h.1.2.1, fun k hk => (h.2.1 k hk).1, h24, hcd, h.2.2, fun w hx => (hw w hx).1⟩
set_option maxRecDepth 100000 in
set_option maxHeartbeats 2000000 in
theorem f_laws (hR : ClsR z S I J) (hO : OkC z) : Mf l yX6_laws cX6_laws 3 (some .int) 33 [.ref 1100] S I J (fun v S' I' J' => v = some (.int (lawsF z)) ∧ ClsR (nLaws z) S' I' J') := by
  refine Mf.of (by decide) (fun ad => by simp [lg_sl, vv, Value.category]) (fun X P hP hn C => ?_)
  obtain ⟨la, lb, hS, hC⟩ := hR
  have hll := hS.2.2.2.2.2.2.2.2.2.2.1
  have hlb : hLA lb := by omega
  obtain ⟨h1, ⟨r0, r1, r3, r4, r5, r6, r7⟩, hF, h4, h5, h6, h7, h8, h9, h10, h11, h12⟩ := id hS
  have hE : TG I z.2.2.2.1 := ⟨hC.2.2.2.2.2.2.1, hO.2.2.2.2.2.2.2.2.2.1, hO.2.2.2.2.2.2.2.2.2.2⟩
  obtain ⟨S1, hS1⟩ : ∃ S1, S1 = rdS S lb := ⟨_, rfl⟩
  have k1 : S1.1 = S.1 := by rw [hS1]; rfl
  have k2 : S1.2.1 = S.2.1 := by rw [hS1]; rfl
  have k3 : ∀ a, a ≠ 1130 → S1.2.2 a = S.2.2 a := fun a ha => by rw [hS1]; exact rdS_ne ha
  have hw1 : wfS S1 := by rw [hS1]; exact h12.put (a := 1130) (x := 1) (v := lb) (by show S.1 lb ≠ 0; rw [h8.1]; omega)
  have hSS1 : SS S1 la lb := hS.mv k1 k2 (fun a _ g _ => k3 a g) (fun x _ _ => by rw [k3 1100 (by decide)]) (fun x _ => by rw [k3 1140 (by decide)]) (by rw [k3 1100 (by decide)]; exact r6) (by rw [k3 1100 (by decide)]; exact r7) (by rw [k3 1140 (by decide)]; exact h4) hll hw1 (by rw [hS1]; show up2 S.2.2 1130 1 (some lb) 1130 0 = _; rw [up2_row, va_up_ne _ _ (by decide)])
  have hD1 : ∀ c, 1500 ≤ c → Dk S c → Dk S1 c := fun c hc h => h.rr k1 k2 (fun a g1 g2 => k3 a (by omega))
  have m1 : Ob S1 6 1100 := hSS1.1
  have mT : Ob S1 5 1120 := hSS1.2.2.2.2.2.1
  have q3 : S1.2.2 1100 3 = some 1120 := by rw [k3 1100 (by decide)]; exact r3
  have k11 : ∀ (v : Option Value) (I1 : HI), (∀ b, b ≠ 1130 → (b < lb ∨ lb + 11 < b) → I1 b = I b) → RdQ z.2.2.2.1 lb v I1 (lawsR z.2.2.2.1) → ∃ x, v = some (.int x) ∧ V X P 0 0 11 [some (.ref 1100), none, none] [.int x] S1 I1 J := by
    intro v I1 f hq
    obtain ⟨I2, hI2⟩ : ∃ I2, I2 = up2 I1 1120 0 (nI 0) := ⟨_, rfl⟩
    have f2 : ∀ a, a ≠ 1100 → a ≠ 1120 → a ≠ 1130 → (a < lb ∨ lb + 11 < a) → I2 a = I a := fun a _ g2 g3 g4 => by rw [hI2, up2_ne _ _ _ g2]; exact f a g3 g4
    have e0 : I2 1120 0 = nI 0 := by rw [hI2, up2_row, va_up_self]
    have e11 : ∀ x, I2 1100 x = I 1100 x := fun x => by rw [hI2, up2_ne _ _ _ (by decide), f 1100 (by decide) (by omega)]
    cases hr : lawsR z.2.2.2.1 with
    | error e =>
      rw [hr] at hq
      obtain ⟨p1, p2⟩ := hq
      have hcl : CL I2 la z.2.2.1.1 := hC.2.2.1.cg (fun x _ => by rw [f2 la (by omega) (by omega) (by omega) (by omega)]) (fun a g1 g2 => f2 a (by omega) (by omega) (by omega) (by omega))
      have c2 : CR la (setP z []) S1 I2 J := hC.lw hO hlb f2 (fun x _ => e11 x) (by rw [e11 8]; exact hC.2.2.2.1) e0 hcl ⟨k3 1103 (by decide), k1⟩ hD1
      refine ⟨e, p2, ?_⟩
      refine V_istore_n C dX6_laws_11 (hn _ (by decide)) ?_
      refine V_aload_n C dX6_laws_12 rfl ?_
      refine V_getR C fl_X6_23 (ob_K m1) q3 rfl dX6_laws_13 ?_
      refine V_iconst C (v := nI 0) dX6_laws_16 (by decide +kernel) ?_
      refine V_putI C fl_X6_113 (ob_K mT) rfl rfl dX6_laws_17 ?_
      rw [← hI2]
      refine V_iload_n C dX6_laws_20 rfl ?_
      refine V_if_ne C 58 dX6_laws_21 (by decide) (fun h21 => ?_) (fun h21 => absurd h21 (pos_ne p1))
      refine V_iload_n C dX6_laws_58 rfl ?_
      exact V_iret C (Nat.zero_le _) (Nat.zero_le _) dX6_laws_59 (hP _ _ _ _ ⟨by rw [lawsF, hr], by rw [nLaws, hr]; exact ⟨la, lb, hSS1, c2⟩⟩)
    | ok L =>
      rw [hr] at hq
      obtain ⟨p1, p2, p3, p4, p5, p6⟩ := hq
      refine ⟨0, p1, ?_⟩
      obtain ⟨S2, hS2⟩ : ∃ S2 : HS, S2 = (S1.1, S1.2.1, up2 (up2 (up2 S1.2.2 1100 6 (some lb)) 1100 7 (some la)) 1140 1 (some lb)) := ⟨_, rfl⟩
      have g2 : ∀ a, a ≠ 1100 → a ≠ 1140 → S2.2.2 a = S1.2.2 a := fun a n1 n2 => by rw [hS2]; show up2 (up2 (up2 S1.2.2 1100 6 (some lb)) 1100 7 (some la)) 1140 1 (some lb) a = _; rw [up2_ne _ _ _ n2, up2_ne _ _ _ n1, up2_ne _ _ _ n1]
      have w1 : wfS S2 := by
        rw [hS2]
        refine ((hw1.put (a := 1100) (x := 6) (v := lb) ?_).put (a := 1100) (x := 7) (v := la) ?_).put (a := 1140) (x := 1) (v := lb) ?_
        · rw [k1, h8.1]; omega
        · show S1.1 la ≠ 0; rw [k1, h7.1]; omega
        · show S1.1 lb ≠ 0; rw [k1, h8.1]; omega
      have hSS2 : SS S2 lb la := by
        refine hSS1.mv (by rw [hS2]) (by rw [hS2]) (fun a n1 _ n2 => g2 a n1 n2) (fun x n6 n7 => ?_) (fun x n1 => ?_) ?_ ?_ ?_ (by omega) w1 (by rw [g2 1130 (by decide) (by decide)])
        · rw [hS2]; show up2 (up2 (up2 S1.2.2 1100 6 (some lb)) 1100 7 (some la)) 1140 1 (some lb) 1100 x = _; rw [up2_ne _ _ _ (by decide), up2_row, va_up_ne _ _ n7, up2_row, va_up_ne _ _ n6]
        · rw [hS2]; show up2 (up2 (up2 S1.2.2 1100 6 (some lb)) 1100 7 (some la)) 1140 1 (some lb) 1140 x = _; rw [up2_row, va_up_ne _ _ n1, up2_ne _ _ _ (by decide), up2_ne _ _ _ (by decide)]
        · rw [hS2]; show up2 (up2 (up2 S1.2.2 1100 6 (some lb)) 1100 7 (some la)) 1140 1 (some lb) 1100 6 = _; rw [up2_ne _ _ _ (by decide), up2_row, va_up_ne _ _ (by decide), up2_row, va_up_self]
        · rw [hS2]; show up2 (up2 (up2 S1.2.2 1100 6 (some lb)) 1100 7 (some la)) 1140 1 (some lb) 1100 7 = _; rw [up2_ne _ _ _ (by decide), up2_row, va_up_self]
        · rw [hS2]; show up2 (up2 (up2 S1.2.2 1100 6 (some lb)) 1100 7 (some la)) 1140 1 (some lb) 1140 1 = _; rw [up2_row, va_up_self]
      obtain ⟨I3, hI3⟩ : ∃ I3, I3 = up2 I2 1100 8 (nI 0) := ⟨_, rfl⟩
      have i3 : ∀ a, a ≠ 1100 → I3 a = I2 a := fun a ha => by rw [hI3, up2_ne _ _ _ ha]
      have hB3 : BLw I3 lb L := by
        have hb : ∀ a, lb ≤ a → a ≤ lb + 11 → I3 a = I1 a := fun a g1 g2 => by rw [i3 a (by omega), hI2, up2_ne _ _ _ (by omega)]
        obtain ⟨⟨b0, b1, b2, b7⟩, b9, bc⟩ := p2
        exact ⟨⟨by rw [hb lb (by omega) (by omega)]; exact b0, by rw [hb lb (by omega) (by omega)]; exact b1, by rw [hb lb (by omega) (by omega)]; exact b2, by rw [hb (lb + 7) (by omega) (by omega)]; exact b7⟩, fun k hk => by rw [hb (lb + 9) (by omega) (by omega), hb (lb + 10) (by omega) (by omega)]; exact b9 k hk, cLaws_cg (fun a g1 g2 => hb a (by omega) g2) L 0 0 bc⟩
      have c2 : CR lb (z.1, z.2.1, (L, 0, z.2.2.1.2.2), [], z.2.2.2.2) S2 I3 J := hC.lw hO hlb (fun a n1 n2 n3 n4 => by rw [i3 a n1]; exact f2 a n1 n2 n3 n4) (fun x hx => by rw [hI3, up2_row, va_up_ne _ _ hx]; exact e11 x) (by rw [hI3, up2_row, va_up_self]; rfl) (by rw [i3 1120 (by decide)]; exact e0) (hB3.cl p3 p4 p6) ⟨by rw [g2 1103 (by decide) (by decide)]; exact k3 1103 (by decide), by rw [hS2]; exact k1⟩ (fun c hc h => (hD1 c hc h).rr (by rw [hS2]) (by rw [hS2]) (fun a n1 _ => g2 a (by omega) (by omega)))
      have fin : P (some (.int 0)) S2 I3 J := hP _ _ _ _ ⟨by rw [lawsF, hr], by rw [nLaws, hr]; exact ⟨lb, la, hSS2, c2⟩⟩
      rw [hS2, hI3] at fin
      have st24 : V X P 0 0 24 [some (.ref 1100), some (.int 0), none] [] S1 I2 J := by
        refine V_aload_n C dX6_laws_24 rfl ?_
        refine V_getR C fl_X6_42 (ob_K m1) (b := la) (by rw [k3 1100 (by decide)]; exact r6) rfl dX6_laws_25 ?_
        refine V_astore_n C dX6_laws_28 (hn _ (by decide)) ?_
        refine V_aload_n C dX6_laws_29 rfl ?_
        refine V_aload_n C dX6_laws_30 rfl ?_
        refine V_getR C fl_X6_48 (ob_K m1) (b := lb) (by rw [k3 1100 (by decide)]; exact r7) rfl dX6_laws_31 ?_
        refine V_putR C fl_X6_42 (ob_K m1) rfl rfl dX6_laws_34 ?_
        refine V_aload_n C dX6_laws_37 rfl ?_
        refine V_aload_n C dX6_laws_38 rfl ?_
        refine V_putR C fl_X6_48 m1.1 rfl rfl dX6_laws_39 ?_
        refine V_aload_n C dX6_laws_42 rfl ?_
        refine V_getR C fl_X6_30 m1.1 (b := 1140) (by show up2 (up2 S1.2.2 1100 6 (some lb)) 1100 7 (some la) 1100 5 = _; rw [up2_row, va_up_ne _ _ (by decide), up2_row, va_up_ne _ _ (by decide), k3 1100 (by decide)]; exact r5) rfl dX6_laws_43 ?_
        refine V_aload_n C dX6_laws_46 rfl ?_
        refine V_getR C fl_X6_42 m1.1 (b := lb) (by show up2 (up2 S1.2.2 1100 6 (some lb)) 1100 7 (some la) 1100 6 = _; rw [up2_row, va_up_ne _ _ (by decide), up2_row, va_up_self]) rfl dX6_laws_47 ?_
        refine V_putR C fl_X6_38 (by show S1.1 1140 = 0 + 1; rw [k1]; exact hF.1) rfl rfl dX6_laws_50 ?_
        refine V_aload_n C dX6_laws_53 rfl ?_
        refine V_iconst C (v := nI 0) dX6_laws_54 (by decide +kernel) ?_
        refine V_putI C fl_X6_120 m1.1 rfl rfl dX6_laws_55 ?_
        refine V_iload_n C dX6_laws_58 rfl ?_
        exact V_iret C (Nat.zero_le _) (Nat.zero_le _) dX6_laws_59 fin
      refine V_istore_n C dX6_laws_11 (hn _ (by decide)) ?_
      refine V_aload_n C dX6_laws_12 rfl ?_
      refine V_getR C fl_X6_23 (ob_K m1) q3 rfl dX6_laws_13 ?_
      refine V_iconst C (v := nI 0) dX6_laws_16 (by decide +kernel) ?_
      refine V_putI C fl_X6_113 (ob_K mT) rfl rfl dX6_laws_17 ?_
      rw [← hI2]
      refine V_iload_n C dX6_laws_20 rfl ?_
      refine V_if_ne C 58 dX6_laws_21 (by decide) (fun h21 => absurd (rfl) h21) (fun h21 => ?_)
      exact st24
  refine V_aload_n C dX6_laws_0 rfl ?_
  refine V_getR C fl_X6_56 (ob_K h1) r4 rfl dX6_laws_1 ?_
  refine V_aload_n C dX6_laws_4 rfl ?_
  refine V_getR C fl_X6_48 (ob_K h1) r7 rfl dX6_laws_5 ?_
  refine V_callV (F := fun _ => True) C (c_read h5 h6 h8 hlb hE) mi_X4_read ml_X6_116 rfl (ob_K h5.1) (by decide) (by decide) (by decide) (Nat.le_of_ble_eq_true rfl) (fun _ _ => trivial) (fun v _ => clo_T v) rfl dX6_laws_8 ?_
  rintro v S' I1 J1 ⟨hS9, rfl, f9, hq⟩
  rw [hS9, ← hS1]
  obtain ⟨x9, rfl, k9⟩ := k11 _ _ f9 hq
  exact k9
/-! OkC is kept -/
theorem isSP_lt {K : List Tok} {a c : Nat} (h : isSP K a c) : a < K.length := by
  rcases Nat.lt_or_ge a K.length with q | q
  · exact q
  · have e : tk K a = t0 := by unfold tk; rw [List.getD_eq_getElem?_getD, List.getElem?_eq_none q]; rfl
    have := h.1
    rw [e] at this
    cases this
theorem lawP_op {T : List Int32} {n op a a' : Nat} {w : Law} (hop : op ≤ 4) (h : lawP (toks T) n op a = .ok (w, a')) : op + obN w.2.2.2.1 ≤ 4 ∧ a' < (toks T).length := by
  unfold lawP at h
  by_cases h0 : fwN (toks T) a 0 9 < 0
  · rw [if_pos h0] at h; cases h
  · rw [if_neg h0] at h
    by_cases hn : n = 24
    · rw [if_pos hn] at h; cases h
    · rw [if_neg hn, lawK_nu] at h
      cases q : nuP (toks T) op (fwN (toks T) a 0 9).toNatClampNeg (a + 1) with
      | error e => rw [q] at h; cases h
      | ok x =>
        obtain ⟨lo, hi, ob, a2⟩ := x
        rw [q] at h
        dsimp only at h
        have hob := nuP_op q hop
        unfold enP at h
        by_cases gw : isWP (toks T) a2 10
        · rw [if_pos gw] at h
          cases q3 : allP (toks T) (parP (toks T) 4) (a2 + 1) with
          | error e => rw [q3] at h; cases h
          | ok y =>
            obtain ⟨c, a3⟩ := y
            rw [q3] at h
            dsimp only at h
            by_cases gs : isSP (toks T) a3 59
            · rw [if_pos gs] at h
              injection h with h
              have e1 := congrArg Prod.fst h
              have e2 := congrArg Prod.snd h
              dsimp only at e1 e2
              rw [← e1, ← e2]
              exact ⟨hob, (tk_wf (isSP_lt gs)).2.2 (by rw [gs.1]; decide)⟩
            · rw [if_neg gs] at h; cases h
        · rw [if_neg gw] at h; cases h
theorem lawsP_ok {T : List Int32} : ∀ (n : Nat) (L : List Law) (a : Nat) (L' : List Law), a < (toks T).length → opN L ≤ 4 → (∀ w ∈ L, lgW w) → lawsP (toks T) n L a = .ok L' → opN L' ≤ 4 ∧ ∀ w ∈ L', lgW w := by
  intro n
  induction n with
  | zero => intro L a L' _ h1 h2 h; rw [lawsP] at h; injection h with h; rw [← h]; exact ⟨h1, h2⟩
  | succ n ih =>
    intro L a L' ha h1 h2 h
    rw [lawsP] at h
    by_cases h0 : (tk (toks T) a).1 = 0
    · rw [if_pos h0] at h; injection h with h; rw [← h]; exact ⟨h1, h2⟩
    · rw [if_neg h0] at h
      cases q : lawP (toks T) L.length (opN L) a with
      | error e => rw [q] at h; cases h
      | ok x =>
        obtain ⟨w, a'⟩ := x
        have k1 := lawP_ok h1 ha q
        have k2 := lawP_op h1 q
        rw [q] at h
        exact ih (L ++ [w]) a' L' k2.2 (by rw [opN_app]; exact k2.1) (fun x hx => by
          rcases List.mem_append.mp hx with g | g
          · exact h2 x g
          · rw [List.mem_singleton.mp g]; exact k1) h
theorem lw_bd : ∀ k, k < 9 → 0 ≤ (leK k).toInt ∧ (k ≠ 3 → (moK k).toInt ≤ 100) ∧ (k = 3 → 1 ≤ (leK k).toInt) := by decide +kernel
theorem lwOk_of {L : List Law} (h : ∀ w ∈ L, lgW w) (g : Int32) : lwOk (kcl L g) := by
  intro k f hk
  unfold kcl
  induction L with
  | nil => exact Or.inl rfl
  | cons w L ih =>
    have ih := ih (fun x hx => h x (List.mem_cons_of_mem _ hx))
    rw [lawV]
    by_cases e : w.1 = k
    · rw [if_pos e]
      by_cases v : vlC f w.2.2.2.2 = 0
      · rw [if_pos v]; exact ih
      · rw [if_neg v]
        obtain ⟨-, ⟨l1, l2⟩, l3, l4⟩ := h w List.mem_cons_self
        obtain ⟨b1, b2, b3⟩ := lw_bd k hk
        rw [e] at l1 l2 l3 l4
        have key : leK k ≤ numL g w ∧ numL g w ≤ moK k := by
          unfold numL
          split
          · exact ⟨l1, l2⟩
          · split
            · exact ⟨l3, l4⟩
            · exact ⟨l1, l2⟩
        have k1 := Int32.le_iff_toInt_le.mp key.1
        have k2 := Int32.le_iff_toInt_le.mp key.2
        exact Or.inr ⟨by omega, fun q => by have := b2 q; omega, fun q => by have := b3 q; omega⟩
    · rw [if_neg e]; exact ih
theorem ok_laws (h : OkC z) : OkC (nLaws z) := by
  obtain ⟨h1, h2, h3, h4, h5, h6, h7, h8, h9, h10, h11⟩ := h
  unfold nLaws
  cases q : lawsR z.2.2.2.1 with
  | error e => exact ⟨h1, h2, h3, h4, h5, h6, h7, h8, h9, Nat.zero_le _, fun c hc => by cases hc⟩
  | ok L =>
    have k := lawsP_ok (T := z.2.2.2.1) _ [] 0 L (List.length_pos_iff.mpr (tks_ne _ _)) (by decide) (fun w hw => by cases hw) q
    exact ⟨h1, h2, fun g => lwOk_of k.2 g, ⟨0, rfl, by decide⟩, h5, k.1, h7, h8, h9, Nat.zero_le _, fun c hc => by cases hc⟩
end C40
