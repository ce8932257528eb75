/-! the reference's call: laws -/
section M29
variable {l : Launch} {S : HS} {I I' I2 : HI} {J J' : HJ} {z : SV}
def toks (T : List Int32) : List Tok := tks (fun i => T.getD i 0) T.length T.length 0
def lawsR (T : List Int32) : Except Int32 (List Law) := lawsP (toks T) (toks T).length [] 0
def lawsF (z : SV) : Int32 := match lawsR z.2.2.2.1 with
  | .error e => e
  | .ok _ => 0
def nLaws (z : SV) : SV := match lawsR z.2.2.2.1 with
  | .error _ => setP z []
  | .ok L => (z.1, z.2.1, (L, 0, z.2.2.1.2.2), [], z.2.2.2.2)
theorem wfK_le {n m : Nat} (h : n ≤ m) : ∀ K : List Tok, wfK n K → wfK m K := by
  intro K
  induction K with
  | nil => exact fun q => q
  | cons x s ih =>
    intro q
    cases s with
    | nil => exact ⟨q.1, Nat.le_trans q.2 h⟩
    | cons y s => exact ⟨q.1, q.2.1, Nat.le_trans q.2.2.1 h, ih q.2.2.2⟩
/-- what 'laws' leaves as it was -/
def CF (nx : Nat) (I I' : HI) : Prop := (∀ c, c ≠ 2 → c ≠ 3 → c ≠ 7 → c ≠ 8 → c ≠ 11 → c ≠ 19 → I' 1000 c = I 1000 c) ∧ (∀ a, a ≠ 1000 → a ≠ 1005 → a ≠ 1006 → (a < 1013 ∨ 1022 < a) → I' a = I a) ∧ (∀ j, j ≠ nx → I' 1013 j = I 1013 j ∧ I' 1019 j = I 1019 j) ∧ (∀ a, 1014 ≤ a → a ≤ 1018 → ∀ j, (j < 24 * nx ∨ 24 * nx + 24 ≤ j) → I' a j = I a j) ∧ ∀ j, (j < 1100 * nx ∨ 1100 * nx + 1100 ≤ j) → I' 1021 j = I 1021 j ∧ I' 1022 j = I 1022 j
theorem CF.g {nx : Nat} (h : CF nx I I2) (g : LG nx I2 I') : CF nx I I' := ⟨fun c h1 h2 h3 h4 h5 h6 => (g.1 c h3 h4 h6).trans (h.1 c h1 h2 h3 h4 h5 h6), fun a h1 h2 h3 h4 => (g.2.1 a h1 h4).trans (h.2.1 a h1 h2 h3 h4), fun j hj => ⟨(g.2.2.1 j hj).1.trans (h.2.2.1 j hj).1, (g.2.2.1 j hj).2.trans (h.2.2.1 j hj).2⟩, fun a h1 h2 j hj => (g.2.2.2.1 a h1 h2 j hj).trans (h.2.2.2.1 a h1 h2 j hj), fun j hj => ⟨(g.2.2.2.2 j hj).1.trans (h.2.2.2.2 j hj).1, (g.2.2.2.2 j hj).2.trans (h.2.2.2.2 j hj).2⟩⟩
theorem CF.bad {nx h : Nat} (hh : h ≠ nx) (hR : RefR z I J) (e10 : I 1000 10 = nI h) (h2 : h < 2) (f : CF nx I I') (e2 : I' 1000 2 = 0) (hJ : ∀ a, a ≠ 1007 → J' a = J a) : RefR (setP z []) I' J' := by
  obtain ⟨h1, h2', h3, h4, h5, h6, h7, h8, h9, h10, h11⟩ := hR
  obtain ⟨f1, f2, f3, f4, f5⟩ := f
  have eD : ∀ d, refD I' J' d = refD I J d := fun d => refD_congr (fun a g1 g2 => f2 a (by omega) (by omega) (by omega) (by omega))
  have eQ : ∀ d, refQ I' J' d = refQ I J d := fun d => by unfold refQ; rw [eD, hJ 1035 (by decide), hJ 1036 (by decide)]
  have eh : I' 1000 10 = nI h := (f1 10 (by decide) (by decide) (by decide) (by decide) (by decide) (by decide)).trans e10
  refine ⟨(eQ 0).trans h1, fun d hd => by rw [eD]; exact h2' d hd, fun m hm => mkR_cg (f2 1052 (by decide) (by decide) (by decide) (by decide)) (eQ _) (h3 m hm), ?_, ?_, (f1 24 (by decide) (by decide) (by decide) (by decide) (by decide) (by decide)).trans h6, (f1 44 (by decide) (by decide) (by decide) (by decide) (by decide) (by decide)).trans h7, (f1 45 (by decide) (by decide) (by decide) (by decide) (by decide) (by decide)).trans h8, ⟨e2, fun i hi => absurd hi (Nat.not_lt_zero _)⟩, tdR_cg (f1 48 (by decide) (by decide) (by decide) (by decide) (by decide) (by decide)) (f2 1050 (by decide) (by decide) (by decide) (by decide)) (f2 1051 (by decide) (by decide) (by decide) (by decide)) h10, fun i hi => by rw [hJ 1010 (by decide)]; exact h11 i hi⟩
  · obtain ⟨⟨x, x1, x2, x3, x4, x5⟩, y, y1, y2, y3⟩ := h4
    have ex : x = h := (nI_eq (by omega) (by omega)).mp (x2.symm.trans e10)
    have ey : y = h := (nI_eq (by omega) (by omega)).mp (y2.symm.trans e10)
    rw [ex] at x3 x5
    rw [ey] at y3
    obtain ⟨k1, k2⟩ := rLaws_kp (I := I) (I' := I') (lo := 1100 * h) (hi := 1100 * h + 1100) (k0 := 24 * h) (k1 := 24 * h + z.2.2.1.1.length) (fun a g1 g2 j j1 j2 => f4 a g1 g2 j (by omega)) (fun j j1 j2 => f5 j (by omega)) z.2.2.1.1 (24 * h) (Nat.le_refl _) (Nat.le_refl _) x5 ((bLs_g _ _).mp y3)
    exact ⟨⟨h, h2, eh, by rw [(f3 h hh).1]; exact x3, x4, k1⟩, h, h2, eh, (bLs_g _ _).mpr k2⟩
  · obtain ⟨x, x1, x2, x3⟩ := h5
    have ex : x = h := (nI_eq (by omega) (by omega)).mp (x2.symm.trans e10)
    rw [ex] at x3
    exact ⟨h, h2, eh, by rw [(f3 h hh).2]; exact x3⟩
theorem CF.good {nx q : Nat} {L : List Law} (hnx : nx < 2) (hR : RefR z I J) (f : CF nx I I') (e11 : I' 1000 11 = nI nx) (e2 : I' 1000 2 = 0) (hJ : ∀ a, a ≠ 1007 → J' a = J a) (hq : q ≤ 1100) (hB : LB I' nx q L) : RefR (z.1, z.2.1, (L, 0, z.2.2.1.2.2), [], z.2.2.2.2) (up2 (up2 I' 1000 10 (nI nx)) 1000 24 0) J' := by
  obtain ⟨h1, h2', h3, h4, h5, h6, h7, h8, h9, h10, h11⟩ := hR
  obtain ⟨f1, f2, f3, f4, f5⟩ := f
  obtain ⟨I3, hI3⟩ : ∃ I3, I3 = up2 (up2 I' 1000 10 (nI nx)) 1000 24 0 := ⟨_, rfl⟩
  rw [← hI3]
  have r : ∀ a, a ≠ 1000 → I3 a = I' a := fun a ha => by rw [hI3, up2_ne _ _ _ ha, up2_ne _ _ _ ha]
  have o : ∀ c, c ≠ 10 → c ≠ 24 → I3 1000 c = I' 1000 c := fun c g1 g2 => by rw [hI3, o_ne g2, o_ne g1]
  have e10 : I3 1000 10 = nI nx := by rw [hI3, o_ne (by decide), o_at]
  have e24 : I3 1000 24 = 0 := by rw [hI3, o_at]
  have eD : ∀ d, refD I3 J' d = refD I J d := fun d => refD_congr (fun a g1 g2 => (r a (by omega)).trans (f2 a (by omega) (by omega) (by omega) (by omega)))
  have eQ : ∀ d, refQ I3 J' d = refQ I J d := fun d => by unfold refQ; rw [eD, hJ 1035 (by decide), hJ 1036 (by decide)]
  have oo : ∀ c, c ≠ 2 → c ≠ 3 → c ≠ 7 → c ≠ 8 → c ≠ 11 → c ≠ 19 → c ≠ 10 → c ≠ 24 → I3 1000 c = I 1000 c := fun c g1 g2 g3 g4 g5 g6 g7 g8 => (o c g7 g8).trans (f1 c g1 g2 g3 g4 g5 g6)
  have rr : ∀ a, a ≠ 1000 → a ≠ 1005 → a ≠ 1006 → (a < 1013 ∨ 1022 < a) → I3 a = I a := fun a g1 g2 g3 g4 => (r a g1).trans (f2 a g1 g2 g3 g4)
  obtain ⟨b1, b2, b3, b4, b5, b6⟩ := hB
  obtain ⟨k1, k2⟩ := rLaws_kp (I := I') (I' := I3) (lo := 1100 * nx) (hi := 1100 * nx + q) (k0 := 24 * nx) (k1 := 24 * nx + L.length) (fun a g1 g2 j _ _ => by rw [r a (by omega)]) (fun j _ _ => ⟨by rw [r 1021 (by decide)], by rw [r 1022 (by decide)]⟩) L (24 * nx) (Nat.le_refl _) (Nat.le_refl _) b5 b6
  exact ⟨(eQ 0).trans h1, fun d hd => by rw [eD]; exact h2' d hd, fun m hm => mkR_cg (rr 1052 (by decide) (by decide) (by decide) (by decide)) (eQ _) (h3 m hm), ⟨⟨nx, hnx, e10, by rw [r 1013 (by decide)]; exact b1, b3, k1⟩, nx, hnx, e10, (bLs_g _ _).mpr (bLg_le (by omega) _ _ k2)⟩, ⟨nx, hnx, e10, by rw [r 1019 (by decide)]; exact b2⟩, e24, (oo 44 (by decide) (by decide) (by decide) (by decide) (by decide) (by decide) (by decide) (by decide)).trans h7, (oo 45 (by decide) (by decide) (by decide) (by decide) (by decide) (by decide) (by decide) (by decide)).trans h8, ⟨(o 2 (by decide) (by decide)).trans e2, fun i hi => absurd hi (Nat.not_lt_zero _)⟩, tdR_cg (oo 48 (by decide) (by decide) (by decide) (by decide) (by decide) (by decide) (by decide) (by decide)) (rr 1050 (by decide) (by decide) (by decide) (by decide)) (rr 1051 (by decide) (by decide) (by decide) (by decide)) h10, fun i hi => by rw [hJ 1010 (by decide)]; exact h11 i hi⟩
set_option maxRecDepth 100000 in
set_option maxHeartbeats 1000000 in
theorem m_laws (hM : Ob S 7 1000) (hR : RefR z I J) (hO : OkR z) : Mn l yX7_laws cX7_laws 1 (some .int) 28 [.ref 1000] S I J (fun v I' J' => v = some (.int (lawsF z)) ∧ RefR (nLaws z) I' J') := by
  refine Mn.of (by decide) (fun ad => by simp [lg_sl, vv, Value.category]) (fun X P hP hn C => ?_)
  have hT := hR.zr.2.2.2.2.2.2.2.2.1
  have hT1 : z.2.2.2.1.length ≤ 1000 := hO.2.2.2.2.2.2.2
  obtain ⟨h, hh2, eh, -⟩ := hR.zr.2.2.2.2.1
  have hR0 := hR.zr
  obtain ⟨I0, hI0⟩ : ∃ I0, I0 = up2 I 1000 0 (nI 0) := ⟨_, rfl⟩
  rw [← hI0] at hT eh hR0
  obtain ⟨K, hK⟩ : ∃ K, K = toks z.2.2.2.1 := ⟨_, rfl⟩
  have hKl : K.length ≤ 1001 := by rw [hK]; exact Nat.le_trans (tks_len _ _ (Nat.zero_le _)) (by omega)
  have hKw : wfK 1000 K := by rw [hK]; exact wfK_le hT1 _ (tks_wf _ _ (Nat.zero_le _))
  have hK0 : 0 < K.length := by
    cases e : K with
    | nil => rw [e] at hKw; exact absurd hKw id
    | cons x s => simp
  obtain ⟨r, hr⟩ : ∃ r, r = lawsP K K.length [] 0 := ⟨_, rfl⟩
  have hlr : lawsR z.2.2.2.1 = r := by rw [hr, hK]; rfl
  have hnx : 1 - h < 2 := by omega
  have hne : h ≠ 1 - h := by omega
  have end90 : ∀ (In : HI) (Jn : HJ) (e : Int32), r = .error e → 0 < e → In 1000 8 = e → In 1000 2 = 0 → CF (1 - h) I0 In → (∀ a, a ≠ 1007 → Jn a = J a) → V X P 0 0 44 [some (.ref 1000)] [] S In Jn := by
    intro In Jn e hr he e8 e2 f hJ
    have n8 : ¬ In 1000 8 = 0 := by rw [e8]; exact pos_ne he
    refine V_aload_n C dX7_laws_44 rfl ?_
    refine V_getI C fl_X7_219 (ob_K hM) rfl dX7_laws_45 ?_
    refine V_if_ne C 70 dX7_laws_48 (by decide) (fun h48 => ?_) (fun h48 => absurd h48 (n8))
    refine V_aload_n C dX7_laws_70 rfl ?_
    refine V_getI C fl_X7_219 (ob_K hM) rfl dX7_laws_71 ?_
    refine V_if_ne C 90 dX7_laws_74 (by decide) (fun h74 => ?_) (fun h74 => absurd h74 (n8))
    refine V_aload_n C dX7_laws_90 rfl ?_
    refine V_getI C fl_X7_219 (ob_K hM) rfl dX7_laws_91 ?_
    exact V_iret C (Nat.zero_le _) (Nat.zero_le _) dX7_laws_94 (hP _ _ _ ⟨by rw [lawsF, hlr, hr, e8], by rw [nLaws, hlr, hr]; exact CF.bad hne hR0 eh hh2 f e2 hJ⟩)
  have loop : ∀ (c : Nat) (In : HI) (Jn : HJ) (L : List Law) (a q : Nat), K.length ≤ a + c → a < K.length → q ≤ a → EV In Jn K → PSt In (1 - h) a q 0 → LB In (1 - h) q L → CF (1 - h) I0 In → In 1000 2 = 0 → (∀ a, a ≠ 1007 → Jn a = J a) → r = lawsP K c L a → V X P 0 0 44 [some (.ref 1000)] [] S In Jn := by
    intro c
    induction c with
    | zero => intro In Jn L a q h1 h2; omega
    | succ c ih =>
      intro In Jn L a q h1 h2 h3 hE hS hB f e2 hJ hr
      obtain ⟨e1, -⟩ := hE.at h2
      rw [lawsP] at hr
      by_cases h0 : (tk K a).1 = 0
      · rw [if_pos h0] at hr
        refine V_aload_n C dX7_laws_44 rfl ?_
        refine V_getI C fl_X7_219 (ob_K hM) rfl dX7_laws_45 ?_
        refine V_if_ne C 70 dX7_laws_48 (by decide) (fun h48 => absurd (hS.2.1) h48) (fun h48 => ?_)
        refine V_aload_n C dX7_laws_51 rfl ?_
        refine V_getR C fl_X7_24 (ob_K hM) (ob_R hM 4 1005 rfl rfl) rfl dX7_laws_52 ?_
        refine V_aload_n C dX7_laws_55 rfl ?_
        refine V_getI C fl_X7_216 (ob_K hM) rfl dX7_laws_56 ?_
        refine V_iald C (a) (ob_A hM 4 1005 rfl rfl) hS.1 (by rw [ob_N hM 4 1005 rfl rfl]; omega) (by rw [ob_N hM 4 1005 rfl rfl]; decide) dX7_laws_59 ?_
        refine V_if_eq C 70 dX7_laws_60 (by decide) (fun h60 => ?_) (fun h60 => absurd (by rw [e1, h0]; rfl) h60)
        refine V_aload_n C dX7_laws_70 rfl ?_
        refine V_getI C fl_X7_219 (ob_K hM) rfl dX7_laws_71 ?_
        refine V_if_ne C 90 dX7_laws_74 (by decide) (fun h74 => absurd (hS.2.1) h74) (fun h74 => ?_)
        refine V_aload_n C dX7_laws_77 rfl ?_
        refine V_aload_n C dX7_laws_78 rfl ?_
        refine V_getI C fl_X7_234 (ob_K hM) rfl dX7_laws_79 ?_
        rw [hS.2.2.1]
        refine V_putI C fl_X7_243 (ob_K hM) rfl rfl dX7_laws_82 ?_
        refine V_aload_n C dX7_laws_85 rfl ?_
        refine V_iconst C (v := nI 0) dX7_laws_86 (by decide +kernel) ?_
        refine V_putI C fl_X7_249 (ob_K hM) rfl rfl dX7_laws_87 ?_
        refine V_aload_n C dX7_laws_90 rfl ?_
        refine V_getI C fl_X7_219 (ob_K hM) rfl dX7_laws_91 ?_
        exact V_iret C (Nat.zero_le _) (Nat.zero_le _) dX7_laws_94 (hP _ _ _ ⟨by rw [lawsF, hlr, hr]; show some (Value.int (In 1000 8)) = _; rw [hS.2.1], by rw [nLaws, hlr, hr]; exact CF.good hnx hR0 f hS.2.2.1 e2 hJ (by omega) hB⟩)
      · rw [if_neg h0] at hr
        have n0 : ¬ In 1005 a = 0 := by rw [e1]; exact fun q => h0 ((nI_eq (b := 0) (by have := (hE.at h2).2.2.2.2.1; omega) (by omega)).mp q)
        have after : ∀ I2, LPost (1 - h) K a q L In I2 (lawP K L.length (opN L) a) → V X P 0 0 44 [some (.ref 1000)] [] S I2 Jn := by
          intro I2 hp
          cases hl : lawP K L.length (opN L) a with
          | error e =>
            rw [hl] at hp hr
            obtain ⟨p1, p2, p3⟩ := hp
            exact end90 I2 Jn e hr p1 p2 (by rw [p3.1 2 (by decide) (by decide) (by decide)]; exact e2) (f.g p3) hJ
          | ok x =>
            obtain ⟨w, a'⟩ := x
            rw [hl] at hp hr
            obtain ⟨p1, p2, p3, q', p4, p5, p6⟩ := hp
            exact ih I2 Jn (L ++ [w]) a' q' (by omega) p2 p4 (hE.lg p3) p5 p6 (f.g p3) (by rw [p3.1 2 (by decide) (by decide) (by decide)]; exact e2) hJ hr
        refine V_aload_n C dX7_laws_44 rfl ?_
        refine V_getI C fl_X7_219 (ob_K hM) rfl dX7_laws_45 ?_
        refine V_if_ne C 70 dX7_laws_48 (by decide) (fun h48 => absurd (hS.2.1) h48) (fun h48 => ?_)
        refine V_aload_n C dX7_laws_51 rfl ?_
        refine V_getR C fl_X7_24 (ob_K hM) (ob_R hM 4 1005 rfl rfl) rfl dX7_laws_52 ?_
        refine V_aload_n C dX7_laws_55 rfl ?_
        refine V_getI C fl_X7_216 (ob_K hM) rfl dX7_laws_56 ?_
        refine V_iald C (a) (ob_A hM 4 1005 rfl rfl) hS.1 (by rw [ob_N hM 4 1005 rfl rfl]; omega) (by rw [ob_N hM 4 1005 rfl rfl]; decide) dX7_laws_59 ?_
        refine V_if_eq C 70 dX7_laws_60 (by decide) (fun h60 => absurd h60 (n0)) (fun h60 => ?_)
        refine V_aload_n C dX7_laws_63 rfl ?_
        refine V_callV (F := fun _ => True) C (m_readLaw hM hE hS h2 h3 hB) mi_X7_readLaw ml_X7_246 rfl (ob_K hM) (by decide) (by decide) (by decide) (Nat.le_of_ble_eq_true rfl) (fun _ _ => trivial) (fun v _ => clo_T v) rfl dX7_laws_64 ?_
        rintro v S' I2 J2 ⟨hS', rfl, hp, hJ2⟩
        obtain rfl := hS'.symm
        obtain rfl := hJ2.symm
        refine V_goto C 44 dX7_laws_67 (by decide) ?_
        exact after _ hp
  have key : ∀ (I1 : HI) (J1 : HJ), tkG I1 J1 K → I1 1000 7 = 0 → I1 1000 8 = 0 → I1 1000 2 = 0 → cuF I0 J I1 J1 → V X P 0 0 9 [some (.ref 1000)] [] S I1 J1 := by
    intro I1 J1 g1 g2 g3 g4 g5
    obtain ⟨u1, u2, u3⟩ := g5
    have e10 : I1 1000 10 = nI h := (u1 10 (by decide) (by decide) (by decide) (by decide)).trans eh
    have e15 : nI 1 - I1 1000 10 = nI (1 - h) := by rw [e10, pk_sub (by omega)]
    obtain ⟨I5, hI5⟩ : ∃ I5, I5 = up2 (up2 (up2 (up2 I1 1000 11 (nI (1 - h))) 1013 (1 - h) (nI 0)) 1019 (1 - h) (nI 0)) 1000 19 (nI 0) := ⟨_, rfl⟩
    have a11 : up2 I1 1000 11 (nI (1 - h)) 1000 11 = nI (1 - h) := o_at
    have a11' : up2 (up2 I1 1000 11 (nI (1 - h))) 1013 (1 - h) (nI 0) 1000 11 = nI (1 - h) := (o_at : up2 I1 1000 11 (nI (1 - h)) 1000 11 = nI (1 - h))
    have hf : CF (1 - h) I0 I5 := by
      refine ⟨fun c h1 h2 h3 h4 h5 h6 => ?_, fun a h1 h2 h3 h4 => ?_, fun j hj => ⟨?_, ?_⟩, fun a h1 h2 j hj => ?_, fun j hj => ⟨?_, ?_⟩⟩
      · rw [hI5, o_ne h6]; show up2 I1 1000 11 _ 1000 c = _; rw [o_ne h5]; exact u1 c h1 h2 h3 h4
      · rw [hI5, up2_ne _ _ _ h1, up2_ne _ _ _ (by omega), up2_ne _ _ _ (by omega), up2_ne _ _ _ h1]; exact u2 a h1 h2 h3
      · rw [hI5]; show va_up (I1 1013) _ _ j = _; rw [va_up_ne _ _ hj, u2 1013 (by decide) (by decide) (by decide)]
      · rw [hI5]; show va_up (I1 1019) _ _ j = _; rw [va_up_ne _ _ hj, u2 1019 (by decide) (by decide) (by decide)]
      · rw [hI5, up2_ne _ _ _ (by omega), up2_ne _ _ _ (by omega), up2_ne _ _ _ (by omega), up2_ne _ _ _ (by omega), u2 a (by omega) (by omega) (by omega)]
      · rw [hI5]; show I1 1021 j = _; rw [u2 1021 (by decide) (by decide) (by decide)]
      · rw [hI5]; show I1 1022 j = _; rw [u2 1022 (by decide) (by decide) (by decide)]
    have hE : EV I5 J1 K := ⟨fun i hi => by have := g1 i hi; rw [hI5]; exact this, hKw, hKl, fun i hi => by rw [u3 1010 (by decide)]; exact hR0.2.2.2.2.2.2.2.2.2.2 i hi⟩
    have hS : PSt I5 (1 - h) 0 0 0 := ⟨by rw [hI5]; exact g2, by rw [hI5]; exact g3, by rw [hI5, o_ne (by decide)]; exact a11', by rw [hI5]; exact o_at, hnx⟩
    have hB : LB I5 (1 - h) 0 [] := ⟨by rw [hI5]; show va_up (I1 1013) _ _ _ = _; rw [va_up_self]; rfl, by rw [hI5]; show va_up (I1 1019) _ _ _ = _; rw [va_up_self]; rfl, Nat.zero_le _, Nat.zero_le _, trivial, trivial⟩
    have fin := loop K.length I5 J1 [] 0 0 (by omega) hK0 (Nat.le_refl _) hE hS hB hf (by rw [hI5]; exact g4) u3 hr
    refine V_aload_n C dX7_laws_9 rfl ?_
    refine V_iconst C (v := nI 1) dX7_laws_10 (by decide +kernel) ?_
    refine V_aload_n C dX7_laws_11 rfl ?_
    refine V_getI C fl_X7_243 (ob_K hM) rfl dX7_laws_12 ?_
    refine V_isub C dX7_laws_15 ?_
    rw [e15]
    refine V_putI C fl_X7_234 (ob_K hM) rfl rfl dX7_laws_16 ?_
    refine V_aload_n C dX7_laws_19 rfl ?_
    refine V_getR C fl_X7_83 (ob_K hM) (ob_R hM 12 1013 rfl rfl) rfl dX7_laws_20 ?_
    refine V_aload_n C dX7_laws_23 rfl ?_
    refine V_getI C fl_X7_234 (ob_K hM) rfl dX7_laws_24 ?_
    refine V_iconst C (v := nI 0) dX7_laws_27 (by decide +kernel) ?_
    refine V_iast C (1 - h) (ob_A hM 12 1013 rfl rfl) a11 (by rw [ob_N hM 12 1013 rfl rfl]; omega) (by rw [ob_N hM 12 1013 rfl rfl]; decide) dX7_laws_28 ?_
    refine V_aload_n C dX7_laws_29 rfl ?_
    refine V_getR C fl_X7_101 (ob_K hM) (ob_R hM 18 1019 rfl rfl) rfl dX7_laws_30 ?_
    refine V_aload_n C dX7_laws_33 rfl ?_
    refine V_getI C fl_X7_234 (ob_K hM) rfl dX7_laws_34 ?_
    refine V_iconst C (v := nI 0) dX7_laws_37 (by decide +kernel) ?_
    refine V_iast C (1 - h) (ob_A hM 18 1019 rfl rfl) a11' (by rw [ob_N hM 18 1019 rfl rfl]; omega) (by rw [ob_N hM 18 1019 rfl rfl]; decide) dX7_laws_38 ?_
    refine V_aload_n C dX7_laws_39 rfl ?_
    refine V_iconst C (v := nI 0) dX7_laws_40 (by decide +kernel) ?_
    refine V_putI C fl_X7_237 (ob_K hM) rfl rfl dX7_laws_41 ?_
    rw [← hI5]
    exact fin
  refine V_aload_n C dX7_laws_0 rfl ?_
  refine V_iconst C (v := nI 0) dX7_laws_1 (by decide +kernel) ?_
  refine V_putI C fl_X7_1 (ob_K hM) rfl rfl dX7_laws_2 ?_
  rw [← hI0]
  refine V_aload_n C dX7_laws_5 rfl ?_
  refine V_callV (F := fun _ => True) C (m_cutAll hM hT hT1) mi_X7_cutAll ml_X7_240 rfl (ob_K hM) (by decide) (by decide) (by decide) (Nat.le_of_ble_eq_true rfl) (fun _ _ => trivial) (fun v _ => clo_T v) rfl dX7_laws_6 ?_
  rintro v S' I1 J1 ⟨hS', rfl, k1, k2, k3, k4, k5⟩
  obtain rfl := hS'.symm
  exact key _ _ (by rw [hK]; exact k1) k2 k3 k4 k5
end M29
