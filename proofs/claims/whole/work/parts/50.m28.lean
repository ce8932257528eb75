/-! the reference reads laws -/
section M28
variable {l : Launch} {S : HS} {I I' I2 : HI} {J J' : HJ} {z : SV}
def hiP (K : List Tok) (op k : Nat) (lo : Int32) (a : Nat) : Except Int32 (Int32 × Option Nat × Nat) :=
  if isWP K a 9 then (match numP K (a + 1) lo (moK k) with
    | .error e => .error e
    | .ok (hi, a') => if hi ≤ lo then .ok (hi, none, a') else if op = 4 then .error (errP K (a + 1) 5) else .ok (hi, some op, a'))
  else .ok (lo, none, a)
def enP (K : List Tok) (k : Nat) (lo hi : Int32) (ob : Option Nat) (a : Nat) : Except Int32 (Law × Nat) :=
  if isWP K a 10 then (match allP K (parP K 4) (a + 1) with
    | .error e => .error e
    | .ok (c, a') => if isSP K a' 59 then .ok ((k, lo, hi, ob, c), a' + 1) else .error (errP K a' 1))
  else .error (errP K a 1)
def lawK (K : List Tok) (op k a : Nat) : Except Int32 (Law × Nat) := match numP K (a + 1) (leK k) (moK k) with
  | .error e => .error e
  | .ok (lo, a1) => match hiP K op k lo a1 with
    | .error e => .error e
    | .ok (hi, ob, a2) => enP K k lo hi ob a2
def lawP (K : List Tok) (n op a : Nat) : Except Int32 (Law × Nat) :=
  if fwN K a 0 9 < 0 then .error (errP K a 1) else if n = 24 then .error (errP K a 5) else lawK K op (fwN K a 0 9).toNatClampNeg a
def lawsP (K : List Tok) : Nat → List Law → Nat → Except Int32 (List Law)
  | 0, L, _ => .ok L
  | n + 1, L, a => if (tk K a).1 = 0 then .ok L else match lawP K L.length (opN L) a with
    | .error e => .error e
    | .ok (w, a') => lawsP K n (L ++ [w]) a'
/-- codes of laws from k on lie from lo to hi -/
def bLg (lo hi : Nat) (I : HI) : Nat → List Law → Prop
  | _, [] => True
  | k, w :: L => (∀ p, I 1018 k = nI p → p < 2200 → lo ≤ p ∧ p + w.2.2.2.2.length < hi) ∧ bLg lo hi I (k + 1) L
theorem bLs_g {h : Nat} : ∀ (L : List Law) (k : Nat), bLs I h k L ↔ bLg (1100 * h) (1100 * h + 1100) I k L := by
  intro L
  induction L with
  | nil => intro k; exact Iff.rfl
  | cons w L ih => intro k; exact ⟨fun q => ⟨q.1, (ih _).mp q.2⟩, fun q => ⟨q.1, (ih _).mpr q.2⟩⟩
theorem bLg_le {lo hi hi2 : Nat} (h : hi ≤ hi2) : ∀ (L : List Law) (k : Nat), bLg lo hi I k L → bLg lo hi2 I k L := by
  intro L
  induction L with
  | nil => intro k q; exact q
  | cons w L ih => intro k q; exact ⟨fun p h1 h2 => by have := q.1 p h1 h2; omega, ih _ q.2⟩
theorem mtC_kp : ∀ (c : Cds) (p : Nat), (∀ j, p ≤ j → j ≤ p + c.length → I' 1021 j = I 1021 j ∧ I' 1022 j = I 1022 j) → mtC I c p → mtC I' c p := by
  intro c
  induction c with
  | nil => intro p h hm; exact ⟨by rw [(h p (Nat.le_refl _) (Nat.le_refl _)).1]; exact hm.1, hm.2⟩
  | cons x c ih =>
    intro p h hm
    rw [List.length_cons] at h
    obtain ⟨h1, h2⟩ := h p (Nat.le_refl _) (by omega)
    exact ⟨h1.trans hm.1, h2.trans hm.2.1, hm.2.2.1, ih (p + 1) (fun i g1 g2 => h i (by omega) (by omega)) hm.2.2.2⟩
theorem mtC_P : ∀ (c : Cds) (p : Nat), mtP I c p → I 1021 (p + c.length) = 0 → p + c.length < 2200 → mtC I c p := by
  intro c
  induction c with
  | nil => intro p _ h1 h2; exact ⟨h1, h2⟩
  | cons x c ih =>
    intro p h h1 h2
    rw [List.length_cons] at h1 h2
    exact ⟨h.1, h.2.1, by omega, ih (p + 1) h.2.2 (by rw [show p + 1 + c.length = p + (c.length + 1) by omega]; exact h1) (by omega)⟩
theorem mtC_lt : ∀ (c : Cds) (p : Nat), mtC I c p → p + c.length < 2200 := by
  intro c
  induction c with
  | nil => intro p h; exact h.2
  | cons x c ih => intro p h; have := ih _ h.2.2.2; rw [List.length_cons]; omega
theorem rLaws_kp {lo hi k0 k1 : Nat} (hr : ∀ a, 1014 ≤ a → a ≤ 1018 → ∀ j, k0 ≤ j → j < k1 → I' a j = I a j) (hc : ∀ j, lo ≤ j → j < hi → I' 1021 j = I 1021 j ∧ I' 1022 j = I 1022 j) : ∀ (M : List Law) (k : Nat), k0 ≤ k → k + M.length ≤ k1 → rLaws I k M → bLg lo hi I k M → rLaws I' k M ∧ bLg lo hi I' k M := by
  intro M
  induction M with
  | nil => intro k _ _ _ _; exact ⟨trivial, trivial⟩
  | cons w M ih =>
    intro k h1 h2 hm hb
    rw [List.length_cons] at h2
    obtain ⟨⟨w1, w2, w3, w4, w5, w6, ⟨q, w7, w8⟩, w9⟩, hm2⟩ := hm
    obtain ⟨b1, b2⟩ := hb
    have r := fun a g1 g2 => hr a g1 g2 k h1 (by omega)
    obtain ⟨i1, i2⟩ := ih (k + 1) (by omega) (by omega) hm2 b2
    have hq := mtC_lt _ _ w8
    obtain ⟨q1, q2⟩ := b1 q w7 (by omega)
    exact ⟨⟨⟨by rw [r 1014 (by omega) (by omega)]; exact w1, w2, by rw [r 1015 (by omega) (by omega)]; exact w3, by rw [r 1016 (by omega) (by omega)]; exact w4, by rw [r 1017 (by omega) (by omega)]; exact w5, w6, ⟨q, by rw [r 1018 (by omega) (by omega)]; exact w7, mtC_kp _ _ (fun j g1 g2 => hc j (by omega) (by omega)) w8⟩, w9⟩, i1⟩, ⟨fun p g1 g2 => b1 p (by rw [← r 1018 (by omega) (by omega)]; exact g1) g2, i2⟩⟩
theorem rLaws_app {w : Law} : ∀ (L : List Law) (k : Nat), rLaws I k L → rLaw I (k + L.length) w → rLaws I k (L ++ [w]) := by
  intro L
  induction L with
  | nil => intro k _ h; exact ⟨h, trivial⟩
  | cons x L ih => intro k h g; exact ⟨h.1, ih (k + 1) h.2 (by rw [List.length_cons] at g; rw [show k + 1 + L.length = k + (L.length + 1) by omega]; exact g)⟩
theorem bLg_app {lo hi : Nat} {w : Law} : ∀ (L : List Law) (k : Nat), bLg lo hi I k L → (∀ p, I 1018 (k + L.length) = nI p → p < 2200 → lo ≤ p ∧ p + w.2.2.2.2.length < hi) → bLg lo hi I k (L ++ [w]) := by
  intro L
  induction L with
  | nil => intro k _ h; exact ⟨h, trivial⟩
  | cons x L ih => intro k h g; exact ⟨h.1, ih (k + 1) h.2 (by rw [List.length_cons] at g; rw [show k + 1 + L.length = k + (L.length + 1) by omega]; exact g)⟩
def obN (o : Option Nat) : Nat := match o with
  | none => 0
  | some _ => 1
theorem opN_app {w : Law} : ∀ (L : List Law), opN (L ++ [w]) = opN L + obN w.2.2.2.1 := by
  intro L
  induction L with
  | nil =>
    show opN [] + _ = 0 + _
    rw [opN]
    unfold obN
    cases w.2.2.2.1 <;> rfl
  | cons x L ih =>
    show opN (L ++ [w]) + _ = opN L + _ + _
    rw [ih]
    omega
/-- the bank nx holds the laws L, with q codes -/
def LB (I : HI) (nx q : Nat) (L : List Law) : Prop := I 1013 nx = nI L.length ∧ I 1019 nx = nI (opN L) ∧ L.length ≤ 24 ∧ opN L ≤ 4 ∧ rLaws I (24 * nx) L ∧ bLg (1100 * nx) (1100 * nx + q) I (24 * nx) L
def LG (nx : Nat) (I I' : HI) : Prop := (∀ c, c ≠ 7 → c ≠ 8 → c ≠ 19 → I' 1000 c = I 1000 c) ∧ (∀ a, a ≠ 1000 → (a < 1013 ∨ 1022 < a) → I' a = I a) ∧ (∀ j, j ≠ nx → I' 1013 j = I 1013 j ∧ I' 1019 j = I 1019 j) ∧ (∀ a, 1014 ≤ a → a ≤ 1018 → ∀ j, (j < 24 * nx ∨ 24 * nx + 24 ≤ j) → I' a j = I a j) ∧ ∀ j, (j < 1100 * nx ∨ 1100 * nx + 1100 ≤ j) → I' 1021 j = I 1021 j ∧ I' 1022 j = I 1022 j
def LF (nx i q : Nat) (I I' : HI) : Prop := (∀ c, c ≠ 7 → c ≠ 8 → c ≠ 19 → I' 1000 c = I 1000 c) ∧ (∀ a, a ≠ 1000 → (a < 1013 ∨ 1022 < a) → I' a = I a) ∧ (∀ j, j ≠ nx → I' 1013 j = I 1013 j ∧ I' 1019 j = I 1019 j) ∧ (∀ a, 1014 ≤ a → a ≤ 1018 → ∀ j, j ≠ i → I' a j = I a j) ∧ ∀ j, (j < 1100 * nx + q ∨ 1100 * nx + 1100 ≤ j) → I' 1021 j = I 1021 j ∧ I' 1022 j = I 1022 j
theorem LG.re {nx : Nat} : LG nx I I := ⟨fun _ _ _ _ => rfl, fun _ _ _ => rfl, fun _ _ => ⟨rfl, rfl⟩, fun _ _ _ _ _ => rfl, fun _ _ => ⟨rfl, rfl⟩⟩
theorem LG.tr {nx : Nat} (h : LG nx I I2) (g : LG nx I2 I') : LG nx I I' := ⟨fun c h1 h2 h3 => (g.1 c h1 h2 h3).trans (h.1 c h1 h2 h3), fun a h1 h2 => (g.2.1 a h1 h2).trans (h.2.1 a h1 h2), fun j hj => ⟨(g.2.2.1 j hj).1.trans (h.2.2.1 j hj).1, (g.2.2.1 j hj).2.trans (h.2.2.1 j hj).2⟩, fun a h1 h2 j hj => (g.2.2.2.1 a h1 h2 j hj).trans (h.2.2.2.1 a h1 h2 j hj), fun j hj => ⟨(g.2.2.2.2 j hj).1.trans (h.2.2.2.2 j hj).1, (g.2.2.2.2 j hj).2.trans (h.2.2.2.2 j hj).2⟩⟩
theorem LF.re {nx i q : Nat} : LF nx i q I I := ⟨fun _ _ _ _ => rfl, fun _ _ _ => rfl, fun _ _ => ⟨rfl, rfl⟩, fun _ _ _ _ _ => rfl, fun _ _ => ⟨rfl, rfl⟩⟩
theorem LF.tr {nx i q q2 : Nat} (h : LF nx i q I I2) (hq : q ≤ q2) (g : LF nx i q2 I2 I') : LF nx i q I I' := ⟨fun c h1 h2 h3 => (g.1 c h1 h2 h3).trans (h.1 c h1 h2 h3), fun a h1 h2 => (g.2.1 a h1 h2).trans (h.2.1 a h1 h2), fun j hj => ⟨(g.2.2.1 j hj).1.trans (h.2.2.1 j hj).1, (g.2.2.1 j hj).2.trans (h.2.2.1 j hj).2⟩, fun a h1 h2 j hj => (g.2.2.2.1 a h1 h2 j hj).trans (h.2.2.2.1 a h1 h2 j hj), fun j hj => ⟨(g.2.2.2.2 j (by omega)).1.trans (h.2.2.2.2 j hj).1, (g.2.2.2.2 j (by omega)).2.trans (h.2.2.2.2 j hj).2⟩⟩
theorem LF.g {nx i q : Nat} (h : LF nx i q I I') (h1 : 24 * nx ≤ i) (h2 : i < 24 * nx + 24) : LG nx I I' := ⟨h.1, h.2.1, h.2.2.1, fun a g1 g2 j hj => h.2.2.2.1 a g1 g2 j (by omega), fun j hj => h.2.2.2.2 j (by omega)⟩
theorem LF.pf {nx i q : Nat} (h : PFr nx q I I') : LF nx i q I I' := ⟨h.1, fun a h1 h2 => h.2.1 a h1 (by omega) (by omega), fun j _ => by rw [h.2.1 1013 (by decide) (by decide) (by decide), h.2.1 1019 (by decide) (by decide) (by decide)]; exact ⟨rfl, rfl⟩, fun a g1 g2 j _ => by rw [h.2.1 a (by omega) (by omega) (by omega)], fun j hj => h.2.2 j hj⟩
theorem LF.row {nx i q a : Nat} {v : Int32} (h1 : 1014 ≤ a) (h2 : a ≤ 1018) : LF nx i q I (up2 I a i v) := ⟨fun c _ _ _ => by rw [up2_ne _ _ _ (by omega)], fun b g1 g2 => up2_ne _ _ _ (by omega), fun j _ => by rw [up2_ne _ _ _ (by omega), up2_ne _ _ _ (by omega)]; exact ⟨rfl, rfl⟩, fun b g1 g2 j hj => by
  by_cases e : b = a
  · subst e; rw [up2_row, va_up_ne _ _ hj]
  · rw [up2_ne _ _ _ e], fun j _ => by rw [up2_ne _ _ _ (by omega), up2_ne _ _ _ (by omega)]; exact ⟨rfl, rfl⟩⟩
theorem LF.nx {nx i q a : Nat} {v : Int32} (h : a = 1013 ∨ a = 1019) : LF nx i q I (up2 I a nx v) := ⟨fun c _ _ _ => by rw [up2_ne _ _ _ (by omega)], fun b g1 g2 => up2_ne _ _ _ (by omega), fun j hj => by
  rcases h with rfl | rfl
  · rw [up2_row, va_up_ne _ _ hj, up2_ne _ _ _ (by decide)]; exact ⟨rfl, rfl⟩
  · rw [up2_row, va_up_ne _ _ hj, up2_ne _ _ _ (by decide)]; exact ⟨rfl, rfl⟩, fun b g1 g2 j _ => by rw [up2_ne _ _ _ (by omega)], fun j _ => by rw [up2_ne _ _ _ (by omega), up2_ne _ _ _ (by omega)]; exact ⟨rfl, rfl⟩⟩
theorem EV.lf {nx i q : Nat} {K : List Tok} (h : EV I J K) (f : LF nx i q I I') : EV I' J K := ⟨fun i hi => by rw [f.2.1 1005 (by decide) (by decide), f.2.1 1006 (by decide) (by decide)]; exact h.1 i hi, h.2⟩
theorem EV.lg {nx : Nat} {K : List Tok} (h : EV I J K) (f : LG nx I I') : EV I' J K := ⟨fun i hi => by rw [f.2.1 1005 (by decide) (by decide), f.2.1 1006 (by decide) (by decide)]; exact h.1 i hi, h.2⟩
theorem st_row {nx a q b i : Nat} {f v : Int32} (hb : b ≠ 1000) (h : PSt I nx a q f) : PSt (up2 I b i v) nx a q f := by
  unfold PSt
  rw [up2_ne _ _ _ (Ne.symm hb)]
  exact h
theorem LB.app {nx q q' : Nat} {L : List Law} {w : Law} (h : LB I nx q L) (f : LF nx (24 * nx + L.length) q I I') (hq : q ≤ q') (h24 : L.length < 24) (e13 : I' 1013 nx = nI (L.length + 1)) (e19 : I' 1019 nx = nI (opN L + obN w.2.2.2.1)) (h4 : opN L + obN w.2.2.2.1 ≤ 4) (hw : rLaw I' (24 * nx + L.length) w) (hb : ∀ p, I' 1018 (24 * nx + L.length) = nI p → p < 2200 → 1100 * nx ≤ p ∧ p + w.2.2.2.2.length < 1100 * nx + q') : LB I' nx q' (L ++ [w]) := by
  obtain ⟨h1, h2, h3, h4', h5, h6⟩ := h
  obtain ⟨k1, k2⟩ := rLaws_kp (I := I) (I' := I') (lo := 1100 * nx) (hi := 1100 * nx + q) (k0 := 24 * nx) (k1 := 24 * nx + L.length) (fun a g1 g2 j _ j2 => f.2.2.2.1 a g1 g2 j (by omega)) (fun j _ j2 => f.2.2.2.2 j (Or.inl j2)) L (24 * nx) (Nat.le_refl _) (Nat.le_refl _) h5 h6
  refine ⟨by rw [e13, List.length_append]; rfl, by rw [e19, opN_app], by rw [List.length_append]; exact h24, by rw [opN_app]; exact h4, rLaws_app _ _ k1 hw, bLg_app _ _ (bLg_le (by omega) _ _ k2) hb⟩
def LPost (nx : Nat) (K : List Tok) (a q : Nat) (L : List Law) (I I' : HI) (r : Except Int32 (Law × Nat)) : Prop := match r with
  | .error e => 0 < e ∧ I' 1000 8 = e ∧ LG nx I I'
  | .ok (w, a') => a < a' ∧ a' < K.length ∧ LG nx I I' ∧ ∃ q', q' ≤ a' ∧ PSt I' nx a' q' 0 ∧ LB I' nx q' (L ++ [w])
theorem fw_k {K : List Tok} {a : Nat} (h : ¬ fwN K a 0 9 < 0) : ∃ k, k < 9 ∧ fwN K a 0 9 = nI k ∧ (fwN K a 0 9).toNatClampNeg = k ∧ (tk K a).1 = 1 := by
  rcases fwN_or (K := K) (a := a) (w := 0) 9 with g | ⟨j, g1, g2, g3⟩
  · exact absurd (by rw [g]; decide) h
  · exact ⟨j, g1, g2, by rw [g2]; exact nI_clamp (by omega), g3.1⟩
theorem numP_ok {K : List Tok} {a a' : Nat} {lo hi x : Int32} (h : numP K a lo hi = .ok (x, a')) : a' = a + 1 ∧ (tk K a).1 = 2 := by
  unfold numP at h
  split at h
  · split at h
    · cases h; exact ⟨rfl, by assumption⟩
    · cases h
  · cases h
set_option maxRecDepth 100000 in
set_option maxHeartbeats 4000000 in
theorem m_readLaw (hM : Ob S 7 1000) {K : List Tok} {nx a q : Nat} {L : List Law} (hE : EV I J K) (hT : PSt I nx a q 0) (ha : a < K.length) (hqa : q ≤ a) (hB : LB I nx q L) : Mn l yX7_readLaw cX7_readLaw 4 none 27 [.ref 1000] S I J (fun v I' J' => v = none ∧ LPost nx K a q L I I' (lawP K L.length (opN L) a) ∧ J' = J) := by
  refine Mn.of (by decide) (fun ad => by simp [lg_sl, vv, Value.category]) (fun X P hP hn C => ?_)
  have hK := hE.2.2.1
  obtain ⟨b1, b2, b3, b4, b5, b6⟩ := id hB
  have e11 : ∀ In, LF nx (24 * nx + L.length) q I In → In 1000 11 = nI nx := fun In f => (f.1 11 (by decide) (by decide) (by decide)).trans hT.2.2.1
  have hnx := hT.2.2.2.2
  obtain ⟨i, hi⟩ : ∃ i, i = 24 * nx + L.length := ⟨_, rfl⟩
  rw [← hi] at e11
  -- with a fault
  have t287 : ∀ (In : HI) (a' q' : Nat) (e : Int32) (x1 x3 : Option Value), 24 * nx ≤ i → i < 24 * nx + 24 → LF nx i q I In → 0 < e → PSt In nx a' q' e → a' < K.length → q ≤ q' → q' < 1100 → lawP K L.length (opN L) a = .error e → V X P 0 0 287 [some (.ref 1000), x1, some (.int (nI i)), x3] [] S In J := by
    intro In a' q' e x1 x3 i1 i2 f he hS h2 h3 h4 hp
    have f2 : LF nx i q I (emI In nx q' (nI 0) (nI 0)) := f.tr h3 (LF.pf (emI_fr h4))
    have hS2 : PSt (emI In nx q' (nI 0) (nI 0)) nx a' (q' + 1) e := emI_st hS
    have f3 := f2.tr (Nat.le_refl _) (LF.nx (a := 1013) (v := emI In nx q' (nI 0) (nI 0) 1013 nx + nI 1) (Or.inl rfl))
    have hS3 : PSt (up2 (emI In nx q' (nI 0) (nI 0)) 1013 nx (emI In nx q' (nI 0) (nI 0) 1013 nx + nI 1)) nx a' (q' + 1) e := st_row (by decide) hS2
    refine V_aload_n C dX7_readLaw_287 rfl ?_
    refine V_iconst C (v := nI 0) dX7_readLaw_288 (by decide +kernel) ?_
    refine V_iconst C (v := nI 0) dX7_readLaw_289 (by decide +kernel) ?_
    refine V_callV (F := fun _ => True) C (m_emit hM hS h4 _ _) mi_X7_emit ml_X7_269 rfl (ob_K hM) (by decide) (by decide) (by decide) (Nat.le_of_ble_eq_true rfl) (fun _ _ => trivial) (fun v _ => clo_T v) rfl dX7_readLaw_290 ?_
    rintro v S' I' J' ⟨hS9, rfl, hI9, hJ9⟩
    obtain rfl := hS9.symm
    obtain rfl := hI9.symm
    obtain rfl := hJ9.symm
    refine V_aload_n C dX7_readLaw_293 rfl ?_
    refine V_getR C fl_X7_83 (ob_K hM) (ob_R hM 12 1013 rfl rfl) rfl dX7_readLaw_294 ?_
    refine V_aload_n C dX7_readLaw_297 rfl ?_
    refine V_getI C fl_X7_234 (ob_K hM) rfl dX7_readLaw_298 ?_
    refine V_dup2 C dX7_readLaw_301 rfl rfl ?_
    refine V_iald C (nx) (ob_A hM 12 1013 rfl rfl) hS2.2.2.1 (by rw [ob_N hM 12 1013 rfl rfl]; omega) (by rw [ob_N hM 12 1013 rfl rfl]; decide) dX7_readLaw_302 ?_
    refine V_iconst C (v := nI 1) dX7_readLaw_303 (by decide +kernel) ?_
    refine V_iadd C dX7_readLaw_304 ?_
    refine V_iast C (nx) (ob_A hM 12 1013 rfl rfl) hS2.2.2.1 (by rw [ob_N hM 12 1013 rfl rfl]; omega) (by rw [ob_N hM 12 1013 rfl rfl]; decide) dX7_readLaw_305 ?_
    refine V_aload_n C dX7_readLaw_306 rfl ?_
    refine V_bipush C (v := nI 59) dX7_readLaw_307 (by decide +kernel) ?_
    refine V_callV (F := fun _ => True) C (m_takeSignF hM (c := 59) (pos_ne he) (hE.lf f3) hS3 h2) mi_X7_takeSign ml_X7_273 rfl (ob_K hM) (by decide) (by decide) (by decide) (Nat.le_of_ble_eq_true rfl) (fun _ _ => trivial) (fun v _ => clo_T v) rfl dX7_readLaw_309 ?_
    rintro v S' I' J' ⟨hS9, rfl, hI9, hJ9⟩
    obtain rfl := hS9.symm
    obtain rfl := hI9.symm
    obtain rfl := hJ9.symm
    exact V_vret C (Nat.zero_le _) (Nat.zero_le _) dX7_readLaw_312 (hP _ _ _ ⟨rfl, by rw [hp]; exact ⟨he, hS3.2.1, f3.g i1 i2⟩, rfl⟩)
  have t263 : ∀ (In : HI) (a' q' : Nat) (e : Int32) (x1 x3 : Option Value), 24 * nx ≤ i → i < 24 * nx + 24 → LF nx i q I In → 0 < e → PSt In nx a' q' e → a' < K.length → q ≤ q' → q' < 1100 → lawP K L.length (opN L) a = .error e → V X P 0 0 263 [some (.ref 1000), x1, some (.int (nI i)), x3] [] S In J := by
    intro In a' q' e x1 x3 i1 i2 f he hS h2 h3 h4 hp
    have f2 := fun v => f.tr (Nat.le_refl _) (LF.row (I := In) (i := i) (q := q) (nx := nx) (a := 1018) (v := v) (by decide) (by decide))
    have hS2 : ∀ v, PSt (up2 In 1018 i v) nx a' q' e := fun v => st_row (by decide) hS
    refine V_aload_n C dX7_readLaw_263 rfl ?_
    refine V_getR C fl_X7_98 (ob_K hM) (ob_R hM 17 1018 rfl rfl) rfl dX7_readLaw_264 ?_
    refine V_iload_n C dX7_readLaw_267 rfl ?_
    refine V_sipush C (v := nI 1100) dX7_readLaw_268 (by decide +kernel) ?_
    refine V_aload_n C dX7_readLaw_271 rfl ?_
    refine V_getI C fl_X7_234 (ob_K hM) rfl dX7_readLaw_272 ?_
    refine V_imul C dX7_readLaw_275 ?_
    refine V_aload_n C dX7_readLaw_276 rfl ?_
    refine V_getI C fl_X7_237 (ob_K hM) rfl dX7_readLaw_277 ?_
    refine V_iadd C dX7_readLaw_280 ?_
    refine V_iast C (i) (ob_A hM 17 1018 rfl rfl) (by first | rfl | (simp only [nI_add, pk_mul]; done) | (simp only [nI_add, pk_mul]; congr 1; omega)) (by rw [ob_N hM 17 1018 rfl rfl]; omega) (by rw [ob_N hM 17 1018 rfl rfl]; decide) dX7_readLaw_281 ?_
    refine V_aload_n C dX7_readLaw_282 rfl ?_
    refine V_iconst C (v := nI 0) dX7_readLaw_283 (by decide +kernel) ?_
    refine V_callV (F := fun _ => True) C (m_allF hM he (hE.lf (f2 _)) (hS2 _) h2) mi_X7_all ml_X7_266 rfl (ob_K hM) (by decide) (by decide) (by decide) (Nat.le_of_ble_eq_true rfl) (fun _ _ => trivial) (fun v _ => clo_T v) rfl dX7_readLaw_284 ?_
    rintro v S' I' J' ⟨hS9, rfl, hI9, hJ9⟩
    obtain rfl := hS9.symm
    obtain rfl := hI9.symm
    obtain rfl := hJ9.symm
    exact t287 _ a' q' e _ _ i1 i2 (f2 _) he (hS2 _) h2 h3 h4 hp
  have t257 : ∀ (In : HI) (a' q' : Nat) (e : Int32) (x1 x3 : Option Value), 24 * nx ≤ i → i < 24 * nx + 24 → LF nx i q I In → 0 < e → PSt In nx a' q' e → a' < K.length → q ≤ q' → q' < 1100 → lawP K L.length (opN L) a = .error e → V X P 0 0 257 [some (.ref 1000), x1, some (.int (nI i)), x3] [] S In J := by
    intro In a' q' e x1 x3 i1 i2 f he hS h2 h3 h4 hp
    refine V_aload_n C dX7_readLaw_257 rfl ?_
    refine V_bipush C (v := nI 10) dX7_readLaw_258 (by decide +kernel) ?_
    refine V_callV (F := fun _ => True) C (m_takeWordF hM (w := 10) (by omega) he (hE.lf f) hS h2) mi_X7_takeWord ml_X7_263 rfl (ob_K hM) (by decide) (by decide) (by decide) (Nat.le_of_ble_eq_true rfl) (fun _ _ => trivial) (fun v _ => clo_T v) rfl dX7_readLaw_260 ?_
    rintro v S' I' J' ⟨hS9, rfl, hI9, hJ9⟩
    obtain rfl := hS9.symm
    obtain rfl := hI9.symm
    obtain rfl := hJ9.symm
    exact t263 _ a' q' e _ _ i1 i2 f he hS h2 h3 h4 hp
  -- without one
  have g257 : ∀ (In : HI) (a2 k : Nat) (lo hi : Int32) (ob : Option Nat) (x3 : Option Value), L.length < 24 → LF nx i q I In → PSt In nx a2 q 0 → a + 1 < a2 → a2 < K.length → k < 9 → In 1014 i = nI k → In 1015 i = lo → In 1016 i = hi → (In 1017 i = (match ob with | none => -1 | some j => nI j)) → (∀ j, ob = some j → j < 4) → In 1013 nx = nI L.length → In 1019 nx = nI (opN L + obN ob) → opN L + obN ob ≤ 4 → lawP K L.length (opN L) a = enP K k lo hi ob a2 → V X P 0 0 257 [some (.ref 1000), some (.int (nI k)), some (.int (nI i)), x3] [] S In J := by
    intro In a2 k lo hh ob x3 h24 f hS ha2 hl2 hk r14 r15 r16 r17 hob r13 r19 hop hp
    have i1 : 24 * nx ≤ i := by omega
    have i2 : i < 24 * nx + 24 := by omega
    obtain ⟨e1, e2, e3, e4, e5, e6, e7⟩ := (hE.lf f).at hl2
    by_cases hw : isWP K a2 10
    · have hlt : a2 + 1 < K.length := e6 (by rw [hw.1]; decide)
      rw [enP, if_pos hw] at hp
      obtain ⟨I3, hI3⟩ : ∃ I3, I3 = up2 (up2 In 1000 7 (nI (a2 + 1))) 1018 i (nI (1100 * nx + q)) := ⟨_, rfl⟩
      have f3 : LF nx i q I I3 := by rw [hI3]; exact (f.tr (Nat.le_refl _) (LF.pf (PFr.o (Or.inl rfl)))).tr (Nat.le_refl _) (LF.row (by decide) (by decide))
      have hS3 : PSt I3 nx (a2 + 1) q 0 := by rw [hI3]; exact st_row (by decide) (st_at hS)
      have after : ∀ I4, PPost nx K (a2 + 1) q I3 I4 (allP K (parP K 4) (a2 + 1)) → V X P 0 0 287 [some (.ref 1000), some (.int (nI k)), some (.int (nI i)), x3] [] S I4 J := by
        intro I4 hq
        cases hr : allP K (parP K 4) (a2 + 1) with
        | error e =>
          rw [hr] at hq hp
          obtain ⟨he, a3, q3, p1, p2, p3, p4, p5, p6⟩ := hq
          exact t287 I4 a3 q3 e _ _ i1 i2 (f3.tr (Nat.le_refl _) (LF.pf p6)) he p5 p2 p3 (by omega) hp
        | ok r =>
          obtain ⟨c, a3⟩ := r
          rw [hr] at hq hp
          obtain ⟨p1, p2, p3, p4, p5, p6⟩ := hq
          have hwf := allP_wf hr
          have hq2 : q + c.length < 1100 := by omega
          obtain ⟨I5, hI5⟩ : ∃ I5, I5 = emI I4 nx (q + c.length) (nI 0) (nI 0) := ⟨_, rfl⟩
          have f34 : LF nx i q I3 I5 := by rw [hI5]; exact (LF.pf p6).tr (by omega : q ≤ q + c.length) (LF.pf (emI_fr hq2))
          have hS5 : PSt I5 nx a3 (q + c.length + 1) 0 := by rw [hI5]; exact emI_st p4
          have e513 : I5 1013 nx = nI L.length := by
            rw [hI5]
            show I4 1013 nx = _
            rw [p6.2.1 1013 (by decide) (by decide) (by decide), hI3]
            exact r13
          obtain ⟨I6, hI6⟩ : ∃ I6, I6 = up2 I5 1013 nx (nI (L.length + 1)) := ⟨_, rfl⟩
          have f6 : LF nx i q I I6 := by rw [hI6]; exact (f3.tr (Nat.le_refl _) f34).tr (Nat.le_refl _) (LF.nx (Or.inl rfl))
          have hS6 : PSt I6 nx a3 (q + c.length + 1) 0 := by rw [hI6]; exact st_row (by decide) hS5
          have q6 : ∀ b, 1014 ≤ b → b ≤ 1019 → I6 b = I3 b := fun b g1 g2 => by
            rw [hI6, up2_ne _ _ _ (by omega), hI5]
            unfold emI
            rw [up2_ne _ _ _ (by omega), up2_ne _ _ _ (by omega), up2_ne _ _ _ (by omega)]
            exact p6.2.1 b (by omega) (by omega) (by omega)
          have q3 : ∀ b, 1014 ≤ b → b ≤ 1017 → I6 b i = In b i := fun b g1 g2 => by rw [q6 b g1 (by omega), hI3, up2_ne _ _ _ (by omega), up2_ne _ _ _ (by omega)]
          have m1 : mtC I6 c (1100 * nx + q) := by
            have e21 : I6 1021 = I5 1021 := by rw [hI6]; rfl
            have e22 : I6 1022 = I5 1022 := by rw [hI6]; rfl
            refine mtC_congr e21 e22 _ _ (mtC_P _ _ (mtP_cg _ _ (fun j g1 g2 => ?_) p5) ?_ (by omega))
            · rw [hI5]; exact (emI_fr (I := I4) (nx := nx) (c := nI 0) (v := nI 0) hq2).2.2 j (Or.inl (by omega))
            · rw [hI5, show 1100 * nx + q + c.length = 1100 * nx + (q + c.length) by omega]; exact (emI_mt (I := I4) (c := 0) (v := nI 0)).1
          have e618 : I6 1018 i = nI (1100 * nx + q) := by rw [q6 1018 (by decide) (by decide), hI3, up2_row, va_up_self]
          have fin : ∀ v, LB (up2 I6 1000 7 v) nx (q + c.length + 1) (L ++ [(k, lo, hh, ob, c)]) := by
            intro v
            have f7 : LF nx i q I (up2 I6 1000 7 v) := f6.tr (Nat.le_refl _) (LF.pf (PFr.o (Or.inl rfl)))
            rw [hi] at f7
            refine hB.app f7 (by omega) h24 (by show I6 1013 nx = _; rw [hI6, up2_row, va_up_self]) (by show I6 1019 nx = _; rw [q6 1019 (by decide) (by decide), hI3]; exact r19) hop ?_ ?_
            · rw [← hi]
              exact ⟨(q3 1014 (by decide) (by decide)).trans r14, hk, (q3 1015 (by decide) (by decide)).trans r15, (q3 1016 (by decide) (by decide)).trans r16, (q3 1017 (by decide) (by decide)).trans r17, hob, ⟨1100 * nx + q, e618, mtC_congr (I := I6) (I' := up2 I6 1000 7 v) rfl rfl _ _ m1⟩, hwf⟩
            · rw [← hi]
              intro p g1 g2
              have g1 : I6 1018 i = nI p := g1
              rw [e618] at g1
              have := (nI_eq (by omega) (by omega)).mp g1
              subst this
              exact ⟨by omega, by show 1100 * nx + q + c.length < _; omega⟩
          have e301 : I5 1013 nx + nI 1 = nI (L.length + 1) := by rw [e513, nI_add]
          dsimp only at hp
          by_cases hsg : isSP K a3 59
          · have hlt3 : a3 + 1 < K.length := ((hE.lf f6).at p2).2.2.2.2.2.1 (by rw [hsg.1]; decide)
            rw [if_pos hsg] at hp
            refine V_aload_n C dX7_readLaw_287 rfl ?_
            refine V_iconst C (v := nI 0) dX7_readLaw_288 (by decide +kernel) ?_
            refine V_iconst C (v := nI 0) dX7_readLaw_289 (by decide +kernel) ?_
            refine V_callV (F := fun _ => True) C (m_emit hM p4 hq2 _ _) mi_X7_emit ml_X7_269 rfl (ob_K hM) (by decide) (by decide) (by decide) (Nat.le_of_ble_eq_true rfl) (fun _ _ => trivial) (fun v _ => clo_T v) rfl dX7_readLaw_290 ?_
            rintro v S' I' J' ⟨hS9, rfl, hI9, hJ9⟩
            obtain rfl := hS9.symm
            obtain rfl := hI9.symm
            obtain rfl := hJ9.symm
            rw [← hI5]
            refine V_aload_n C dX7_readLaw_293 rfl ?_
            refine V_getR C fl_X7_83 (ob_K hM) (ob_R hM 12 1013 rfl rfl) rfl dX7_readLaw_294 ?_
            refine V_aload_n C dX7_readLaw_297 rfl ?_
            refine V_getI C fl_X7_234 (ob_K hM) rfl dX7_readLaw_298 ?_
            refine V_dup2 C dX7_readLaw_301 rfl rfl ?_
            refine V_iald C (nx) (ob_A hM 12 1013 rfl rfl) hS5.2.2.1 (by rw [ob_N hM 12 1013 rfl rfl]; omega) (by rw [ob_N hM 12 1013 rfl rfl]; decide) dX7_readLaw_302 ?_
            refine V_iconst C (v := nI 1) dX7_readLaw_303 (by decide +kernel) ?_
            refine V_iadd C dX7_readLaw_304 ?_
            rw [e301]
            refine V_iast C (nx) (ob_A hM 12 1013 rfl rfl) hS5.2.2.1 (by rw [ob_N hM 12 1013 rfl rfl]; omega) (by rw [ob_N hM 12 1013 rfl rfl]; decide) dX7_readLaw_305 ?_
            rw [← hI6]
            refine V_aload_n C dX7_readLaw_306 rfl ?_
            refine V_bipush C (v := nI 59) dX7_readLaw_307 (by decide +kernel) ?_
            refine V_callV (F := fun _ => True) C (m_takeSign hM (c := 59) (hE.lf f6) hS6 p2) mi_X7_takeSign ml_X7_273 rfl (ob_K hM) (by decide) (by decide) (by decide) (Nat.le_of_ble_eq_true rfl) (fun _ _ => trivial) (fun v _ => clo_T v) rfl dX7_readLaw_309 ?_
            rintro v S' I' J' ⟨hS9, rfl, hI9, hJ9⟩
            obtain rfl := hS9.symm
            obtain rfl := hI9.symm
            obtain rfl := hJ9.symm
            rw [if_pos hsg]
            exact V_vret C (Nat.zero_le _) (Nat.zero_le _) dX7_readLaw_312 (hP _ _ _ ⟨rfl, by rw [hp]; exact ⟨by omega, hlt3, (f6.tr (Nat.le_refl _) (LF.pf (PFr.o (Or.inl rfl)))).g i1 i2, q + c.length + 1, by omega, st_at hS6, fin _⟩, rfl⟩)
          · rw [if_neg hsg] at hp
            have hpos := errP_pos (K := K) (a := a3) (w := 1) ((hE.lf f6).at p2).2.2.2.1 (by decide) (by decide)
            refine V_aload_n C dX7_readLaw_287 rfl ?_
            refine V_iconst C (v := nI 0) dX7_readLaw_288 (by decide +kernel) ?_
            refine V_iconst C (v := nI 0) dX7_readLaw_289 (by decide +kernel) ?_
            refine V_callV (F := fun _ => True) C (m_emit hM p4 hq2 _ _) mi_X7_emit ml_X7_269 rfl (ob_K hM) (by decide) (by decide) (by decide) (Nat.le_of_ble_eq_true rfl) (fun _ _ => trivial) (fun v _ => clo_T v) rfl dX7_readLaw_290 ?_
            rintro v S' I' J' ⟨hS9, rfl, hI9, hJ9⟩
            obtain rfl := hS9.symm
            obtain rfl := hI9.symm
            obtain rfl := hJ9.symm
            rw [← hI5]
            refine V_aload_n C dX7_readLaw_293 rfl ?_
            refine V_getR C fl_X7_83 (ob_K hM) (ob_R hM 12 1013 rfl rfl) rfl dX7_readLaw_294 ?_
            refine V_aload_n C dX7_readLaw_297 rfl ?_
            refine V_getI C fl_X7_234 (ob_K hM) rfl dX7_readLaw_298 ?_
            refine V_dup2 C dX7_readLaw_301 rfl rfl ?_
            refine V_iald C (nx) (ob_A hM 12 1013 rfl rfl) hS5.2.2.1 (by rw [ob_N hM 12 1013 rfl rfl]; omega) (by rw [ob_N hM 12 1013 rfl rfl]; decide) dX7_readLaw_302 ?_
            refine V_iconst C (v := nI 1) dX7_readLaw_303 (by decide +kernel) ?_
            refine V_iadd C dX7_readLaw_304 ?_
            rw [e301]
            refine V_iast C (nx) (ob_A hM 12 1013 rfl rfl) hS5.2.2.1 (by rw [ob_N hM 12 1013 rfl rfl]; omega) (by rw [ob_N hM 12 1013 rfl rfl]; decide) dX7_readLaw_305 ?_
            rw [← hI6]
            refine V_aload_n C dX7_readLaw_306 rfl ?_
            refine V_bipush C (v := nI 59) dX7_readLaw_307 (by decide +kernel) ?_
            refine V_callV (F := fun _ => True) C (m_takeSign hM (c := 59) (hE.lf f6) hS6 p2) mi_X7_takeSign ml_X7_273 rfl (ob_K hM) (by decide) (by decide) (by decide) (Nat.le_of_ble_eq_true rfl) (fun _ _ => trivial) (fun v _ => clo_T v) rfl dX7_readLaw_309 ?_
            rintro v S' I' J' ⟨hS9, rfl, hI9, hJ9⟩
            obtain rfl := hS9.symm
            obtain rfl := hI9.symm
            obtain rfl := hJ9.symm
            rw [if_neg hsg]
            exact V_vret C (Nat.zero_le _) (Nat.zero_le _) dX7_readLaw_312 (hP _ _ _ ⟨rfl, by rw [hp]; exact ⟨hpos.1, o_at, (f6.tr (Nat.le_refl _) (LF.pf (PFr.o (Or.inr (Or.inl rfl))))).g i1 i2⟩, rfl⟩)
      have e280 : nI 1100 * up2 In 1000 7 (nI (a2 + 1)) 1000 11 + up2 In 1000 7 (nI (a2 + 1)) 1000 19 = nI (1100 * nx + q) := by
        rw [o_ne (by decide), o_ne (by decide), hS.2.2.1, hS.2.2.2.1, pk_mul, nI_add]
      refine V_aload_n C dX7_readLaw_257 rfl ?_
      refine V_bipush C (v := nI 10) dX7_readLaw_258 (by decide +kernel) ?_
      refine V_callV (F := fun _ => True) C (m_takeWord hM (w := 10) (by omega) (hE.lf f) hS hl2) mi_X7_takeWord ml_X7_263 rfl (ob_K hM) (by decide) (by decide) (by decide) (Nat.le_of_ble_eq_true rfl) (fun _ _ => trivial) (fun v _ => clo_T v) rfl dX7_readLaw_260 ?_
      rintro v S' I' J' ⟨hS9, rfl, hI9, hJ9⟩
      obtain rfl := hS9.symm
      obtain rfl := hI9.symm
      obtain rfl := hJ9.symm
      rw [if_pos hw]
      refine V_aload_n C dX7_readLaw_263 rfl ?_
      refine V_getR C fl_X7_98 (ob_K hM) (ob_R hM 17 1018 rfl rfl) rfl dX7_readLaw_264 ?_
      refine V_iload_n C dX7_readLaw_267 rfl ?_
      refine V_sipush C (v := nI 1100) dX7_readLaw_268 (by decide +kernel) ?_
      refine V_aload_n C dX7_readLaw_271 rfl ?_
      refine V_getI C fl_X7_234 (ob_K hM) rfl dX7_readLaw_272 ?_
      refine V_imul C dX7_readLaw_275 ?_
      refine V_aload_n C dX7_readLaw_276 rfl ?_
      refine V_getI C fl_X7_237 (ob_K hM) rfl dX7_readLaw_277 ?_
      refine V_iadd C dX7_readLaw_280 ?_
      rw [e280]
      refine V_iast C (i) (ob_A hM 17 1018 rfl rfl) (by first | rfl | (simp only [nI_add, pk_mul]; done) | (simp only [nI_add, pk_mul]; congr 1; omega)) (by rw [ob_N hM 17 1018 rfl rfl]; omega) (by rw [ob_N hM 17 1018 rfl rfl]; decide) dX7_readLaw_281 ?_
      rw [← hI3]
      refine V_aload_n C dX7_readLaw_282 rfl ?_
      refine V_iconst C (v := nI 0) dX7_readLaw_283 (by decide +kernel) ?_
      refine V_callV (F := fun _ => True) C ((m_levels hM 4 0 rfl).2 _ I3 (a2 + 1) q (hE.lf f3) hS3 hlt (by omega)) mi_X7_all ml_X7_266 rfl (ob_K hM) (by decide) (by decide) (by decide) (Nat.le_of_ble_eq_true rfl) (fun _ _ => trivial) (fun v _ => clo_T v) rfl dX7_readLaw_284 ?_
      rintro v S' I4 J4 ⟨hS9, rfl, hq, hJ⟩
      obtain rfl := hS9.symm
      obtain rfl := hJ.symm
      exact after _ hq
    · rw [enP, if_neg hw] at hp
      have hpos := errP_pos (K := K) (a := a2) (w := 1) e4 (by decide) (by decide)
      refine V_aload_n C dX7_readLaw_257 rfl ?_
      refine V_bipush C (v := nI 10) dX7_readLaw_258 (by decide +kernel) ?_
      refine V_callV (F := fun _ => True) C (m_takeWord hM (w := 10) (by omega) (hE.lf f) hS hl2) mi_X7_takeWord ml_X7_263 rfl (ob_K hM) (by decide) (by decide) (by decide) (Nat.le_of_ble_eq_true rfl) (fun _ _ => trivial) (fun v _ => clo_T v) rfl dX7_readLaw_260 ?_
      rintro v S' I' J' ⟨hS9, rfl, hI9, hJ9⟩
      obtain rfl := hS9.symm
      obtain rfl := hI9.symm
      obtain rfl := hJ9.symm
      rw [if_neg hw]
      exact t263 _ a2 q (errP K a2 1) _ _ i1 i2 (f.tr (Nat.le_refl _) (LF.pf (PFr.o (Or.inr (Or.inl rfl))))) hpos.1 (st_f hS) hl2 (Nat.le_refl _) (by omega) hp
  -- behind the first number
  have g141 : ∀ (In : HI) (a1 k : Nat) (lo : Int32), L.length < 24 → LF nx i q I In → PSt In nx a1 q 0 → a + 1 < a1 → a1 < K.length → k < 9 → In 1014 i = nI k → In 1015 i = lo → In 1016 i = lo → In 1017 i = -1 → In 1013 nx = nI L.length → In 1019 nx = nI (opN L) → lawP K L.length (opN L) a = (match hiP K (opN L) k lo a1 with | .error e => .error e | .ok (hi, ob, a2) => enP K k lo hi ob a2) → V X P 0 0 141 [some (.ref 1000), some (.int (nI k)), some (.int (nI i)), none] [] S In J := by
    intro In a1 k lo h24 f hS ha1 hl1 hk r14 r15 r16 r17 r13 r19 hp
    have i1 : 24 * nx ≤ i := by omega
    have i2 : i < 24 * nx + 24 := by omega
    obtain ⟨e1, e2, e3, e4, e5, e6, e7⟩ := (hE.lf f).at hl1
    by_cases hw : isWP K a1 9
    · have hlt : a1 + 1 < K.length := e6 (by rw [hw.1]; decide)
      rw [hiP, if_pos hw] at hp
      obtain ⟨I3, hI3⟩ : ∃ I3, I3 = up2 In 1000 7 (nI (a1 + 1)) := ⟨_, rfl⟩
      have f3 : LF nx i q I I3 := by rw [hI3]; exact f.tr (Nat.le_refl _) (LF.pf (PFr.o (Or.inl rfl)))
      have hS3 : PSt I3 nx (a1 + 1) q 0 := by rw [hI3]; exact st_at hS
      have s14 : I3 1014 i = nI k := by rw [hI3]; exact r14
      have s15 : I3 1015 i = lo := by rw [hI3]; exact r15
      have s17 : I3 1017 i = -1 := by rw [hI3]; exact r17
      have s13 : I3 1013 nx = nI L.length := by rw [hI3]; exact r13
      have s19 : I3 1019 nx = nI (opN L) := by rw [hI3]; exact r19
      have a3' := (hE.lf f3).at hlt
      have after : ∀ (v : Option Value) (I4 : HI), NPost I3 (numP K (a1 + 1) lo (moK k)) v I4 → V X P 0 0 174 [some (.ref 1000), some (.int (nI k)), some (.int (nI i)), some (.int (nI (a1 + 1)))] (v.toList ++ [.int (nI i), .ref 1016]) S I4 J := by
        intro v I4 hq
        cases hr : numP K (a1 + 1) lo (moK k) with
        | error e =>
          rw [hr] at hq hp
          obtain ⟨he, rfl, rfl⟩ := hq
          have f4 := (f3.tr (Nat.le_refl _) (LF.pf (PFr.o (c := 8) (v := e) (Or.inr (Or.inl rfl))))).tr (Nat.le_refl _) (LF.row (nx := nx) (i := i) (q := q) (a := 1016) (v := 0) (by decide) (by decide))
          have hS4 : PSt (up2 (up2 I3 1000 8 e) 1016 i 0) nx (a1 + 1) q e := st_row (by decide) (st_f hS3)
          refine V_iast C (i) (ob_A hM 15 1016 rfl rfl) (by first | rfl | (simp only [nI_add, pk_mul]; done) | (simp only [nI_add, pk_mul]; congr 1; omega)) (by rw [ob_N hM 15 1016 rfl rfl]; omega) (by rw [ob_N hM 15 1016 rfl rfl]; decide) dX7_readLaw_174 ?_
          refine V_aload_n C dX7_readLaw_175 rfl ?_
          refine V_getI C fl_X7_219 (ob_K hM) rfl dX7_readLaw_176 ?_
          refine V_if_ne C 257 dX7_readLaw_179 (by decide) (fun h179 => ?_) (fun h179 => absurd h179 (by rw [hS4.2.1]; exact pos_ne he))
          exact t257 _ (a1 + 1) q e _ _ i1 i2 f4 he hS4 hlt (Nat.le_refl _) (by omega) hp
        | ok r =>
          obtain ⟨hh, a2⟩ := r
          rw [hr] at hq hp
          obtain ⟨rfl, rfl⟩ := hq
          obtain ⟨ea, et⟩ := numP_ok hr
          have hl2 : a2 < K.length := by have := a3'.2.2.2.2.2.1 (by rw [et]; decide); omega
          obtain ⟨I5, hI5⟩ : ∃ I5, I5 = up2 (up2 I3 1000 7 (nI a2)) 1016 i hh := ⟨_, rfl⟩
          have f5 : LF nx i q I I5 := by rw [hI5]; exact (f3.tr (Nat.le_refl _) (LF.pf (PFr.o (Or.inl rfl)))).tr (Nat.le_refl _) (LF.row (by decide) (by decide))
          have hS5 : PSt I5 nx a2 q 0 := by rw [hI5]; exact st_row (by decide) (st_at hS3)
          have u14 : I5 1014 i = nI k := by rw [hI5]; exact s14
          have u15 : I5 1015 i = lo := by rw [hI5]; exact s15
          have u16 : I5 1016 i = hh := by rw [hI5, up2_row, va_up_self]
          have u17 : I5 1017 i = -1 := by rw [hI5]; exact s17
          have u13 : I5 1013 nx = nI L.length := by rw [hI5]; exact s13
          have u19 : I5 1019 nx = nI (opN L) := by rw [hI5]; exact s19
          dsimp only at hp
          by_cases hle : hh ≤ lo
          · rw [if_pos hle] at hp
            refine V_iast C (i) (ob_A hM 15 1016 rfl rfl) (by first | rfl | (simp only [nI_add, pk_mul]; done) | (simp only [nI_add, pk_mul]; congr 1; omega)) (by rw [ob_N hM 15 1016 rfl rfl]; omega) (by rw [ob_N hM 15 1016 rfl rfl]; decide) dX7_readLaw_174 ?_
            rw [← hI5]
            refine V_aload_n C dX7_readLaw_175 rfl ?_
            refine V_getI C fl_X7_219 (ob_K hM) rfl dX7_readLaw_176 ?_
            refine V_if_ne C 257 dX7_readLaw_179 (by decide) (fun h179 => absurd (hS5.2.1) h179) (fun h179 => ?_)
            refine V_aload_n C dX7_readLaw_182 rfl ?_
            refine V_getR C fl_X7_92 (ob_K hM) (ob_R hM 15 1016 rfl rfl) rfl dX7_readLaw_183 ?_
            refine V_iload_n C dX7_readLaw_186 rfl ?_
            refine V_iald C (i) (ob_A hM 15 1016 rfl rfl) (by first | rfl | (simp only [nI_add, pk_mul]; done) | (simp only [nI_add, pk_mul]; congr 1; omega)) (by rw [ob_N hM 15 1016 rfl rfl]; omega) (by rw [ob_N hM 15 1016 rfl rfl]; decide) dX7_readLaw_187 ?_
            refine V_aload_n C dX7_readLaw_188 rfl ?_
            refine V_getR C fl_X7_89 (ob_K hM) (ob_R hM 14 1015 rfl rfl) rfl dX7_readLaw_189 ?_
            refine V_iload_n C dX7_readLaw_192 rfl ?_
            refine V_iald C (i) (ob_A hM 14 1015 rfl rfl) (by first | rfl | (simp only [nI_add, pk_mul]; done) | (simp only [nI_add, pk_mul]; congr 1; omega)) (by rw [ob_N hM 14 1015 rfl rfl]; omega) (by rw [ob_N hM 14 1015 rfl rfl]; decide) dX7_readLaw_193 ?_
            refine V_icmp_le C 257 dX7_readLaw_194 (by decide) (fun h194 => ?_) (fun h194 => absurd (by rw [u16, u15]; exact hle) h194)
            exact g257 I5 a2 k lo hh none _ h24 f5 hS5 (by omega) hl2 hk u14 u15 u16 u17 (fun j hj => by cases hj) u13 u19 b4 hp
          · rw [if_neg hle] at hp
            obtain ⟨I6, hI6⟩ : ∃ I6, I6 = up2 I5 1017 i (nI (opN L)) := ⟨_, rfl⟩
            have f6 : LF nx i q I I6 := by rw [hI6]; exact f5.tr (Nat.le_refl _) (LF.row (by decide) (by decide))
            have hS6 : PSt I6 nx a2 q 0 := by rw [hI6]; exact st_row (by decide) hS5
            have v19 : I6 1019 nx = nI (opN L) := by rw [hI6]; exact u19
            have e06 : I6 1006 (a1 + 1) = nI (tk K (a1 + 1)).2.1 := ((hE.lf f6).at hlt).2.1
            by_cases h4 : opN L = 4
            · rw [if_pos h4] at hp
              have hpos := errP_pos (K := K) (a := a1 + 1) (w := 5) a3'.2.2.2.1 (by decide) (by decide)
              have ef : nI 5 + nI 16 * I6 1006 (a1 + 1) = errP K (a1 + 1) 5 := by rw [e06, pk_mul, nI_add]; rfl
              have hS7 : PSt (up2 I6 1000 8 (errP K (a1 + 1) 5)) nx a2 q (errP K (a1 + 1) 5) := st_f hS6
              have f7 := (f6.tr (Nat.le_refl _) (LF.pf (PFr.o (c := 8) (v := errP K (a1 + 1) 5) (Or.inr (Or.inl rfl))))).tr (Nat.le_refl _) (LF.nx (nx := nx) (i := i) (q := q) (a := 1019) (v := up2 I6 1000 8 (errP K (a1 + 1) 5) 1019 nx + nI 1) (Or.inr rfl))
              refine V_iast C (i) (ob_A hM 15 1016 rfl rfl) (by first | rfl | (simp only [nI_add, pk_mul]; done) | (simp only [nI_add, pk_mul]; congr 1; omega)) (by rw [ob_N hM 15 1016 rfl rfl]; omega) (by rw [ob_N hM 15 1016 rfl rfl]; decide) dX7_readLaw_174 ?_
              rw [← hI5]
              refine V_aload_n C dX7_readLaw_175 rfl ?_
              refine V_getI C fl_X7_219 (ob_K hM) rfl dX7_readLaw_176 ?_
              refine V_if_ne C 257 dX7_readLaw_179 (by decide) (fun h179 => absurd (hS5.2.1) h179) (fun h179 => ?_)
              refine V_aload_n C dX7_readLaw_182 rfl ?_
              refine V_getR C fl_X7_92 (ob_K hM) (ob_R hM 15 1016 rfl rfl) rfl dX7_readLaw_183 ?_
              refine V_iload_n C dX7_readLaw_186 rfl ?_
              refine V_iald C (i) (ob_A hM 15 1016 rfl rfl) (by first | rfl | (simp only [nI_add, pk_mul]; done) | (simp only [nI_add, pk_mul]; congr 1; omega)) (by rw [ob_N hM 15 1016 rfl rfl]; omega) (by rw [ob_N hM 15 1016 rfl rfl]; decide) dX7_readLaw_187 ?_
              refine V_aload_n C dX7_readLaw_188 rfl ?_
              refine V_getR C fl_X7_89 (ob_K hM) (ob_R hM 14 1015 rfl rfl) rfl dX7_readLaw_189 ?_
              refine V_iload_n C dX7_readLaw_192 rfl ?_
              refine V_iald C (i) (ob_A hM 14 1015 rfl rfl) (by first | rfl | (simp only [nI_add, pk_mul]; done) | (simp only [nI_add, pk_mul]; congr 1; omega)) (by rw [ob_N hM 14 1015 rfl rfl]; omega) (by rw [ob_N hM 14 1015 rfl rfl]; decide) dX7_readLaw_193 ?_
              refine V_icmp_le C 257 dX7_readLaw_194 (by decide) (fun h194 => absurd h194 (by rw [u16, u15]; exact hle)) (fun h194 => ?_)
              refine V_aload_n C dX7_readLaw_197 rfl ?_
              refine V_getR C fl_X7_95 (ob_K hM) (ob_R hM 16 1017 rfl rfl) rfl dX7_readLaw_198 ?_
              refine V_iload_n C dX7_readLaw_201 rfl ?_
              refine V_aload_n C dX7_readLaw_202 rfl ?_
              refine V_getR C fl_X7_101 (ob_K hM) (ob_R hM 18 1019 rfl rfl) rfl dX7_readLaw_203 ?_
              refine V_aload_n C dX7_readLaw_206 rfl ?_
              refine V_getI C fl_X7_234 (ob_K hM) rfl dX7_readLaw_207 ?_
              refine V_iald C (nx) (ob_A hM 18 1019 rfl rfl) hS5.2.2.1 (by rw [ob_N hM 18 1019 rfl rfl]; omega) (by rw [ob_N hM 18 1019 rfl rfl]; decide) dX7_readLaw_210 ?_
              rw [u19]
              refine V_iast C (i) (ob_A hM 16 1017 rfl rfl) (by first | rfl | (simp only [nI_add, pk_mul]; done) | (simp only [nI_add, pk_mul]; congr 1; omega)) (by rw [ob_N hM 16 1017 rfl rfl]; omega) (by rw [ob_N hM 16 1017 rfl rfl]; decide) dX7_readLaw_211 ?_
              rw [← hI6]
              refine V_aload_n C dX7_readLaw_212 rfl ?_
              refine V_aload_n C dX7_readLaw_213 rfl ?_
              refine V_getR C fl_X7_101 (ob_K hM) (ob_R hM 18 1019 rfl rfl) rfl dX7_readLaw_214 ?_
              refine V_aload_n C dX7_readLaw_217 rfl ?_
              refine V_getI C fl_X7_234 (ob_K hM) rfl dX7_readLaw_218 ?_
              refine V_iald C (nx) (ob_A hM 18 1019 rfl rfl) hS6.2.2.1 (by rw [ob_N hM 18 1019 rfl rfl]; omega) (by rw [ob_N hM 18 1019 rfl rfl]; decide) dX7_readLaw_221 ?_
              refine V_iconst C (v := nI 4) dX7_readLaw_222 (by decide +kernel) ?_
              refine V_icmp_ne C 240 dX7_readLaw_223 (by decide) (fun h223 => absurd (by rw [v19, h4]) h223) (fun h223 => ?_)
              refine V_iconst C (v := nI 5) dX7_readLaw_226 (by decide +kernel) ?_
              refine V_bipush C (v := nI 16) dX7_readLaw_227 (by decide +kernel) ?_
              refine V_aload_n C dX7_readLaw_229 rfl ?_
              refine V_getR C fl_X7_27 (ob_K hM) (ob_R hM 5 1006 rfl rfl) rfl dX7_readLaw_230 ?_
              refine V_iload_n C dX7_readLaw_233 rfl ?_
              refine V_iald C (a1 + 1) (ob_A hM 5 1006 rfl rfl) (by first | rfl | (simp only [nI_add, pk_mul]; done) | (simp only [nI_add, pk_mul]; congr 1; omega)) (by rw [ob_N hM 5 1006 rfl rfl]; omega) (by rw [ob_N hM 5 1006 rfl rfl]; decide) dX7_readLaw_234 ?_
              refine V_imul C dX7_readLaw_235 ?_
              refine V_iadd C dX7_readLaw_236 ?_
              rw [ef]
              refine V_goto C 241 dX7_readLaw_237 (by decide) ?_
              refine V_putI C fl_X7_219 (ob_K hM) rfl rfl dX7_readLaw_241 ?_
              refine V_aload_n C dX7_readLaw_244 rfl ?_
              refine V_getR C fl_X7_101 (ob_K hM) (ob_R hM 18 1019 rfl rfl) rfl dX7_readLaw_245 ?_
              refine V_aload_n C dX7_readLaw_248 rfl ?_
              refine V_getI C fl_X7_234 (ob_K hM) rfl dX7_readLaw_249 ?_
              refine V_dup2 C dX7_readLaw_252 rfl rfl ?_
              refine V_iald C (nx) (ob_A hM 18 1019 rfl rfl) hS7.2.2.1 (by rw [ob_N hM 18 1019 rfl rfl]; omega) (by rw [ob_N hM 18 1019 rfl rfl]; decide) dX7_readLaw_253 ?_
              refine V_iconst C (v := nI 1) dX7_readLaw_254 (by decide +kernel) ?_
              refine V_iadd C dX7_readLaw_255 ?_
              refine V_iast C (nx) (ob_A hM 18 1019 rfl rfl) hS7.2.2.1 (by rw [ob_N hM 18 1019 rfl rfl]; omega) (by rw [ob_N hM 18 1019 rfl rfl]; decide) dX7_readLaw_256 ?_
              exact t257 _ a2 q (errP K (a1 + 1) 5) _ _ i1 i2 f7 hpos.1 (st_row (by decide) hS7) hl2 (Nat.le_refl _) (by omega) hp
            · rw [if_neg h4] at hp
              have n4 : ¬ nI (opN L) = nI 4 := fun q => h4 ((nI_eq (by omega) (by omega)).mp q)
              have h8 : up2 I6 1000 8 (nI 0) = I6 := up_same hS6.2.1
              obtain ⟨I7, hI7⟩ : ∃ I7, I7 = up2 I6 1019 nx (nI (opN L + 1)) := ⟨_, rfl⟩
              have f7 : LF nx i q I I7 := by rw [hI7]; exact f6.tr (Nat.le_refl _) (LF.nx (Or.inr rfl))
              have e256 : I6 1019 nx + nI 1 = nI (opN L + 1) := by rw [v19, nI_add]
              have fin7 : V X P 0 0 257 [some (.ref 1000), some (.int (nI k)), some (.int (nI i)), some (.int (nI (a1 + 1)))] [] S I7 J := by
                refine g257 I7 a2 k lo hh (some (opN L)) _ h24 f7 (by rw [hI7]; exact st_row (by decide) hS6) (by omega) hl2 hk ?_ ?_ ?_ ?_ (fun j hj => by cases hj; omega) ?_ ?_ (by show opN L + 1 ≤ 4; omega) hp
                · rw [hI7, hI6]; exact u14
                · rw [hI7, hI6]; exact u15
                · rw [hI7, hI6]; exact u16
                · rw [hI7, hI6]; show va_up (I5 1017) i (nI (opN L)) i = _; rw [va_up_self]
                · rw [hI7, hI6]; exact u13
                · rw [hI7, up2_row, va_up_self]; rfl
              refine V_iast C (i) (ob_A hM 15 1016 rfl rfl) (by first | rfl | (simp only [nI_add, pk_mul]; done) | (simp only [nI_add, pk_mul]; congr 1; omega)) (by rw [ob_N hM 15 1016 rfl rfl]; omega) (by rw [ob_N hM 15 1016 rfl rfl]; decide) dX7_readLaw_174 ?_
              rw [← hI5]
              refine V_aload_n C dX7_readLaw_175 rfl ?_
              refine V_getI C fl_X7_219 (ob_K hM) rfl dX7_readLaw_176 ?_
              refine V_if_ne C 257 dX7_readLaw_179 (by decide) (fun h179 => absurd (hS5.2.1) h179) (fun h179 => ?_)
              refine V_aload_n C dX7_readLaw_182 rfl ?_
              refine V_getR C fl_X7_92 (ob_K hM) (ob_R hM 15 1016 rfl rfl) rfl dX7_readLaw_183 ?_
              refine V_iload_n C dX7_readLaw_186 rfl ?_
              refine V_iald C (i) (ob_A hM 15 1016 rfl rfl) (by first | rfl | (simp only [nI_add, pk_mul]; done) | (simp only [nI_add, pk_mul]; congr 1; omega)) (by rw [ob_N hM 15 1016 rfl rfl]; omega) (by rw [ob_N hM 15 1016 rfl rfl]; decide) dX7_readLaw_187 ?_
              refine V_aload_n C dX7_readLaw_188 rfl ?_
              refine V_getR C fl_X7_89 (ob_K hM) (ob_R hM 14 1015 rfl rfl) rfl dX7_readLaw_189 ?_
              refine V_iload_n C dX7_readLaw_192 rfl ?_
              refine V_iald C (i) (ob_A hM 14 1015 rfl rfl) (by first | rfl | (simp only [nI_add, pk_mul]; done) | (simp only [nI_add, pk_mul]; congr 1; omega)) (by rw [ob_N hM 14 1015 rfl rfl]; omega) (by rw [ob_N hM 14 1015 rfl rfl]; decide) dX7_readLaw_193 ?_
              refine V_icmp_le C 257 dX7_readLaw_194 (by decide) (fun h194 => absurd h194 (by rw [u16, u15]; exact hle)) (fun h194 => ?_)
              refine V_aload_n C dX7_readLaw_197 rfl ?_
              refine V_getR C fl_X7_95 (ob_K hM) (ob_R hM 16 1017 rfl rfl) rfl dX7_readLaw_198 ?_
              refine V_iload_n C dX7_readLaw_201 rfl ?_
              refine V_aload_n C dX7_readLaw_202 rfl ?_
              refine V_getR C fl_X7_101 (ob_K hM) (ob_R hM 18 1019 rfl rfl) rfl dX7_readLaw_203 ?_
              refine V_aload_n C dX7_readLaw_206 rfl ?_
              refine V_getI C fl_X7_234 (ob_K hM) rfl dX7_readLaw_207 ?_
              refine V_iald C (nx) (ob_A hM 18 1019 rfl rfl) hS5.2.2.1 (by rw [ob_N hM 18 1019 rfl rfl]; omega) (by rw [ob_N hM 18 1019 rfl rfl]; decide) dX7_readLaw_210 ?_
              rw [u19]
              refine V_iast C (i) (ob_A hM 16 1017 rfl rfl) (by first | rfl | (simp only [nI_add, pk_mul]; done) | (simp only [nI_add, pk_mul]; congr 1; omega)) (by rw [ob_N hM 16 1017 rfl rfl]; omega) (by rw [ob_N hM 16 1017 rfl rfl]; decide) dX7_readLaw_211 ?_
              rw [← hI6]
              refine V_aload_n C dX7_readLaw_212 rfl ?_
              refine V_aload_n C dX7_readLaw_213 rfl ?_
              refine V_getR C fl_X7_101 (ob_K hM) (ob_R hM 18 1019 rfl rfl) rfl dX7_readLaw_214 ?_
              refine V_aload_n C dX7_readLaw_217 rfl ?_
              refine V_getI C fl_X7_234 (ob_K hM) rfl dX7_readLaw_218 ?_
              refine V_iald C (nx) (ob_A hM 18 1019 rfl rfl) hS6.2.2.1 (by rw [ob_N hM 18 1019 rfl rfl]; omega) (by rw [ob_N hM 18 1019 rfl rfl]; decide) dX7_readLaw_221 ?_
              refine V_iconst C (v := nI 4) dX7_readLaw_222 (by decide +kernel) ?_
              refine V_icmp_ne C 240 dX7_readLaw_223 (by decide) (fun h223 => ?_) (fun h223 => absurd h223 (by rw [v19]; exact n4))
              refine V_iconst C (v := nI 0) dX7_readLaw_240 (by decide +kernel) ?_
              refine V_putI C fl_X7_219 (ob_K hM) rfl rfl dX7_readLaw_241 ?_
              rw [h8]
              refine V_aload_n C dX7_readLaw_244 rfl ?_
              refine V_getR C fl_X7_101 (ob_K hM) (ob_R hM 18 1019 rfl rfl) rfl dX7_readLaw_245 ?_
              refine V_aload_n C dX7_readLaw_248 rfl ?_
              refine V_getI C fl_X7_234 (ob_K hM) rfl dX7_readLaw_249 ?_
              refine V_dup2 C dX7_readLaw_252 rfl rfl ?_
              refine V_iald C (nx) (ob_A hM 18 1019 rfl rfl) hS6.2.2.1 (by rw [ob_N hM 18 1019 rfl rfl]; omega) (by rw [ob_N hM 18 1019 rfl rfl]; decide) dX7_readLaw_253 ?_
              refine V_iconst C (v := nI 1) dX7_readLaw_254 (by decide +kernel) ?_
              refine V_iadd C dX7_readLaw_255 ?_
              rw [e256]
              refine V_iast C (nx) (ob_A hM 18 1019 rfl rfl) hS6.2.2.1 (by rw [ob_N hM 18 1019 rfl rfl]; omega) (by rw [ob_N hM 18 1019 rfl rfl]; decide) dX7_readLaw_256 ?_
              rw [← hI7]
              exact fin7
      refine V_aload_n C dX7_readLaw_141 rfl ?_
      refine V_bipush C (v := nI 9) dX7_readLaw_142 (by decide +kernel) ?_
      refine V_callV (F := fun _ => True) C (m_hasWord hM (w := 9) (by omega) (hE.lf f) hS hl1) mi_X7_hasWord ml_X7_231 rfl (ob_K hM) (by decide) (by decide) (by decide) (Nat.le_of_ble_eq_true rfl) (fun _ _ => trivial) (fun v _ => clo_T v) rfl dX7_readLaw_144 ?_
      rintro v S' I' J' ⟨hS9, rfl, hI9, hJ9⟩
      obtain rfl := hS9.symm
      obtain rfl := hI9.symm
      obtain rfl := hJ9.symm
      rw [if_pos ⟨rfl, hw⟩]
      refine V_if_eq C 257 dX7_readLaw_147 (by decide) (fun h147 => absurd h147 (by rw [bI_0]; exact fun r => r ⟨rfl, hw⟩)) (fun h147 => ?_)
      rw [← hI3]
      refine V_aload_n C dX7_readLaw_150 rfl ?_
      refine V_getI C fl_X7_216 (ob_K hM) rfl dX7_readLaw_151 ?_
      rw [hS3.1]
      refine V_istore_n C dX7_readLaw_154 (hn _ (by decide)) ?_
      refine V_aload_n C dX7_readLaw_155 rfl ?_
      refine V_getR C fl_X7_92 (ob_K hM) (ob_R hM 15 1016 rfl rfl) rfl dX7_readLaw_156 ?_
      refine V_iload_n C dX7_readLaw_159 rfl ?_
      refine V_aload_n C dX7_readLaw_160 rfl ?_
      refine V_aload_n C dX7_readLaw_161 rfl ?_
      refine V_getR C fl_X7_89 (ob_K hM) (ob_R hM 14 1015 rfl rfl) rfl dX7_readLaw_162 ?_
      refine V_iload_n C dX7_readLaw_165 rfl ?_
      refine V_iald C (i) (ob_A hM 14 1015 rfl rfl) (by first | rfl | (simp only [nI_add, pk_mul]; done) | (simp only [nI_add, pk_mul]; congr 1; omega)) (by rw [ob_N hM 14 1015 rfl rfl]; omega) (by rw [ob_N hM 14 1015 rfl rfl]; decide) dX7_readLaw_166 ?_
      rw [s15]
      refine V_iload_n C dX7_readLaw_167 rfl ?_
      refine V_callS (F := fun _ => True) C (m_mostOf hk) ms_X7_mostOf ml_X7_256 rfl (by decide) (by decide) (Nat.le_of_ble_eq_true rfl) (fun _ _ => trivial) (fun v _ => clo_T v) rfl dX7_readLaw_168 ?_
      rintro v S' I' J' ⟨hS9, rfl, hI9, hJ9⟩
      obtain rfl := hS9.symm
      obtain rfl := hI9.symm
      obtain rfl := hJ9.symm
      refine V_callV (F := fun _ => True) C (m_takeNumber hM (hE.lf f3) hS3 hlt lo (moK k)) mi_X7_takeNumber ml_X7_259 rfl (ob_K hM) (by decide) (by decide) (by decide) (Nat.le_of_ble_eq_true rfl) (fun _ _ => trivial) (fun v _ => clo_T v) rfl dX7_readLaw_171 ?_
      rintro v S' I4 J4 ⟨hS9, hq, hJ⟩
      obtain rfl := hS9.symm
      obtain rfl := hJ.symm
      exact after _ _ hq
    · rw [hiP, if_neg hw] at hp
      refine V_aload_n C dX7_readLaw_141 rfl ?_
      refine V_bipush C (v := nI 9) dX7_readLaw_142 (by decide +kernel) ?_
      refine V_callV (F := fun _ => True) C (m_hasWord hM (w := 9) (by omega) (hE.lf f) hS hl1) mi_X7_hasWord ml_X7_231 rfl (ob_K hM) (by decide) (by decide) (by decide) (Nat.le_of_ble_eq_true rfl) (fun _ _ => trivial) (fun v _ => clo_T v) rfl dX7_readLaw_144 ?_
      rintro v S' I' J' ⟨hS9, rfl, hI9, hJ9⟩
      obtain rfl := hS9.symm
      obtain rfl := hI9.symm
      obtain rfl := hJ9.symm
      rw [if_neg (fun r => hw r.2)]
      refine V_if_eq C 257 dX7_readLaw_147 (by decide) (fun h147 => ?_) (fun h147 => absurd (bI_f (fun r => hw r.2)) h147)
      exact g257 In a1 k lo lo none _ h24 f hS ha1 hl1 hk r14 r15 r16 r17 (fun j hj => by cases hj) r13 r19 b4 hp
  -- from the kind on
  have g69 : ∀ (k : Nat) (x2 : Option Value), L.length < 24 → k < 9 → (tk K a).1 = 1 → lawP K L.length (opN L) a = lawK K (opN L) k a → V X P 0 0 69 [some (.ref 1000), some (.int (nI k)), x2, none] [] S I J := by
    intro k x2 h24 hk h1 hp
    have i1 : 24 * nx ≤ i := by omega
    have i2 : i < 24 * nx + 24 := by omega
    have hlt : a + 1 < K.length := (hE.at ha).2.2.2.2.2.1 (by rw [h1]; decide)
    have e86 : nI 24 * I 1000 11 + I 1013 nx = nI i := by rw [hT.2.2.1, b1, pk_mul, nI_add, hi]
    have e94 : I 1000 7 + nI 1 = nI (a + 1) := by rw [hT.1, nI_add]
    obtain ⟨I2, hI2⟩ : ∃ I2, I2 = up2 (up2 I 1000 7 (nI (a + 1))) 1014 i (nI k) := ⟨_, rfl⟩
    have f2 : LF nx i q I I2 := by rw [hI2]; exact (LF.pf (PFr.o (Or.inl rfl))).tr (Nat.le_refl _) (LF.row (by decide) (by decide))
    have hS2 : PSt I2 nx (a + 1) q 0 := by rw [hI2]; exact st_row (by decide) (st_at hT)
    rw [lawK] at hp
    have after : ∀ (v : Option Value) (I4 : HI), NPost I2 (numP K (a + 1) (leK k) (moK k)) v I4 → V X P 0 0 121 [some (.ref 1000), some (.int (nI k)), some (.int (nI i)), none] (v.toList ++ [.int (nI i), .ref 1015]) S I4 J := by
      intro v I4 hq
      cases hr : numP K (a + 1) (leK k) (moK k) with
      | error e =>
        rw [hr] at hq hp
        obtain ⟨he, rfl, rfl⟩ := hq
        obtain ⟨I5, hI5⟩ : ∃ I5, I5 = up2 (up2 (up2 (up2 I2 1000 8 e) 1015 i 0) 1016 i 0) 1017 i (-1) := ⟨_, rfl⟩
        have f5 : LF nx i q I I5 := by rw [hI5]; exact (((f2.tr (Nat.le_refl _) (LF.pf (PFr.o (Or.inr (Or.inl rfl))))).tr (Nat.le_refl _) (LF.row (by decide) (by decide))).tr (Nat.le_refl _) (LF.row (by decide) (by decide))).tr (Nat.le_refl _) (LF.row (by decide) (by decide))
        have hS5 : PSt I5 nx (a + 1) q e := by rw [hI5]; exact st_row (by decide) (st_row (by decide) (st_row (by decide) (st_f hS2)))
        have e132 : up2 (up2 I2 1000 8 e) 1015 i 0 1015 i = 0 := by rw [up2_row, va_up_self]
        refine V_iast C (i) (ob_A hM 14 1015 rfl rfl) (by first | rfl | (simp only [nI_add, pk_mul]; done) | (simp only [nI_add, pk_mul]; congr 1; omega)) (by rw [ob_N hM 14 1015 rfl rfl]; omega) (by rw [ob_N hM 14 1015 rfl rfl]; decide) dX7_readLaw_121 ?_
        refine V_aload_n C dX7_readLaw_122 rfl ?_
        refine V_getR C fl_X7_92 (ob_K hM) (ob_R hM 15 1016 rfl rfl) rfl dX7_readLaw_123 ?_
        refine V_iload_n C dX7_readLaw_126 rfl ?_
        refine V_aload_n C dX7_readLaw_127 rfl ?_
        refine V_getR C fl_X7_89 (ob_K hM) (ob_R hM 14 1015 rfl rfl) rfl dX7_readLaw_128 ?_
        refine V_iload_n C dX7_readLaw_131 rfl ?_
        refine V_iald C (i) (ob_A hM 14 1015 rfl rfl) (by first | rfl | (simp only [nI_add, pk_mul]; done) | (simp only [nI_add, pk_mul]; congr 1; omega)) (by rw [ob_N hM 14 1015 rfl rfl]; omega) (by rw [ob_N hM 14 1015 rfl rfl]; decide) dX7_readLaw_132 ?_
        rw [e132]
        refine V_iast C (i) (ob_A hM 15 1016 rfl rfl) (by first | rfl | (simp only [nI_add, pk_mul]; done) | (simp only [nI_add, pk_mul]; congr 1; omega)) (by rw [ob_N hM 15 1016 rfl rfl]; omega) (by rw [ob_N hM 15 1016 rfl rfl]; decide) dX7_readLaw_133 ?_
        refine V_aload_n C dX7_readLaw_134 rfl ?_
        refine V_getR C fl_X7_95 (ob_K hM) (ob_R hM 16 1017 rfl rfl) rfl dX7_readLaw_135 ?_
        refine V_iload_n C dX7_readLaw_138 rfl ?_
        refine V_iconst C (v := (-1)) dX7_readLaw_139 (by decide +kernel) ?_
        refine V_iast C (i) (ob_A hM 16 1017 rfl rfl) (by first | rfl | (simp only [nI_add, pk_mul]; done) | (simp only [nI_add, pk_mul]; congr 1; omega)) (by rw [ob_N hM 16 1017 rfl rfl]; omega) (by rw [ob_N hM 16 1017 rfl rfl]; decide) dX7_readLaw_140 ?_
        rw [← hI5]
        refine V_aload_n C dX7_readLaw_141 rfl ?_
        refine V_bipush C (v := nI 9) dX7_readLaw_142 (by decide +kernel) ?_
        refine V_callV (F := fun _ => True) C (m_hasWord hM (w := 9) (by omega) (hE.lf f5) hS5 hlt) mi_X7_hasWord ml_X7_231 rfl (ob_K hM) (by decide) (by decide) (by decide) (Nat.le_of_ble_eq_true rfl) (fun _ _ => trivial) (fun v _ => clo_T v) rfl dX7_readLaw_144 ?_
        rintro v S' I' J' ⟨hS9, rfl, hI9, hJ9⟩
        obtain rfl := hS9.symm
        obtain rfl := hI9.symm
        obtain rfl := hJ9.symm
        rw [if_neg (fun r => pos_ne he r.1)]
        refine V_if_eq C 257 dX7_readLaw_147 (by decide) (fun h147 => ?_) (fun h147 => absurd (bI_f (fun r => pos_ne he r.1)) h147)
        exact t257 _ (a + 1) q e _ _ i1 i2 f5 he hS5 hlt (Nat.le_refl _) (by omega) hp
      | ok r =>
        obtain ⟨lo, a1⟩ := r
        rw [hr] at hq hp
        obtain ⟨rfl, rfl⟩ := hq
        obtain ⟨ea, et⟩ := numP_ok hr
        have hl1 : a1 < K.length := by have := ((hE.lf f2).at hlt).2.2.2.2.2.1 (by rw [et]; decide); omega
        obtain ⟨I5, hI5⟩ : ∃ I5, I5 = up2 (up2 (up2 (up2 I2 1000 7 (nI a1)) 1015 i lo) 1016 i lo) 1017 i (-1) := ⟨_, rfl⟩
        have f5 : LF nx i q I I5 := by rw [hI5]; exact (((f2.tr (Nat.le_refl _) (LF.pf (PFr.o (Or.inl rfl)))).tr (Nat.le_refl _) (LF.row (by decide) (by decide))).tr (Nat.le_refl _) (LF.row (by decide) (by decide))).tr (Nat.le_refl _) (LF.row (by decide) (by decide))
        have hS5 : PSt I5 nx a1 q 0 := by rw [hI5]; exact st_row (by decide) (st_row (by decide) (st_row (by decide) (st_at hS2)))
        have e132 : up2 (up2 I2 1000 7 (nI a1)) 1015 i lo 1015 i = lo := by rw [up2_row, va_up_self]
        have fin : V X P 0 0 141 [some (.ref 1000), some (.int (nI k)), some (.int (nI i)), none] [] S I5 J := by
          refine g141 I5 a1 k lo h24 f5 hS5 (by omega) hl1 hk ?_ ?_ ?_ ?_ ?_ ?_ hp
          · rw [hI5, hI2]; show va_up (I 1014) i (nI k) i = _; rw [va_up_self]
          · rw [hI5]; show va_up (I2 1015) i lo i = _; rw [va_up_self]
          · rw [hI5]; show va_up (I2 1016) i lo i = _; rw [va_up_self]
          · rw [hI5, up2_row, va_up_self]
          · rw [hI5, hI2]; exact b1
          · rw [hI5, hI2]; exact b2
        refine V_iast C (i) (ob_A hM 14 1015 rfl rfl) (by first | rfl | (simp only [nI_add, pk_mul]; done) | (simp only [nI_add, pk_mul]; congr 1; omega)) (by rw [ob_N hM 14 1015 rfl rfl]; omega) (by rw [ob_N hM 14 1015 rfl rfl]; decide) dX7_readLaw_121 ?_
        refine V_aload_n C dX7_readLaw_122 rfl ?_
        refine V_getR C fl_X7_92 (ob_K hM) (ob_R hM 15 1016 rfl rfl) rfl dX7_readLaw_123 ?_
        refine V_iload_n C dX7_readLaw_126 rfl ?_
        refine V_aload_n C dX7_readLaw_127 rfl ?_
        refine V_getR C fl_X7_89 (ob_K hM) (ob_R hM 14 1015 rfl rfl) rfl dX7_readLaw_128 ?_
        refine V_iload_n C dX7_readLaw_131 rfl ?_
        refine V_iald C (i) (ob_A hM 14 1015 rfl rfl) (by first | rfl | (simp only [nI_add, pk_mul]; done) | (simp only [nI_add, pk_mul]; congr 1; omega)) (by rw [ob_N hM 14 1015 rfl rfl]; omega) (by rw [ob_N hM 14 1015 rfl rfl]; decide) dX7_readLaw_132 ?_
        rw [e132]
        refine V_iast C (i) (ob_A hM 15 1016 rfl rfl) (by first | rfl | (simp only [nI_add, pk_mul]; done) | (simp only [nI_add, pk_mul]; congr 1; omega)) (by rw [ob_N hM 15 1016 rfl rfl]; omega) (by rw [ob_N hM 15 1016 rfl rfl]; decide) dX7_readLaw_133 ?_
        refine V_aload_n C dX7_readLaw_134 rfl ?_
        refine V_getR C fl_X7_95 (ob_K hM) (ob_R hM 16 1017 rfl rfl) rfl dX7_readLaw_135 ?_
        refine V_iload_n C dX7_readLaw_138 rfl ?_
        refine V_iconst C (v := (-1)) dX7_readLaw_139 (by decide +kernel) ?_
        refine V_iast C (i) (ob_A hM 16 1017 rfl rfl) (by first | rfl | (simp only [nI_add, pk_mul]; done) | (simp only [nI_add, pk_mul]; congr 1; omega)) (by rw [ob_N hM 16 1017 rfl rfl]; omega) (by rw [ob_N hM 16 1017 rfl rfl]; decide) dX7_readLaw_140 ?_
        rw [← hI5]
        exact fin
    refine V_bipush C (v := nI 24) dX7_readLaw_69 (by decide +kernel) ?_
    refine V_aload_n C dX7_readLaw_71 rfl ?_
    refine V_getI C fl_X7_234 (ob_K hM) rfl dX7_readLaw_72 ?_
    refine V_imul C dX7_readLaw_75 ?_
    refine V_aload_n C dX7_readLaw_76 rfl ?_
    refine V_getR C fl_X7_83 (ob_K hM) (ob_R hM 12 1013 rfl rfl) rfl dX7_readLaw_77 ?_
    refine V_aload_n C dX7_readLaw_80 rfl ?_
    refine V_getI C fl_X7_234 (ob_K hM) rfl dX7_readLaw_81 ?_
    refine V_iald C (nx) (ob_A hM 12 1013 rfl rfl) hT.2.2.1 (by rw [ob_N hM 12 1013 rfl rfl]; omega) (by rw [ob_N hM 12 1013 rfl rfl]; decide) dX7_readLaw_84 ?_
    refine V_iadd C dX7_readLaw_85 ?_
    rw [e86]
    refine V_istore_n C dX7_readLaw_86 (hn _ (by decide)) ?_
    refine V_aload_n C dX7_readLaw_87 rfl ?_
    refine V_dup C dX7_readLaw_88 rfl ?_
    refine V_getI C fl_X7_216 (ob_K hM) rfl dX7_readLaw_89 ?_
    refine V_iconst C (v := nI 1) dX7_readLaw_92 (by decide +kernel) ?_
    refine V_iadd C dX7_readLaw_93 ?_
    rw [e94]
    refine V_putI C fl_X7_216 (ob_K hM) rfl rfl dX7_readLaw_94 ?_
    refine V_aload_n C dX7_readLaw_97 rfl ?_
    refine V_getR C fl_X7_86 (ob_K hM) (ob_R hM 13 1014 rfl rfl) rfl dX7_readLaw_98 ?_
    refine V_iload_n C dX7_readLaw_101 rfl ?_
    refine V_iload_n C dX7_readLaw_102 rfl ?_
    refine V_iast C (i) (ob_A hM 13 1014 rfl rfl) (by first | rfl | (simp only [nI_add, pk_mul]; done) | (simp only [nI_add, pk_mul]; congr 1; omega)) (by rw [ob_N hM 13 1014 rfl rfl]; omega) (by rw [ob_N hM 13 1014 rfl rfl]; decide) dX7_readLaw_103 ?_
    rw [← hI2]
    refine V_aload_n C dX7_readLaw_104 rfl ?_
    refine V_getR C fl_X7_89 (ob_K hM) (ob_R hM 14 1015 rfl rfl) rfl dX7_readLaw_105 ?_
    refine V_iload_n C dX7_readLaw_108 rfl ?_
    refine V_aload_n C dX7_readLaw_109 rfl ?_
    refine V_iload_n C dX7_readLaw_110 rfl ?_
    refine V_callS (F := fun _ => True) C (m_leastOf hk) ms_X7_leastOf ml_X7_253 rfl (by decide) (by decide) (Nat.le_of_ble_eq_true rfl) (fun _ _ => trivial) (fun v _ => clo_T v) rfl dX7_readLaw_111 ?_
    rintro v S' I' J' ⟨hS9, rfl, hI9, hJ9⟩
    obtain rfl := hS9.symm
    obtain rfl := hI9.symm
    obtain rfl := hJ9.symm
    refine V_iload_n C dX7_readLaw_114 rfl ?_
    refine V_callS (F := fun _ => True) C (m_mostOf hk) ms_X7_mostOf ml_X7_256 rfl (by decide) (by decide) (Nat.le_of_ble_eq_true rfl) (fun _ _ => trivial) (fun v _ => clo_T v) rfl dX7_readLaw_115 ?_
    rintro v S' I' J' ⟨hS9, rfl, hI9, hJ9⟩
    obtain rfl := hS9.symm
    obtain rfl := hI9.symm
    obtain rfl := hJ9.symm
    refine V_callV (F := fun _ => True) C (m_takeNumber hM (hE.lf f2) hS2 hlt (leK k) (moK k)) mi_X7_takeNumber ml_X7_259 rfl (ob_K hM) (by decide) (by decide) (by decide) (Nat.le_of_ble_eq_true rfl) (fun _ _ => trivial) (fun v _ => clo_T v) rfl dX7_readLaw_118 ?_
    rintro v S' I4 J4 ⟨hS9, hq, hJ⟩
    obtain rfl := hS9.symm
    obtain rfl := hJ.symm
    exact after _ _ hq
  have err : ∀ w, 0 < w → w < 16 → lawP K L.length (opN L) a = .error (errP K a w) → ∀ x1 x2, V X P 0 0 61 [some (.ref 1000), x1, x2, none] [] S (up2 I 1000 8 (errP K a w)) J := by
    intro w hw1 hw2 hp x1 x2
    obtain ⟨p1, p2⟩ := errP_pos (w := w) (hE.at ha).2.2.2.1 hw1 hw2
    have o8 : up2 I 1000 8 (errP K a w) 1000 8 = errP K a w := o_at
    have gg : LG nx I (up2 I 1000 8 (errP K a w)) := (LF.pf (nx := nx) (i := 24 * nx) (q := q) (PFr.o (Or.inr (Or.inl rfl)))).g (Nat.le_refl _) (by omega)
    refine V_aload_n C dX7_readLaw_61 rfl ?_
    refine V_getI C fl_X7_219 (ob_K hM) rfl dX7_readLaw_62 ?_
    refine V_if_le C 69 dX7_readLaw_65 (by decide) (fun h65 => absurd h65 (by rw [o8]; exact Int32.not_le.mpr p1)) (fun h65 => ?_)
    exact V_vret C (Nat.zero_le _) (Nat.zero_le _) dX7_readLaw_68 (hP _ _ _ ⟨rfl, by rw [hp]; exact ⟨p1, o8, gg⟩, rfl⟩)
  have g30 : ∀ x2, V X P 0 0 30 [some (.ref 1000), some (.int (fwN K a 0 9)), x2, none] [] S I J := by
    intro x2
    by_cases hk0 : fwN K a 0 9 < 0
    · have hp : lawP K L.length (opN L) a = .error (errP K a 1) := by rw [lawP, if_pos hk0]
      refine V_iload_n C dX7_readLaw_30 rfl ?_
      refine V_if_ge C 42 dX7_readLaw_31 (by decide) (fun h31 => absurd h31 (Int32.not_le.mpr hk0)) (fun h31 => ?_)
      refine V_aload_n C dX7_readLaw_34 rfl ?_
      refine V_iconst C (v := nI 1) dX7_readLaw_35 (by decide +kernel) ?_
      refine V_callV (F := fun _ => True) C (m_wrong hM (w := 1) hE hT ha) mi_X7_wrong ml_X7_225 rfl (ob_K hM) (by decide) (by decide) (by decide) (Nat.le_of_ble_eq_true rfl) (fun _ _ => trivial) (fun v _ => clo_T v) rfl dX7_readLaw_36 ?_
      rintro v S' I' J' ⟨hS9, rfl, hI9, hJ9⟩
      obtain rfl := hS9.symm
      obtain rfl := hI9.symm
      obtain rfl := hJ9.symm
      refine V_goto C 61 dX7_readLaw_39 (by decide) ?_
      exact err 1 (by decide) (by decide) hp _ _
    · obtain ⟨k, hk, ek, ec, e1⟩ := fw_k hk0
      by_cases h24 : L.length = 24
      · have hp : lawP K L.length (opN L) a = .error (errP K a 5) := by rw [lawP, if_neg hk0, if_pos h24]
        refine V_iload_n C dX7_readLaw_30 rfl ?_
        refine V_if_ge C 42 dX7_readLaw_31 (by decide) (fun h31 => ?_) (fun h31 => absurd (Int32.not_lt.mp hk0) h31)
        refine V_aload_n C dX7_readLaw_42 rfl ?_
        refine V_getR C fl_X7_83 (ob_K hM) (ob_R hM 12 1013 rfl rfl) rfl dX7_readLaw_43 ?_
        refine V_aload_n C dX7_readLaw_46 rfl ?_
        refine V_getI C fl_X7_234 (ob_K hM) rfl dX7_readLaw_47 ?_
        refine V_iald C (nx) (ob_A hM 12 1013 rfl rfl) hT.2.2.1 (by rw [ob_N hM 12 1013 rfl rfl]; omega) (by rw [ob_N hM 12 1013 rfl rfl]; decide) dX7_readLaw_50 ?_
        refine V_bipush C (v := nI 24) dX7_readLaw_51 (by decide +kernel) ?_
        refine V_icmp_ne C 61 dX7_readLaw_53 (by decide) (fun h53 => absurd (by rw [b1, h24]) h53) (fun h53 => ?_)
        refine V_aload_n C dX7_readLaw_56 rfl ?_
        refine V_iconst C (v := nI 5) dX7_readLaw_57 (by decide +kernel) ?_
        refine V_callV (F := fun _ => True) C (m_wrong hM (w := 5) hE hT ha) mi_X7_wrong ml_X7_225 rfl (ob_K hM) (by decide) (by decide) (by decide) (Nat.le_of_ble_eq_true rfl) (fun _ _ => trivial) (fun v _ => clo_T v) rfl dX7_readLaw_58 ?_
        rintro v S' I' J' ⟨hS9, rfl, hI9, hJ9⟩
        obtain rfl := hS9.symm
        obtain rfl := hI9.symm
        obtain rfl := hJ9.symm
        exact err 5 (by decide) (by decide) hp _ _
      · have hp : lawP K L.length (opN L) a = lawK K (opN L) k a := by rw [lawP, if_neg hk0, if_neg h24, ec]
        have n24 : ¬ nI L.length = nI 24 := fun q => h24 ((nI_eq (by omega) (by omega)).mp q)
        refine V_iload_n C dX7_readLaw_30 rfl ?_
        refine V_if_ge C 42 dX7_readLaw_31 (by decide) (fun h31 => ?_) (fun h31 => absurd (Int32.not_lt.mp hk0) h31)
        refine V_aload_n C dX7_readLaw_42 rfl ?_
        refine V_getR C fl_X7_83 (ob_K hM) (ob_R hM 12 1013 rfl rfl) rfl dX7_readLaw_43 ?_
        refine V_aload_n C dX7_readLaw_46 rfl ?_
        refine V_getI C fl_X7_234 (ob_K hM) rfl dX7_readLaw_47 ?_
        refine V_iald C (nx) (ob_A hM 12 1013 rfl rfl) hT.2.2.1 (by rw [ob_N hM 12 1013 rfl rfl]; omega) (by rw [ob_N hM 12 1013 rfl rfl]; decide) dX7_readLaw_50 ?_
        refine V_bipush C (v := nI 24) dX7_readLaw_51 (by decide +kernel) ?_
        refine V_icmp_ne C 61 dX7_readLaw_53 (by decide) (fun h53 => ?_) (fun h53 => absurd h53 (by rw [b1]; exact n24))
        refine V_aload_n C dX7_readLaw_61 rfl ?_
        refine V_getI C fl_X7_219 (ob_K hM) rfl dX7_readLaw_62 ?_
        refine V_if_le C 69 dX7_readLaw_65 (by decide) (fun h65 => ?_) (fun h65 => absurd (by rw [hT.2.1]; decide) h65)
        rw [ek]
        exact g69 k _ (by omega) hk e1 hp
  have loop : ∀ (c x : Nat), x + c = 9 → V X P 0 0 4 [some (.ref 1000), some (.int (fwN K a 0 x)), some (.int (nI (0 + x))), none] [] S I J := by
    intro c
    induction c with
    | zero =>
      intro x hx
      have hx : x = 9 := hx
      subst hx
      refine V_iload_n C dX7_readLaw_4 rfl ?_
      refine V_bipush C (v := nI 9) dX7_readLaw_5 (by decide +kernel) ?_
      refine V_icmp_ge C 30 dX7_readLaw_7 (by decide) (fun h7 => ?_) (fun h7 => absurd (by decide) h7)
      exact g30 _
    | succ c ih =>
      intro x hx
      have nx2 := ih (x + 1) (by omega)
      rw [fwN] at nx2
      have es : Value.int (nI (0 + x)) = .int (nI x) := by rw [Nat.zero_add]
      by_cases hw : isWP K a (0 + x)
      · rw [if_pos hw] at nx2
        refine V_iload_n C dX7_readLaw_4 rfl ?_
        refine V_bipush C (v := nI 9) dX7_readLaw_5 (by decide +kernel) ?_
        refine V_icmp_ge C 30 dX7_readLaw_7 (by decide) (fun h7 => absurd h7 (nI_ge (by omega) (by omega))) (fun h7 => ?_)
        refine V_aload_n C dX7_readLaw_10 rfl ?_
        refine V_iload_n C dX7_readLaw_11 rfl ?_
        refine V_callV (F := fun _ => True) C (m_isWord hM (w := 0 + x) (by omega) hE hT ha) mi_X7_isWord ml_X7_228 rfl (ob_K hM) (by decide) (by decide) (by decide) (Nat.le_of_ble_eq_true rfl) (fun _ _ => trivial) (fun v _ => clo_T v) rfl dX7_readLaw_12 ?_
        rintro v S' I' J' ⟨hS9, rfl, hI9, hJ9⟩
        obtain rfl := hS9.symm
        obtain rfl := hI9.symm
        obtain rfl := hJ9.symm
        refine V_if_eq C 22 dX7_readLaw_15 (by decide) (fun h15 => absurd h15 (by rw [bI_0]; exact fun r => r ⟨rfl, hw⟩)) (fun h15 => ?_)
        refine V_iload_n C dX7_readLaw_18 rfl ?_
        refine V_top es ?_
        refine V_goto C 23 dX7_readLaw_19 (by decide) ?_
        refine V_istore_n C dX7_readLaw_23 (hn _ (by decide)) ?_
        refine V_iincU C dX7_readLaw_24 rfl (hn _ (by decide)) ?_
        refine V_goto C 4 dX7_readLaw_27 (by decide) ?_
        exact nx2
      · rw [if_neg hw] at nx2
        refine V_iload_n C dX7_readLaw_4 rfl ?_
        refine V_bipush C (v := nI 9) dX7_readLaw_5 (by decide +kernel) ?_
        refine V_icmp_ge C 30 dX7_readLaw_7 (by decide) (fun h7 => absurd h7 (nI_ge (by omega) (by omega))) (fun h7 => ?_)
        refine V_aload_n C dX7_readLaw_10 rfl ?_
        refine V_iload_n C dX7_readLaw_11 rfl ?_
        refine V_callV (F := fun _ => True) C (m_isWord hM (w := 0 + x) (by omega) hE hT ha) mi_X7_isWord ml_X7_228 rfl (ob_K hM) (by decide) (by decide) (by decide) (Nat.le_of_ble_eq_true rfl) (fun _ _ => trivial) (fun v _ => clo_T v) rfl dX7_readLaw_12 ?_
        rintro v S' I' J' ⟨hS9, rfl, hI9, hJ9⟩
        obtain rfl := hS9.symm
        obtain rfl := hI9.symm
        obtain rfl := hJ9.symm
        refine V_if_eq C 22 dX7_readLaw_15 (by decide) (fun h15 => ?_) (fun h15 => absurd (bI_f (fun r => hw r.2)) h15)
        refine V_iload_n C dX7_readLaw_22 rfl ?_
        refine V_istore_n C dX7_readLaw_23 (hn _ (by decide)) ?_
        refine V_iincU C dX7_readLaw_24 rfl (hn _ (by decide)) ?_
        refine V_goto C 4 dX7_readLaw_27 (by decide) ?_
        exact nx2
  refine V_iconst C (v := (-1)) dX7_readLaw_0 (by decide +kernel) ?_
  refine V_istore_n C dX7_readLaw_1 (hn _ (by decide)) ?_
  refine V_iconst C (v := nI 0) dX7_readLaw_2 (by decide +kernel) ?_
  refine V_istore_n C dX7_readLaw_3 (hn _ (by decide)) ?_
  exact loop 9 0 rfl
end M28
