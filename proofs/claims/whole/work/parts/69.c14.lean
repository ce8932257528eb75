/-! what the class holds: the object at key 1100 -/
section C14
variable {l : Launch} {S S' : HS} {I I' : HI} {J J' : HJ} {z : SV} {la lb : Nat}
/-- no live cell names a dead one -/
def wfS (S : HS) : Prop := ∀ b x k, S.1 b ≠ 0 → S.2.2 b x = some k → S.1 k ≠ 0
def SS (S : HS) (la lb : Nat) : Prop := Ob S 6 1100 ∧ (S.2.2 1100 0 = some 1500 ∧ S.2.2 1100 1 = some 4300 ∧ S.2.2 1100 3 = some 1120 ∧ S.2.2 1100 4 = some 1130 ∧ S.2.2 1100 5 = some 1140 ∧ S.2.2 1100 6 = some la ∧ S.2.2 1100 7 = some lb) ∧ Ob S 0 1140 ∧ S.2.2 1140 1 = some la ∧ (Ob S 4 1130 ∧ S.2.2 1130 0 = some 1120) ∧ Ob S 5 1120 ∧ Ob S 2 la ∧ Ob S 2 lb ∧ Dk S 1500 ∧ Dk S 4300 ∧ ((la = 1160 ∧ lb = 1180) ∨ (la = 1180 ∧ lb = 1160)) ∧ wfS S
/-- the course enters the disk b -/
def enS (S : HS) (b : Nat) : HS := (S.1, S.2.1, up2 S.2.2 1140 0 (some b))
theorem enS_ne {b a : Nat} (h : a ≠ 1140) : (enS S b).2.2 a = S.2.2 a := up2_ne _ _ _ h
theorem enS_x {b x : Nat} (h : x ≠ 0) : (enS S b).2.2 1140 x = S.2.2 1140 x := by show up2 S.2.2 1140 0 (some b) 1140 x = _; rw [up2_row, va_up_ne _ _ h]
theorem enS_0 {b : Nat} : (enS S b).2.2 1140 0 = some b := by show up2 S.2.2 1140 0 (some b) 1140 0 = _; rw [up2_row, va_up_self]
theorem Ob.en {ci a b : Nat} (h : Ob S ci a) (hc : a ≠ 1140 ∨ ci = 0) : Ob (enS S b) ci a := by
  refine ⟨h.1, fun x kd ln hx => ?_⟩
  obtain ⟨h1, h2, h3⟩ := h.2 x kd ln hx
  refine ⟨?_, h2, h3⟩
  by_cases ha : a = 1140
  · subst ha
    rcases hc with hc | hc
    · exact absurd rfl hc
    · subst hc
      have hx0 : x ≠ 0 := fun h => by subst h; cases hx
      rw [enS_x hx0]
      exact h1
  · rw [enS_ne ha]; exact h1
theorem Dk.en {c b : Nat} (h : Dk S c) (hc : 1500 ≤ c) : Dk (enS S b) c := ⟨h.1.en (Or.inl (by omega)), fun x hx => ⟨(h.2 x hx).1.en (Or.inl (by omega)), by rw [enS_ne (by omega)]; exact (h.2 x hx).2⟩⟩
theorem SS.en {b : Nat} (h : SS S la lb) (hb : b = 1500 ∨ b = 4300 := by decide) : SS (enS S b) la lb := by
  obtain ⟨h1, ⟨r0, r1, r3, r4, r5, r6, r7⟩, h3, h4, h5, h6, h7, h8, h9, h10, h11, h12⟩ := h
  refine ⟨h1.en (Or.inl (by omega)), by rw [enS_ne (by omega)]; exact ⟨r0, r1, r3, r4, r5, r6, r7⟩, h3.en (Or.inr rfl), by rw [enS_x (by omega)]; exact h4, ⟨h5.1.en (Or.inl (by omega)), by rw [enS_ne (by omega)]; exact h5.2⟩, h6.en (Or.inl (by omega)), h7.en (Or.inl (by omega)), h8.en (Or.inl (by omega)), h9.en (by omega), h10.en (by omega), h11, fun c x k hc hx => ?_⟩
  by_cases e : c = 1140 ∧ x = 0
  · rw [e.1, e.2, enS_0] at hx
    have ek : b = k := Option.some.inj hx
    show S.1 k ≠ 0
    rcases hb with rfl | rfl
    · rw [← ek, ob_K h9.1]; omega
    · rw [← ek, ob_K h10.1]; omega
  · refine h12 c x k hc ?_
    rw [← hx]
    by_cases e1 : c = 1140
    · rw [e1, enS_x (fun q => e ⟨e1, q⟩)]
    · rw [enS_ne e1]
theorem SS.co {b : Nat} (h : SS S la lb) (hd : Dk S b) (hb : 1500 ≤ b) : CoS (enS S b) b la := by
  obtain ⟨h1, -, h3, h4, h5, h6, h7, h8, h9, h10, h11, -⟩ := h
  exact ⟨h3.en (Or.inr rfl), enS_0, by rw [enS_x (by omega)]; exact h4, hd.en hb, h7.en (Or.inl (by omega)), hb, by omega⟩
def mkC (z : SV) (S : HS) (I : HI) (J : HJ) (m : Nat) : Prop := match z.2.1 m with
  | none => S.2.2 1103 m = none ∧ ∀ a, 1900 + 400 * m ≤ a → a < 2300 + 400 * m → S.1 a = 0
  | some q => S.2.2 1103 m = some (1900 + 400 * m) ∧ Dk S (1900 + 400 * m) ∧ CQ I J (1900 + 400 * m) q
def tpK (I : HI) (T : List Int32) : Prop := I 1120 0 = nI T.length ∧ ∀ i, i < T.length → I 1122 i = T.getD i 0
def tdK (I : HI) (T : List (Int32 × Int32)) : Prop := I 1100 11 = nI T.length ∧ ∀ i, i < T.length → I 1110 i = (T.getD i (0, 0)).1 ∧ I 1111 i = (T.getD i (0, 0)).2
/-- the class holds z -/
def CR (la : Nat) (z : SV) (S : HS) (I : HI) (J : HJ) : Prop := CQ I J 1500 z.1 ∧ (∀ m, m < 6 → mkC z S I J m) ∧ CL I la z.2.2.1.1 ∧ I 1100 8 = z.2.2.1.2.1 ∧ I 1140 3 = nI z.2.2.1.2.2.1 ∧ I 1140 4 = z.2.2.1.2.2.2 ∧ tpK I z.2.2.2.1 ∧ tdK I z.2.2.2.2
def ClsR (z : SV) (S : HS) (I : HI) (J : HJ) : Prop := ∃ la lb, SS S la lb ∧ CR la z S I J
/-- at step 0 there are told amounts alone -/
def pOk (q : QV) : Prop := (∃ s, s ≤ 9999 ∧ q.1 0 1 = nI s) ∧ (q.1 0 1 = 0 → (∀ k, k < 12 → (q.1 1 k).toInt ≤ 99999) ∧ (∀ k, k < 60 → (q.1 4 k).toInt ≤ 99999) ∧ q.1 0 6 = 0 ∧ q.2.1 = 0 ∧ q.2.2 = 0)
def OkC (z : SV) : Prop := (iOk z.1 ∧ pOk z.1) ∧ (∀ m q, z.2.1 m = some q → iOk q ∧ pOk q) ∧ (∀ g, lwOk (kcl z.2.2.1.1 g)) ∧ (∃ e, z.2.2.1.2.1 = nI e ∧ e < 16) ∧ z.2.2.1.2.2.1 ≤ 20 ∧ opN z.2.2.1.1 ≤ 4 ∧ (∃ sh, z.2.2.1.2.2.2 = nI sh ∧ sh ≤ 101) ∧ z.2.2.2.2.length ≤ 10 ∧ (∀ p, p ∈ z.2.2.2.2 → ∃ s, p.2 = nI s ∧ s ≤ 100) ∧ z.2.2.2.1.length ≤ 1000 ∧ ∀ c, c ∈ z.2.2.2.1 → okB c
theorem OkC.r (h : OkC z) : OkR z := by
  obtain ⟨h1, h2, h3, h4, h5, h6, h7, h8, h9, h10, h11⟩ := h
  refine ⟨h1.1.ok, fun m q hq => (h2 m q hq).1.ok, fun g f => ?_, h5, h6, h8, h9, h10⟩
  rcases h3 g 5 f (by decide) with e | e
  · rw [e]; decide
  · exact Int32.le_iff_toInt_le.mpr (e.2.1 (by decide))
/-- keys that tries leave as they were -/
def Kc (I : HI) (J : HJ) (I' : HI) (J' : HJ) : Prop := (∀ a, (a < 4300 ∨ 4700 ≤ a) → a ≠ 1140 → a ≠ 1146 → a ≠ 1147 → a ≠ 1148 → a ≠ 1172 → a ≠ 1192 → I' a = I a) ∧ (∀ x, x ≠ 2 → I' 1140 x = I 1140 x) ∧ ∀ a, (a < 4300 ∨ 4700 ≤ a) → J' a = J a
theorem Kc.re : Kc I J I J := ⟨fun _ _ _ _ _ _ _ _ => rfl, fun _ _ => rfl, fun _ _ => rfl⟩
theorem Kc.tr {I2 : HI} {J2 : HJ} (h : Kc I J I2 J2) (g : Kc I2 J2 I' J') : Kc I J I' J' := ⟨fun a h1 h2 h3 h4 h5 h6 h7 => (g.1 a h1 h2 h3 h4 h5 h6 h7).trans (h.1 a h1 h2 h3 h4 h5 h6 h7), fun x hx => (g.2.1 x hx).trans (h.2.1 x hx), fun a ha => (g.2.2 a ha).trans (h.2.2 a ha)⟩
theorem Kc.fc (h : FC 4300 I J I' J') : Kc I J I' J' := ⟨fun a h1 _ h3 h4 h5 h6 h7 => h.1 a ⟨h1, h3, h4, h5, h6, h7⟩, fun x _ => by rw [h.1 1140 ⟨by omega, by omega, by omega, by omega, by omega, by omega⟩], h.2⟩
theorem Kc.sk (h : Sk I I') : Kc I J I' J := Kc.fc (h.fc)
theorem Kc.en {g : Int32} : Kc I J (up2 I 1140 2 g) J := ⟨fun a _ h2 _ _ _ _ _ => up2_ne _ _ _ h2, fun x hx => by rw [up2_row, va_up_ne _ _ hx], fun _ _ => rfl⟩
theorem CQ.same {b : Nat} {q : QV} (h : CQ I J b q) (hI : ∀ a, b ≤ a → a < b + 400 → I' a = I a) (hJ : J' b = J b) (h30 : cmD q.1 ≤ 30) : CQ I' J' b q := ⟨h.1.same hI hJ h30, by rw [hI b (by omega) (by omega)]; exact h.2.1, by rw [hI b (by omega) (by omega)]; exact h.2.2⟩
theorem CR.kc (hO : OkC z) (hla : la = 1160 ∨ la = 1180) (h : CR la z S I J) (k : Kc I J I' J') (hS : S'.2.2 1103 = S.2.2 1103 ∧ S'.1 = S.1) (hD : ∀ c, 1500 ≤ c → Dk S c → Dk S' c) : CR la z S' I' J' := by
  obtain ⟨h1, h2, h3, h4, h5, h6, h7, h8⟩ := h
  obtain ⟨k1, k2, k3⟩ := k
  have r : ∀ a, (a < 4300 ∨ 4700 ≤ a) → a ≠ 1140 → a ≠ 1146 → a ≠ 1147 → a ≠ 1148 → a ≠ 1172 → a ≠ 1192 → I' a = I a := k1
  refine ⟨h1.same (fun a g1 g2 => r a (by omega) (by omega) (by omega) (by omega) (by omega) (by omega) (by omega)) (k3 _ (by omega)) hO.1.1.1.2.2.2.2.1, fun m hm => ?_, h3.cg (fun x _ => by rw [r la (by omega) (by omega) (by omega) (by omega) (by omega) (by omega) (by omega)]) (fun a g1 g2 => r a (by omega) (by omega) (by omega) (by omega) (by omega) (by omega) (by omega)), by rw [r 1100 (by omega) (by omega) (by omega) (by omega) (by omega) (by omega) (by omega)]; exact h4, by rw [k2 3 (by decide)]; exact h5, by rw [k2 4 (by decide)]; exact h6, ?_, ?_⟩
  · have hm2 := h2 m hm
    unfold mkC at hm2 ⊢
    cases hz : z.2.1 m with
    | none => rw [hz] at hm2; dsimp only at hm2 ⊢; rw [hS.1, hS.2]; exact hm2
    | some q =>
      rw [hz] at hm2
      dsimp only at hm2 ⊢
      exact ⟨by rw [hS.1]; exact hm2.1, hD _ (by omega) hm2.2.1, hm2.2.2.same (fun a g1 g2 => r a (by omega) (by omega) (by omega) (by omega) (by omega) (by omega) (by omega)) (k3 _ (by omega)) (hO.2.1 m q hz).1.1.2.2.2.2.1⟩
  · unfold tpK
    rw [r 1120 (by omega) (by omega) (by omega) (by omega) (by omega) (by omega) (by omega), r 1122 (by omega) (by omega) (by omega) (by omega) (by omega) (by omega) (by omega)]
    exact h7
  · unfold tdK
    rw [r 1100 (by omega) (by omega) (by omega) (by omega) (by omega) (by omega) (by omega), r 1110 (by omega) (by omega) (by omega) (by omega) (by omega) (by omega) (by omega), r 1111 (by omega) (by omega) (by omega) (by omega) (by omega) (by omega) (by omega)]
    exact h8
theorem CR.ks (hO : OkC z) (hla : la = 1160 ∨ la = 1180) (h : CR la z S I J) (k : Kc I J I' J') : CR la z S I' J' := h.kc hO hla k ⟨rfl, rfl⟩ (fun _ _ h => h)
theorem CR.ke {b : Nat} (hO : OkC z) (hla : la = 1160 ∨ la = 1180) (h : CR la z S I J) (k : Kc I J I' J') : CR la z (enS S b) I' J' := h.kc hO hla k ⟨enS_ne (by decide), rfl⟩ (fun c hc h => h.en hc)
/-- the disk itself has changed -/
theorem CR.dk {q : QV} (hla : la = 1160 ∨ la = 1180) (hm30 : ∀ m q, z.2.1 m = some q → cmD q.1 ≤ 30) (h : CR la z S I J) (hq : CQ I' J' 1500 q) (k1 : ∀ a, (a < 1500 ∨ 1900 ≤ a) → (a < 4300 ∨ 4700 ≤ a) → a ≠ 1140 → a ≠ 1146 → a ≠ 1147 → a ≠ 1148 → a ≠ 1172 → a ≠ 1192 → I' a = I a) (k2 : ∀ x, x ≠ 2 → I' 1140 x = I 1140 x) (k3 : ∀ a, (a < 1500 ∨ 1900 ≤ a) → (a < 4300 ∨ 4700 ≤ a) → J' a = J a) (hS : S'.2.2 1103 = S.2.2 1103 ∧ S'.1 = S.1) (hD : ∀ c, 1500 ≤ c → Dk S c → Dk S' c) : CR la (setQ z q) S' I' J' := by
  obtain ⟨h1, h2, h3, h4, h5, h6, h7, h8⟩ := h
  have r : ∀ a, (a < 1500 ∨ 1900 ≤ a) → (a < 4300 ∨ 4700 ≤ a) → a ≠ 1140 → a ≠ 1146 → a ≠ 1147 → a ≠ 1148 → a ≠ 1172 → a ≠ 1192 → I' a = I a := k1
  refine ⟨hq, fun m hm => ?_, h3.cg (fun x _ => by rw [r la (by omega) (by omega) (by omega) (by omega) (by omega) (by omega) (by omega) (by omega)]) (fun a g1 g2 => r a (by omega) (by omega) (by omega) (by omega) (by omega) (by omega) (by omega) (by omega)), by rw [r 1100 (by omega) (by omega) (by omega) (by omega) (by omega) (by omega) (by omega) (by omega)]; exact h4, by rw [k2 3 (by decide)]; exact h5, by rw [k2 4 (by decide)]; exact h6, ?_, ?_⟩
  · have hm2 := h2 m hm
    show mkC (setQ z q) S' I' J' m
    unfold mkC at hm2 ⊢
    show (match z.2.1 m with | none => S'.2.2 1103 m = none ∧ ∀ a, 1900 + 400 * m ≤ a → a < 2300 + 400 * m → S'.1 a = 0 | some q => S'.2.2 1103 m = some (1900 + 400 * m) ∧ Dk S' (1900 + 400 * m) ∧ CQ I' J' (1900 + 400 * m) q)
    cases hz : z.2.1 m with
    | none => rw [hz] at hm2; dsimp only at hm2 ⊢; rw [hS.1, hS.2]; exact hm2
    | some q2 =>
      rw [hz] at hm2
      dsimp only at hm2 ⊢
      exact ⟨by rw [hS.1]; exact hm2.1, hD _ (by omega) hm2.2.1, hm2.2.2.same (fun a g1 g2 => r a (by omega) (by omega) (by omega) (by omega) (by omega) (by omega) (by omega) (by omega)) (k3 _ (by omega) (by omega)) (hm30 m q2 hz)⟩
  · show tpK I' z.2.2.2.1
    unfold tpK
    rw [r 1120 (by omega) (by omega) (by omega) (by omega) (by omega) (by omega) (by omega) (by omega), r 1122 (by omega) (by omega) (by omega) (by omega) (by omega) (by omega) (by omega) (by omega)]
    exact h7
  · show tdK I' z.2.2.2.2
    unfold tdK
    rw [r 1100 (by omega) (by omega) (by omega) (by omega) (by omega) (by omega) (by omega) (by omega), r 1110 (by omega) (by omega) (by omega) (by omega) (by omega) (by omega) (by omega) (by omega), r 1111 (by omega) (by omega) (by omega) (by omega) (by omega) (by omega) (by omega) (by omega)]
    exact h8
theorem CR.d {q : QV} (hO : OkC z) (hla : la = 1160 ∨ la = 1180) (h : CR la z S I J) (hq : CQ I' J' 1500 q) (f : FC 1500 I J I' J') : CR la (setQ z q) S I' J' := h.dk hla (fun m q hq => (hO.2.1 m q hq).1.1.2.2.2.2.1) hq (fun a h1 _ _ h3 h4 h5 h6 h7 => f.1 a ⟨h1, h3, h4, h5, h6, h7⟩) (fun x _ => by rw [f.1 1140 ⟨by omega, by omega, by omega, by omega, by omega, by omega⟩]) (fun a h1 _ => f.2 a h1) ⟨rfl, rfl⟩ (fun _ _ h => h)
/-- a contract of the class's face -/
abbrev Mf (l : Launch) (y : MethodName) (cc : ByteArray) (nL : Nat) (ret : Option FieldType) (n : Nat) (As : List Value) (S : HS) (I : HI) (J : HJ) (post : Option Value → HS → HI → HJ → Prop) : Prop := Mt l y cc nL ret (rmk n) (fun _ => True) As S I J post
theorem Mf.of {y : MethodName} {cc : ByteArray} {nL : Nat} {ret : Option FieldType} {n : Nat} {As : List Value} {post : Option Value → HS → HI → HJ → Prop} (hy : plainName y.cls = true) (hl : ∀ ad, (lg_sl (As.map (vv ad))).length ≤ nL)
    (body : ∀ (X : VX) (P : Option Value → HS → HI → HJ → Prop), (∀ v S' I' J', post v S' I' J' → P v S' I' J') → (∀ k, k < nL → k < xn X) → Cx X cc y ret (rmk n) → V X P 0 0 0 (lvs nL As) [] S I J) : Mf l y cc nL ret n As S I J post :=
  Mt.of hy hl (fun _ _ => trivial) (fun X _ hN _ C => body X _ (fun _ _ _ _ h => h) (fun k hk => by rw [hN]; exact hk) C)
theorem st_nz {q : QV} (h : pOk q) : (¬ q.1 0 1 = 0) ↔ 0 < q.1 0 1 := by
  obtain ⟨s, hs, e⟩ := h.1
  rw [e]
  constructor
  · intro h
    exact nI_lt (a := 0) (Nat.pos_of_ne_zero (fun q => h (by rw [q]; rfl))) (by omega)
  · intro h q
    rw [q] at h
    exact absurd h (by decide)
set_option maxRecDepth 100000 in
theorem f_rings (hR : ClsR z S I J) (hO : OkC z) (n : Int32) : Mf l yX6_rings cX6_rings 2 (some .boolean) 2 [.ref 1100, .int n] S I J (fun v S' I' J' => v = some (.int (bI (okRings z n))) ∧ ClsR (nRings z n) S' I' J') := by
  refine Mf.of (by decide) (fun ad => by simp [lg_sl, vv, Value.category]) (fun X P hP hn C => ?_)
  have hR0 := hR
  obtain ⟨la, lb, hS, hC⟩ := hR
  have hla : la = 1160 ∨ la = 1180 := by have := hS.2.2.2.2.2.2.2.2.2.2; omega
  obtain ⟨h1, ⟨r0, r1, r3, r4, r5, r6, r7⟩, -, -, -, -, -, -, h9, h10, -⟩ := id hS
  have hK1 := h9.1
  obtain ⟨c0, c1, c2, c3, -, -⟩ := hC.1.1.1
  have nz := st_nz hO.1.2
  by_cases hs : z.1.1 0 1 = 0
  · by_cases hw : wi n (nI 2) (nI 12)
    · have ok : okRings z n := ⟨fun q => nz.mpr q hs, hw⟩
      refine V_aload_n C dX6_rings_0 rfl ?_
      refine V_getR C fl_X6_10 (ob_K h1) r0 rfl dX6_rings_1 ?_
      refine V_getI C fl_X6_67 (ob_K hK1) rfl dX6_rings_4 ?_
      refine V_if_ne C 20 dX6_rings_7 (by decide) (fun h7 => absurd (c1.trans hs) h7) (fun h7 => ?_)
      refine V_iload_n C dX6_rings_10 rfl ?_
      refine V_iconst C (v := nI 2) dX6_rings_11 (by decide +kernel) ?_
      refine V_bipush C (v := nI 12) dX6_rings_12 (by decide +kernel) ?_
      refine V_callS (F := fun _ => True) C (m_isW _ _ _) ms_X6_isWithin ml_X6_71 rfl (by decide) (by decide) (Nat.le_of_ble_eq_true rfl) (fun _ _ => trivial) (fun v _ => clo_T v) rfl dX6_rings_14 ?_
      rintro v S' I' J' ⟨hS9, rfl, hI9, hJ9⟩
      obtain rfl := hS9.symm
      obtain rfl := hI9.symm
      obtain rfl := hJ9.symm
      refine V_if_ne C 22 dX6_rings_17 (by decide) (fun h17 => ?_) (fun h17 => absurd h17 (by rw [bI_0]; exact fun q => q hw))
      refine V_aload_n C dX6_rings_22 rfl ?_
      refine V_getR C fl_X6_10 (ob_K h1) r0 rfl dX6_rings_23 ?_
      refine V_iload_n C dX6_rings_26 rfl ?_
      refine V_callV (F := fun _ => True) C (c_clear (D := z.1.1) (by omega) h9 ⟨c1, c2, c3⟩ n) mi_X1_clear ml_X6_75 rfl (ob_K hK1) (by decide) (by decide) (by decide) (Nat.le_of_ble_eq_true rfl) (fun _ _ => trivial) (fun v _ => clo_T v) rfl dX6_rings_27 ?_
      rintro v S' I2 J2 ⟨hS9, rfl, q2, f2, hJ9⟩
      obtain rfl := hS9.symm
      obtain rfl := hJ9.symm
      refine V_iconst C (v := nI 1) dX6_rings_30 (by decide +kernel) ?_
      exact V_zret C (by first | exact Or.inl rfl | exact Or.inr rfl | (simp only [bI]; split <;> first | exact Or.inl rfl | exact Or.inr rfl) | assumption) (Nat.zero_le _) (Nat.zero_le _) dX6_rings_31 (hP _ _ _ _ ⟨by rw [bI_t ok]; rfl, by rw [nRings, if_pos ok]; exact ⟨la, lb, hS, hC.d hO hla q2 f2⟩⟩)
    · have no : ¬ okRings z n := fun q => hw q.2
      refine V_aload_n C dX6_rings_0 rfl ?_
      refine V_getR C fl_X6_10 (ob_K h1) r0 rfl dX6_rings_1 ?_
      refine V_getI C fl_X6_67 (ob_K hK1) rfl dX6_rings_4 ?_
      refine V_if_ne C 20 dX6_rings_7 (by decide) (fun h7 => absurd (c1.trans hs) h7) (fun h7 => ?_)
      refine V_iload_n C dX6_rings_10 rfl ?_
      refine V_iconst C (v := nI 2) dX6_rings_11 (by decide +kernel) ?_
      refine V_bipush C (v := nI 12) dX6_rings_12 (by decide +kernel) ?_
      refine V_callS (F := fun _ => True) C (m_isW _ _ _) ms_X6_isWithin ml_X6_71 rfl (by decide) (by decide) (Nat.le_of_ble_eq_true rfl) (fun _ _ => trivial) (fun v _ => clo_T v) rfl dX6_rings_14 ?_
      rintro v S' I' J' ⟨hS9, rfl, hI9, hJ9⟩
      obtain rfl := hS9.symm
      obtain rfl := hI9.symm
      obtain rfl := hJ9.symm
      refine V_if_ne C 22 dX6_rings_17 (by decide) (fun h17 => absurd (bI_f hw) h17) (fun h17 => ?_)
      refine V_iconst C (v := nI 0) dX6_rings_20 (by decide +kernel) ?_
      exact V_zret C (by first | exact Or.inl rfl | exact Or.inr rfl | (simp only [bI]; split <;> first | exact Or.inl rfl | exact Or.inr rfl) | assumption) (Nat.zero_le _) (Nat.zero_le _) dX6_rings_21 (hP _ _ _ _ ⟨by rw [bI_f no]; rfl, by rw [nRings, if_neg no]; exact hR0⟩)
  · have no : ¬ okRings z n := fun q => q.1 (nz.mp hs)
    refine V_aload_n C dX6_rings_0 rfl ?_
    refine V_getR C fl_X6_10 (ob_K h1) r0 rfl dX6_rings_1 ?_
    refine V_getI C fl_X6_67 (ob_K hK1) rfl dX6_rings_4 ?_
    refine V_if_ne C 20 dX6_rings_7 (by decide) (fun h7 => ?_) (fun h7 => absurd h7 (by rw [c1]; exact hs))
    refine V_iconst C (v := nI 0) dX6_rings_20 (by decide +kernel) ?_
    exact V_zret C (by first | exact Or.inl rfl | exact Or.inr rfl | (simp only [bI]; split <;> first | exact Or.inl rfl | exact Or.inr rfl) | assumption) (Nat.zero_le _) (Nat.zero_le _) dX6_rings_21 (hP _ _ _ _ ⟨by rw [bI_f no]; rfl, by rw [nRings, if_neg no]; exact hR0⟩)
theorem isRx {q : QV} (h : iOk q) {r : Int32} (hr : isR q.1 r) : ∃ k, k < rgD q.1 ∧ r = nI k ∧ cl r = k := by
  obtain ⟨k, hk, e⟩ := nI_ofge hr.1
  have h2 := hr.2
  rw [h.1.1, e, nI_ltI hk (by have := h.1.2.2.1; omega)] at h2
  exact ⟨k, h2, e, by rw [e]; exact nI_clamp hk⟩
theorem isLx {q : QV} (h : iOk q) {r : Int32} (hr : isL q.1 r) : ∃ k, k < cmD q.1 ∧ r = nI k ∧ cl r = k := by
  obtain ⟨k, hk, e⟩ := nI_ofge hr.1
  have h2 := hr.2
  rw [h.1.2.2.2.1, e, nI_ltI hk (by have := h.1.2.2.2.2.1; omega)] at h2
  exact ⟨k, h2, e, by rw [e]; exact nI_clamp hk⟩
theorem CD.warm {b k : Nat} {v : Int32} {D : DV} (h : CD I J b D) (x c : Nat) (hx : (x = 10 ∧ c = 2) ∨ (x = 11 ∧ c = 3)) : CD (up2 I (b + x) k v) J b (up2 D c k v) := by
  obtain ⟨⟨h0, h1, h2, h3, h4', h5⟩, g1, g2, g3⟩ := h
  have hI : ∀ a, a ≠ b + x → up2 I (b + x) k v a = I a := fun a ha => up2_ne _ _ _ ha
  have hD : ∀ d, d ≠ c → up2 D c k v d = D d := fun d hd => up2_ne _ _ _ hd
  have e0 := hD 0 (by omega)
  refine ⟨?_, fun y hy => ?_, fun y hy => ?_, fun u hu => ?_⟩
  · rw [hI b (by omega), e0, thD_cg (D := D) (by rw [e0]) (hD 5 (by omega))]; exact ⟨h0, h1, h2, h3, h4', h5⟩
  · obtain ⟨a1, a2, a3⟩ := g1 y hy
    rcases hx with ⟨rfl, rfl⟩ | ⟨rfl, rfl⟩
    · rw [hI (b + 9) (by omega), hI (b + 11) (by omega), hD 1 (by omega), hD 3 (by omega), up2_row, up2_row]
      refine ⟨a1, ?_, a3⟩
      by_cases ey : y = k
      · rw [ey, va_up_self, va_up_self]
      · rw [va_up_ne _ _ ey, va_up_ne _ _ ey]; exact a2
    · rw [hI (b + 9) (by omega), hI (b + 10) (by omega), hD 1 (by omega), hD 2 (by omega), up2_row, up2_row]
      refine ⟨a1, a2, ?_⟩
      by_cases ey : y = k
      · rw [ey, va_up_self, va_up_self]
      · rw [va_up_ne _ _ ey, va_up_ne _ _ ey]; exact a3
  · rw [hI (b + 12) (by omega), hD 4 (by omega)]; exact g2 y hy
  · rw [cmD_cg (by rw [e0])] at hu
    exact (g3 u hu).cg (hI _ (by omega)) (hI _ (by omega)) (fun d q1 _ => hD d (by omega))
set_option maxRecDepth 100000 in
set_option maxHeartbeats 1000000 in
theorem f_ring (hR : ClsR z S I J) (hO : OkC z) (r g w p : Int32) : Mf l yX6_ring cX6_ring 5 (some .boolean) 2 [.ref 1100, .int r, .int g, .int w, .int p] S I J (fun v S' I' J' => v = some (.int (bI (okRing z r g w p))) ∧ ClsR (nRing z r g w p) S' I' J') := by
  refine Mf.of (by decide) (fun ad => by simp [lg_sl, vv, Value.category]) (fun X P hP hn C => ?_)
  have hR0 := hR
  obtain ⟨la, lb, hS, hC⟩ := hR
  have hla : la = 1160 ∨ la = 1180 := by have := hS.2.2.2.2.2.2.2.2.2.2; omega
  obtain ⟨h1, ⟨r0, r1, r3, r4, r5, r6, r7⟩, -, -, -, -, -, -, h9, h10, -⟩ := id hS
  have hK1 := h9.1
  obtain ⟨c0, c1, c2, c3, -, -⟩ := hC.1.1.1
  have nz := st_nz hO.1.2
  have bad : ¬ okRing z r g w p → V X P 0 0 54 [some (.ref 1100), some (.int r), some (.int g), some (.int w), some (.int p)] [] S I J := by
    intro no
    refine V_iconst C (v := nI 0) dX6_ring_54 (by decide +kernel) ?_
    exact V_zret C (by first | exact Or.inl rfl | exact Or.inr rfl | (simp only [bI]; split <;> first | exact Or.inl rfl | exact Or.inr rfl) | assumption) (Nat.zero_le _) (Nat.zero_le _) dX6_ring_55 (hP _ _ _ _ ⟨by rw [bI_f no]; rfl, by rw [nRing, if_neg no]; exact hR0⟩)
  have good : okRing z r g w p → V X P 0 0 56 [some (.ref 1100), some (.int r), some (.int g), some (.int w), some (.int p)] [] S I J := by
    intro ok
    obtain ⟨k, hk, ek, ec⟩ := isRx hO.1.1 ok.2.1
    have h12 := hO.1.1.1.2.2.1
    have cd := ((hC.1.1.gas (k := k) (v := g)).warm (k := k) (v := w) 10 2 (Or.inl ⟨rfl, rfl⟩)).warm (k := k) (v := p) 11 3 (Or.inr ⟨rfl, rfl⟩)
    have f2 : FC 1500 I J (up2 (up2 (up2 I 1509 k g) 1510 k w) 1511 k p) J := ((FC.up (by omega)).tr (FC.up (by omega))).tr (FC.up (by omega))
    have q2 : CQ (up2 (up2 (up2 I 1509 k g) 1510 k w) 1511 k p) J 1500 (up2 (up2 (up2 z.1.1 1 k g) 2 k w) 3 k p, z.1.2) := hC.1.of cd rfl rfl
    have c3 := hC.d hO hla q2 f2
    refine V_aload_n C dX6_ring_56 rfl ?_
    refine V_getR C fl_X6_10 (ob_K h1) r0 rfl dX6_ring_57 ?_
    refine V_getR C fl_X6_84 (ob_K hK1) (ob_R hK1 8 1509 rfl rfl) rfl dX6_ring_60 ?_
    refine V_iload_n C dX6_ring_63 rfl ?_
    refine V_iload_n C dX6_ring_64 rfl ?_
    refine V_iast C (k) (ob_A hK1 8 1509 rfl rfl) ek (by rw [ob_N hK1 8 1509 rfl rfl]; omega) (by rw [ob_N hK1 8 1509 rfl rfl]; decide) dX6_ring_65 ?_
    refine V_aload_n C dX6_ring_66 rfl ?_
    refine V_getR C fl_X6_10 (ob_K h1) r0 rfl dX6_ring_67 ?_
    refine V_getR C fl_X6_87 (ob_K hK1) (ob_R hK1 9 1510 rfl rfl) rfl dX6_ring_70 ?_
    refine V_iload_n C dX6_ring_73 rfl ?_
    refine V_iload_n C dX6_ring_74 rfl ?_
    refine V_iast C (k) (ob_A hK1 9 1510 rfl rfl) ek (by rw [ob_N hK1 9 1510 rfl rfl]; omega) (by rw [ob_N hK1 9 1510 rfl rfl]; decide) dX6_ring_75 ?_
    refine V_aload_n C dX6_ring_76 rfl ?_
    refine V_getR C fl_X6_10 (ob_K h1) r0 rfl dX6_ring_77 ?_
    refine V_getR C fl_X6_90 (ob_K hK1) (ob_R hK1 10 1511 rfl rfl) rfl dX6_ring_80 ?_
    refine V_iload_n C dX6_ring_83 rfl ?_
    refine V_iload C dX6_ring_84 rfl ?_
    refine V_iast C (k) (ob_A hK1 10 1511 rfl rfl) ek (by rw [ob_N hK1 10 1511 rfl rfl]; omega) (by rw [ob_N hK1 10 1511 rfl rfl]; decide) dX6_ring_86 ?_
    refine V_iconst C (v := nI 1) dX6_ring_87 (by decide +kernel) ?_
    exact V_zret C (by first | exact Or.inl rfl | exact Or.inr rfl | (simp only [bI]; split <;> first | exact Or.inl rfl | exact Or.inr rfl) | assumption) (Nat.zero_le _) (Nat.zero_le _) dX6_ring_88 (hP _ _ _ _ ⟨by rw [bI_t ok]; rfl, by rw [nRing, if_pos ok, ec]; exact ⟨la, lb, hS, c3⟩⟩)
  refine V_aload_n C dX6_ring_0 rfl ?_
  refine V_getR C fl_X6_10 (ob_K h1) r0 rfl dX6_ring_1 ?_
  refine V_getI C fl_X6_67 (ob_K hK1) rfl dX6_ring_4 ?_
  refine V_if_ne C 54 dX6_ring_7 (by decide) (fun h7 => ?_) (fun h7 => ?_)
  · first | exact bad (fun q => q.1 (nz.mp (by rw [← c1]; exact h7))) | exact bad (fun q => bI_0.mp h18 q.2.1) | exact bad (fun q => bI_0.mp h28 q.2.2.1) | exact bad (fun q => bI_0.mp h39 q.2.2.2.1) | exact bad (fun q => bI_0.mp h51 q.2.2.2.2)
  · refine V_aload_n C dX6_ring_10 rfl ?_
    refine V_getR C fl_X6_10 (ob_K h1) r0 rfl dX6_ring_11 ?_
    refine V_iload_n C dX6_ring_14 rfl ?_
    refine V_callV (F := fun _ => True) C (c_isRing h9 hC.1.1 hO.1.1.1 r) mi_X1_isRing ml_X6_79 rfl (ob_K hK1) (by decide) (by decide) (by decide) (Nat.le_of_ble_eq_true rfl) (fun _ _ => trivial) (fun v _ => clo_T v) rfl dX6_ring_15 ?_
    rintro v S' I' J' ⟨hS9, rfl, hI9, hJ9⟩
    obtain rfl := hS9.symm
    obtain rfl := hI9.symm
    obtain rfl := hJ9.symm
    refine V_if_eq C 54 dX6_ring_18 (by decide) (fun h18 => ?_) (fun h18 => ?_)
    · first | exact bad (fun q => q.1 (nz.mp (by rw [← c1]; exact h7))) | exact bad (fun q => bI_0.mp h18 q.2.1) | exact bad (fun q => bI_0.mp h28 q.2.2.1) | exact bad (fun q => bI_0.mp h39 q.2.2.2.1) | exact bad (fun q => bI_0.mp h51 q.2.2.2.2)
    · refine V_iload_n C dX6_ring_21 rfl ?_
      refine V_iconst C (v := nI 0) dX6_ring_22 (by decide +kernel) ?_
      refine V_ldc C dX6_ring_23 kc_X6_83 ?_
      refine V_callS (F := fun _ => True) C (m_isW _ _ _) ms_X6_isWithin ml_X6_71 rfl (by decide) (by decide) (Nat.le_of_ble_eq_true rfl) (fun _ _ => trivial) (fun v _ => clo_T v) rfl dX6_ring_25 ?_
      rintro v S' I' J' ⟨hS9, rfl, hI9, hJ9⟩
      obtain rfl := hS9.symm
      obtain rfl := hI9.symm
      obtain rfl := hJ9.symm
      refine V_if_eq C 54 dX6_ring_28 (by decide) (fun h28 => ?_) (fun h28 => ?_)
      · first | exact bad (fun q => q.1 (nz.mp (by rw [← c1]; exact h7))) | exact bad (fun q => bI_0.mp h18 q.2.1) | exact bad (fun q => bI_0.mp h28 q.2.2.1) | exact bad (fun q => bI_0.mp h39 q.2.2.2.1) | exact bad (fun q => bI_0.mp h51 q.2.2.2.2)
      · refine V_iload_n C dX6_ring_31 rfl ?_
        refine V_iconst C (v := nI 0) dX6_ring_32 (by decide +kernel) ?_
        refine V_sipush C (v := nI 999) dX6_ring_33 (by decide +kernel) ?_
        refine V_callS (F := fun _ => True) C (m_isW _ _ _) ms_X6_isWithin ml_X6_71 rfl (by decide) (by decide) (Nat.le_of_ble_eq_true rfl) (fun _ _ => trivial) (fun v _ => clo_T v) rfl dX6_ring_36 ?_
        rintro v S' I' J' ⟨hS9, rfl, hI9, hJ9⟩
        obtain rfl := hS9.symm
        obtain rfl := hI9.symm
        obtain rfl := hJ9.symm
        refine V_if_eq C 54 dX6_ring_39 (by decide) (fun h39 => ?_) (fun h39 => ?_)
        · first | exact bad (fun q => q.1 (nz.mp (by rw [← c1]; exact h7))) | exact bad (fun q => bI_0.mp h18 q.2.1) | exact bad (fun q => bI_0.mp h28 q.2.2.1) | exact bad (fun q => bI_0.mp h39 q.2.2.2.1) | exact bad (fun q => bI_0.mp h51 q.2.2.2.2)
        · refine V_iload C dX6_ring_42 rfl ?_
          refine V_iconst C (v := nI 1) dX6_ring_44 (by decide +kernel) ?_
          refine V_sipush C (v := nI 9999) dX6_ring_45 (by decide +kernel) ?_
          refine V_callS (F := fun _ => True) C (m_isW _ _ _) ms_X6_isWithin ml_X6_71 rfl (by decide) (by decide) (Nat.le_of_ble_eq_true rfl) (fun _ _ => trivial) (fun v _ => clo_T v) rfl dX6_ring_48 ?_
          rintro v S' I' J' ⟨hS9, rfl, hI9, hJ9⟩
          obtain rfl := hS9.symm
          obtain rfl := hI9.symm
          obtain rfl := hJ9.symm
          refine V_if_ne C 56 dX6_ring_51 (by decide) (fun h51 => ?_) (fun h51 => ?_)
          · exact good ⟨fun q => nz.mpr q (c1.symm.trans h7), Decidable.not_not.mp (fun q => h18 (bI_0.mpr q)), Decidable.not_not.mp (fun q => h28 (bI_0.mpr q)), Decidable.not_not.mp (fun q => h39 (bI_0.mpr q)), Decidable.not_not.mp (fun q => h51 (bI_0.mpr q))⟩
          · first | exact bad (fun q => q.1 (nz.mp (by rw [← c1]; exact h7))) | exact bad (fun q => bI_0.mp h18 q.2.1) | exact bad (fun q => bI_0.mp h28 q.2.2.1) | exact bad (fun q => bI_0.mp h39 q.2.2.2.1) | exact bad (fun q => bI_0.mp h51 q.2.2.2.2)
end C14
