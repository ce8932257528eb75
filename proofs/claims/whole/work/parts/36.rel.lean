/-! what both sides hold: the disk, the marks, the laws (with end, luck, share), the tape, the told counts -/
section REL
abbrev QV : Type := DV × Int64 × Int64
abbrev SV : Type := QV × (Nat → Option QV) × (List Law × Int32 × Nat × Int32) × List Int32 × List (Int32 × Int32)
def opN : List Law → Nat
  | [] => 0
  | w :: L => opN L + (match w.2.2.2.1 with | none => 0 | some _ => 1)
def wdV : List Int64 := [36634562, 4666969, 8420961, 488306075, 310952, 6902, 1597499993, 9636, 969451, 755, 1176170, 1891, 573, 19741, 924600, 975695, 9639, 1167067, 232084, 1825, 1604747592, 989988, 23572053]
def mkR (I : HI) (J : HJ) (m : Nat) (o : Option QV) : Prop := match o with
  | none => I 1052 m = 0
  | some q => I 1052 m = 1 ∧ refQ I J (1 + m) = q
def tpR (I : HI) (T : List Int32) : Prop := I 1000 2 = nI T.length ∧ ∀ i, i < T.length → I 1002 i = T.getD i 0
def tdR (I : HI) (T : List (Int32 × Int32)) : Prop := I 1000 48 = nI T.length ∧ ∀ i, i < T.length → I 1050 i = (T.getD i (0, 0)).1 ∧ I 1051 i = (T.getD i (0, 0)).2
def opR (I : HI) (n : Nat) : Prop := ∃ h, h < 2 ∧ I 1000 10 = nI h ∧ I 1019 h = nI n
/-- the codes of laws lie in their bank -/
def bLs (I : HI) (h : Nat) : Nat → List Law → Prop
  | _, [] => True
  | k, w :: L => (∀ q, I 1018 k = nI q → q < 2200 → 1100 * h ≤ q ∧ q + w.2.2.2.2.length < 1100 * h + 1100) ∧ bLs I h (k + 1) L
def RLB (I : HI) (L : List Law) : Prop := RL_ I L ∧ ∃ h, h < 2 ∧ I 1000 10 = nI h ∧ bLs I h (24 * h) L
/-- the reference holds z -/
def RefR (z : SV) (I : HI) (J : HJ) : Prop := refQ I J 0 = z.1 ∧ cAll I J ∧ (∀ m, m < 6 → mkR I J m (z.2.1 m)) ∧ RLB I z.2.2.1.1 ∧ opR I (opN z.2.2.1.1) ∧ I 1000 24 = z.2.2.1.2.1 ∧ I 1000 44 = nI z.2.2.1.2.2.1 ∧ I 1000 45 = z.2.2.1.2.2.2 ∧ tpR I z.2.2.2.1 ∧ tdR I z.2.2.2.2 ∧ ∀ i, i < 23 → J 1010 i = wdV.getD i 0
variable {I I' I2 : HI} {J J' J2 : HJ} {b : Nat}
theorem RL_cg0 {L : List Law} (h0 : I' 1000 10 = I 1000 10) (h : ∀ a, 1013 ≤ a → a ≤ 1022 → I' a = I a) (hL : RL_ I L) : RL_ I' L := by
  obtain ⟨x, h1, h2, h3, h4, h5⟩ := hL
  refine ⟨x, h1, by rw [h0]; exact h2, by rw [h 1013 (by omega) (by omega)]; exact h3, h4, ?_⟩
  clear h2 h3 h4
  revert h5
  generalize 24 * x = q
  induction L generalizing q with
  | nil => exact fun _ => trivial
  | cons w L ih =>
    intro h5
    obtain ⟨⟨w1, w2, w3, w4, w5, w6, ⟨z, w7, w8⟩, w9⟩, h6⟩ := h5
    refine ⟨⟨by rw [h 1014 (by omega) (by omega)]; exact w1, w2, by rw [h 1015 (by omega) (by omega)]; exact w3, by rw [h 1016 (by omega) (by omega)]; exact w4, by rw [h 1017 (by omega) (by omega)]; exact w5, w6, ⟨z, by rw [h 1018 (by omega) (by omega)]; exact w7, mtC_congr (h 1021 (by omega) (by omega)) (h 1022 (by omega) (by omega)) _ _ w8⟩, w9⟩, ih _ h6⟩
theorem bLs_cg {h : Nat} (e : I' 1018 = I 1018) : ∀ (L : List Law) (k : Nat), bLs I h k L → bLs I' h k L := by
  intro L
  induction L with
  | nil => intro k _; trivial
  | cons w L ih => intro k hb; exact ⟨fun q h1 h2 => hb.1 q (by rw [← e]; exact h1) h2, ih (k + 1) hb.2⟩
theorem RL_cg {L : List Law} (h0 : I' 1000 10 = I 1000 10) (h : ∀ a, 1013 ≤ a → a ≤ 1022 → I' a = I a) (hL : RLB I L) : RLB I' L := by
  obtain ⟨x, h1, h2, h3⟩ := hL.2
  exact ⟨RL_cg0 h0 h hL.1, x, h1, by rw [h0]; exact h2, bLs_cg (h 1018 (by omega) (by omega)) _ _ h3⟩
/-- all but 'thrown', 'going', what is told and tried, and the disk of tries stays -/
def Kp (I : HI) (J : HJ) (I' : HI) (J' : HJ) : Prop := (∀ c, c ≠ 0 → c ≠ 25 → I' 1000 c = I 1000 c) ∧ (∀ a, a ≠ 1000 → (a < 1023 ∨ a = 1025 ∨ a = 1026 ∨ a = 1045 ∨ a = 1046 ∨ 1049 ≤ a) → I' a = I a) ∧ (∀ d, d < 7 → refQ I' J' d = refQ I J d) ∧ (cAll I J → cAll I' J') ∧ ∀ a, a ≠ 1035 → a ≠ 1036 → J' a = J a
theorem Kp.re : Kp I J I J := ⟨fun _ _ _ => rfl, fun _ _ _ => rfl, fun _ _ => rfl, id, fun _ _ _ => rfl⟩
theorem Kp.tr (h : Kp I J I2 J2) (g : Kp I2 J2 I' J') : Kp I J I' J' := ⟨fun c h1 h2 => (g.1 c h1 h2).trans (h.1 c h1 h2), fun a h1 h2 => (g.2.1 a h1 h2).trans (h.2.1 a h1 h2), fun d hd => (g.2.2.1 d hd).trans (h.2.2.1 d hd), fun q => g.2.2.2.1 (h.2.2.2.1 q), fun a h1 h2 => (g.2.2.2.2 a h1 h2).trans (h.2.2.2.2 a h1 h2)⟩
theorem Kp.fr (h : Fr 7 I J I' J') (hb : cmD (refD I' J' 7) ≤ 30) : Kp I J I' J' := ⟨fun c _ _ => by rw [h.1 1000 (by omega)], fun a _ h2 => h.1 a h2, fun d hd => by unfold refQ; rw [h.2.1 d (by omega) (by omega), (h.2.2.2 d (by omega)).1, (h.2.2.2 d (by omega)).2], fun q => h.cm q hb, h.2.2.1⟩
theorem refD_o {c : Nat} {v : Int32} {d : Nat} : refD (up2 I 1000 c v) J d = refD I J d := refD_congr (fun a h1 h2 => up2_ne _ _ _ (by omega))
theorem refQ_o {c : Nat} {v : Int32} {d : Nat} : refQ (up2 I 1000 c v) J d = refQ I J d := by unfold refQ; rw [refD_o]
theorem cAll_o {c : Nat} {v : Int32} (h : cAll I J) : cAll (up2 I 1000 c v) J := fun d hd => by rw [refD_o]; exact h d hd
theorem o_ne {c x : Nat} {v : Int32} (h : x ≠ c) : up2 I 1000 c v 1000 x = I 1000 x := by rw [up2_row, va_up_ne _ _ h]
theorem o_at {c : Nat} {v : Int32} : up2 I 1000 c v 1000 c = v := by rw [up2_row, va_up_self]
theorem Kp.o {c : Nat} {v : Int32} (hc : c = 0 ∨ c = 25) : Kp I J (up2 I 1000 c v) J := ⟨fun x h1 h2 => o_ne (by omega), fun a h1 _ => up2_ne _ _ _ h1, fun _ _ => refQ_o, cAll_o, fun _ _ _ => rfl⟩
theorem Kp.sc (h : Sc I I') : Kp I J I' J := ⟨fun c _ _ => by rw [h 1000 (by decide) (by decide) (by decide) (by decide)], fun a h1 h2 => h a (by omega) (by omega) (by omega) (by omega), fun d _ => by unfold refQ; rw [h.eq d], fun q d hd => by rw [h.eq d]; exact q d hd, fun _ _ _ => rfl⟩
theorem opR_cg {n : Nat} (h0 : I' 1000 10 = I 1000 10) (h : I' 1019 = I 1019) (hn : opR I n) : opR I' n := by
  obtain ⟨x, h1, h2, h3⟩ := hn
  exact ⟨x, h1, by rw [h0]; exact h2, by rw [h]; exact h3⟩
theorem tpR_cg {T : List Int32} (h0 : I' 1000 2 = I 1000 2) (h : I' 1002 = I 1002) (hn : tpR I T) : tpR I' T := ⟨by rw [h0]; exact hn.1, by rw [h]; exact hn.2⟩
theorem tdR_cg {T : List (Int32 × Int32)} (h0 : I' 1000 48 = I 1000 48) (h : I' 1050 = I 1050) (h' : I' 1051 = I 1051) (hn : tdR I T) : tdR I' T := ⟨by rw [h0]; exact hn.1, by rw [h, h']; exact hn.2⟩
theorem mkR_cg {m : Nat} {o : Option QV} (h : I' 1052 = I 1052) (hq : refQ I' J' (1 + m) = refQ I J (1 + m)) (hn : mkR I J m o) : mkR I' J' m o := by
  cases o with
  | none => show I' 1052 m = 0; rw [h]; exact hn
  | some q => exact ⟨by rw [h]; exact hn.1, hq.trans hn.2⟩
theorem RefR.kp {z : SV} (h : RefR z I J) (k : Kp I J I' J') : RefR z I' J' := by
  obtain ⟨h1, h2, h3, h4, h5, h6, h7, h8, h9, h10, h11⟩ := h
  obtain ⟨k1, k2, k3, k4, k5⟩ := k
  exact ⟨(k3 0 (by omega)).trans h1, k4 h2, fun m hm => mkR_cg (k2 1052 (by omega) (by omega)) (k3 (1 + m) (by omega)) (h3 m hm), RL_cg (k1 10 (by omega) (by omega)) (fun a h1 h2 => k2 a (by omega) (by omega)) h4, opR_cg (k1 10 (by omega) (by omega)) (k2 1019 (by omega) (by omega)) h5, by rw [k1 24 (by omega) (by omega)]; exact h6, by rw [k1 44 (by omega) (by omega)]; exact h7, by rw [k1 45 (by omega) (by omega)]; exact h8, tpR_cg (k1 2 (by omega) (by omega)) (k2 1002 (by omega) (by omega)) h9, tdR_cg (k1 48 (by omega) (by omega)) (k2 1050 (by omega) (by omega)) (k2 1051 (by omega) (by omega)) h10, fun i hi => by rw [k5 1010 (by omega) (by omega)]; exact h11 i hi⟩
/-- what the reference needs of z -/
def OkR (z : SV) : Prop := okD z.1.1 ∧ (∀ m q, z.2.1 m = some q → okD q.1) ∧ (∀ g f, kcl z.2.2.1.1 g 5 f ≤ nI 100) ∧ z.2.2.1.2.2.1 ≤ 20 ∧ opN z.2.2.1.1 ≤ 4 ∧ z.2.2.2.2.length ≤ 10 ∧ (∀ p, p ∈ z.2.2.2.2 → ∃ s, p.2 = nI s ∧ s ≤ 100) ∧ z.2.2.2.1.length ≤ 1000
theorem RefR.d {z : SV} (h : RefR z I J) : refD I J 0 = z.1.1 := congrArg Prod.fst h.1
theorem RefR.ok {z : SV} (h : RefR z I J) (k : OkR z) : okD (refD I J 0) := by rw [h.d]; exact k.1
/-- n steps of a disk by laws and an end -/
def itN (f : QV → QV) : Nat → QV → QV
  | 0, q => q
  | n + 1, q => itN f n (f q)
def stZ (z : SV) (g : Int32) : QV → QV := stepD (kcl z.2.2.1.1 g) (nI z.2.2.1.2.2.1) z.2.2.1.2.2.2
theorem itN_s (f : QV → QV) : ∀ (n : Nat) (q : QV), itN f (n + 1) q = f (itN f n q)
  | 0, _ => rfl
  | n + 1, q => itN_s f n (f q)
theorem itN_ok {z : SV} {g : Int32} (k : OkR z) : ∀ (n : Nat) (q : QV), okD q.1 → okD (itN (stZ z g) n q).1
  | 0, _, h => h
  | n + 1, q, h => itN_ok k n _ (step_ok (fun f => k.2.2.1 g f) h)
end REL
