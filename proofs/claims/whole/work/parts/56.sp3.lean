/-! nothing is lost: amounts as whole numbers -/
section SP3
theorem e32 : ((2 ^ 32 : Nat) : Int) = 4294967296 := rfl
theorem e64 : ((2 ^ 64 : Nat) : Int) = 18446744073709551616 := rfl
theorem i_add {a b : Int32} (h1 : -2147483648 ≤ a.toInt + b.toInt) (h : a.toInt + b.toInt < 2147483648) : (a + b).toInt = a.toInt + b.toInt := by
  rw [Int32.toInt_add]
  exact Int.bmod_eq_of_le_mul_two (by rw [e32]; omega) (by rw [e32]; omega)
theorem i_sub {a b : Int32} (h1 : -2147483648 ≤ a.toInt - b.toInt) (h : a.toInt - b.toInt < 2147483648) : (a - b).toInt = a.toInt - b.toInt := by
  rw [Int32.toInt_sub]
  exact Int.bmod_eq_of_le_mul_two (by rw [e32]; omega) (by rw [e32]; omega)
theorem l_add {a b : Int64} (h1 : -9223372036854775808 ≤ a.toInt + b.toInt) (h : a.toInt + b.toInt < 9223372036854775808) : (a + b).toInt = a.toInt + b.toInt := by
  rw [Int64.toInt_add]
  exact Int.bmod_eq_of_le_mul_two (by rw [e64]; omega) (by rw [e64]; omega)
theorem i_nn {a : Int32} : 0 ≤ a ↔ 0 ≤ a.toInt := by rw [Int32.le_iff_toInt_le]; exact Iff.rfl
theorem i_pos {a : Int32} : 0 < a ↔ 0 < a.toInt := by rw [Int32.lt_iff_toInt_lt]; exact Iff.rfl
theorem i_ex {a : Int32} (h : 0 ≤ a.toInt) : ∃ x : Nat, x < 2 ^ 31 ∧ a = nI x ∧ a.toInt = x := by
  obtain ⟨x, h1, h2⟩ := nI_ofge (i_nn.mpr h)
  exact ⟨x, h1, h2, by rw [h2, nI_toInt h1]⟩
/-- a part of an amount, in ints as in longs -/
theorem prt_i {a n : Int32} (ha : 0 ≤ a.toInt) (hm : a.toInt ≤ 7200000) (hn : 0 ≤ n.toInt) (h100 : n.toInt ≤ 100) : a * n / nI 100 = prt a n ∧ 0 ≤ (prt a n).toInt ∧ (prt a n).toInt ≤ a.toInt := by
  obtain ⟨x, x1, x2, x3⟩ := i_ex ha
  obtain ⟨y, y1, y2, y3⟩ := i_ex hn
  have hx : x ≤ 7200000 := by omega
  have hy : y ≤ 100 := by omega
  have hxy : x * y ≤ 7200000 * 100 := Nat.mul_le_mul hx hy
  have hd : x * y / 100 ≤ x := Nat.div_le_of_le_mul (by rw [Nat.mul_comm]; exact Nat.mul_le_mul_right _ hy)
  have e1 : a * n / nI 100 = nI (x * y / 100) := by rw [x2, y2, pk_mul, pk_div (by omega) (by omega) (by omega)]
  have e2 : prt a n = nI (x * y / 100) := by
    unfold prt
    rw [x2, y2, nI_l x1, nI_l y1]
    have e3 : lN x * lN y = lN (x * y) := (Int64.ofNat_mul x y).symm
    have e4 : lN (x * y) / 100 = lN (x * y / 100) := pk_lDiv (b := 100) (by omega) (by omega) (by omega)
    rw [e3, e4]
    exact Int64.toInt32_ofNat'
  have e5 : (prt a n).toInt = (x * y / 100 : Nat) := by rw [e2, nI_toInt (by omega)]
  exact ⟨e1.trans e2.symm, by omega, by omega⟩
def zS (f : Nat → Int) : Nat → Int
  | 0 => 0
  | n + 1 => zS f n + f n
theorem zS_0 : ∀ n, zS (fun _ => 0) n = 0
  | 0 => rfl
  | n + 1 => by rw [zS, zS_0 n]; rfl
theorem zS_cg {f g : Nat → Int} : ∀ n, (∀ i, i < n → f i = g i) → zS f n = zS g n
  | 0, _ => rfl
  | n + 1, h => by rw [zS, zS, zS_cg n (fun i hi => h i (by omega)), h n (by omega)]
theorem zS_pt {k : Nat} {p : Int} : ∀ n, zS (fun x => if x = k then p else 0) n = if k < n then p else 0
  | 0 => rfl
  | n + 1 => by
    rw [zS, zS_pt n]
    by_cases e : n = k
    · subst e; rw [if_neg (Nat.lt_irrefl _), if_pos rfl, if_pos (Nat.lt_succ_self _)]; omega
    · rw [if_neg e]
      by_cases h : k < n
      · rw [if_pos h, if_pos (by omega)]; omega
      · rw [if_neg h, if_neg (by omega)]; omega
theorem zS_lin {f g a b : Nat → Int} : ∀ n, (∀ i, i < n → g i = f i + a i - b i) → zS g n = zS f n + zS a n - zS b n
  | 0, _ => rfl
  | n + 1, h => by rw [zS, zS, zS, zS, zS_lin n (fun i hi => h i (by omega)), h n (by omega)]; omega
theorem zS_nn {f : Nat → Int} : ∀ n, (∀ i, i < n → 0 ≤ f i) → 0 ≤ zS f n
  | 0, _ => Int.le_refl _
  | n + 1, h => by have h1 := zS_nn n (fun i hi => h i (by omega)); have h2 := h n (by omega); rw [zS]; omega
theorem zS_le {f : Nat → Int} {i : Nat} : ∀ n, (∀ i, i < n → 0 ≤ f i) → i < n → f i ≤ zS f n
  | 0, _, h => absurd h (Nat.not_lt_zero _)
  | n + 1, h, hi => by
    have h1 := zS_nn n (fun i hi => h i (by omega))
    have h2 := h n (by omega)
    rw [zS]
    by_cases e : i = n
    · subst e; omega
    · have := zS_le n (fun i hi => h i (by omega)) (show i < n by omega); omega
/-- p more at k2, p less at k -/
theorem zS_mv {f g : Nat → Int} {k k2 : Nat} {p : Int} {n : Nat} (hk : k < n) (hk2 : k2 < n) (h : ∀ i, i < n → g i = f i + (if i = k2 then p else 0) - (if i = k then p else 0)) : zS g n = zS f n := by
  rw [zS_lin n h, zS_pt, zS_pt, if_pos hk, if_pos hk2]; omega
theorem zS_at {f g : Nat → Int} {k : Nat} {n : Nat} (hk : k < n) (h : ∀ i, i < n → i ≠ k → g i = f i) : zS g n = zS f n + (g k - f k) := by
  have := zS_lin (f := f) (g := g) (a := fun x => if x = k then g k - f k else 0) (b := fun _ => 0) n (fun i hi => by
    by_cases e : i = k
    · subst e; rw [if_pos rfl]; omega
    · rw [if_neg e, h i hi e]; omega)
  have z0 : zS (fun _ => 0) n = 0 := zS_0 n
  rw [this, zS_pt, if_pos hk, z0]; omega
def gT (D : DV) : Int := zS (fun k => (D 1 k).toInt) 12
def dT (D : DV) : Int := zS (fun k => (D 4 k).toInt) 60
def lpW (D : DV) (u : Nat) : Int := if D 5 u = 0 then (wD D u).toInt else 0
def lT (D : DV) : Int := zS (lpW D) (cmD D)
def tT (q : QV) : Int := gT q.1 + dT q.1 + lT q.1 + q.2.1.toInt + q.2.2.toInt
def bOk (q : QV) : Prop := (∀ k, k < 12 → 0 ≤ (q.1 1 k).toInt) ∧ (∀ k, k < 60 → 0 ≤ (q.1 4 k).toInt) ∧ (∀ u, u < cmD q.1 → q.1 5 u = 0 → 0 < (wD q.1 u).toInt) ∧ 0 ≤ q.2.1.toInt ∧ 0 ≤ q.2.2.toInt ∧ tT q ≤ 7200000
def zOk (D : DV) : Prop := (∀ k, rgD D ≤ k → k < 12 → D 1 k = 0) ∧ (∀ k, 5 * rgD D ≤ k → k < 60 → D 4 k = 0) ∧ zL D
/-- what a disk keeps -/
def iOk (q : QV) : Prop := rOk q.1 ∧ bOk q ∧ zOk q.1 ∧ 0 ≤ (q.1 0 3).toInt
theorem iOk.ok {q : QV} (h : iOk q) : okD q.1 := ⟨h.1, fun r hr => i_nn.mpr (h.2.1.1 r hr)⟩
theorem bOk.lpn {q : QV} (h : bOk q) : ∀ u, u < cmD q.1 → 0 ≤ lpW q.1 u := by
  intro u hu
  unfold lpW
  split
  · have := h.2.2.1 u hu (by assumption); omega
  · omega
theorem bOk.le {q : QV} (h : bOk q) : (∀ k, k < 12 → (q.1 1 k).toInt ≤ 7200000) ∧ (∀ k, k < 60 → (q.1 4 k).toInt ≤ 7200000) ∧ (∀ u, u < cmD q.1 → lpW q.1 u ≤ 7200000) ∧ q.2.1.toInt ≤ 7200000 ∧ q.2.2.toInt ≤ 7200000 ∧ 0 ≤ gT q.1 ∧ 0 ≤ dT q.1 ∧ 0 ≤ lT q.1 := by
  have a1 : 0 ≤ gT q.1 := zS_nn 12 (fun i hi => h.1 i hi)
  have a2 : 0 ≤ dT q.1 := zS_nn 60 (fun i hi => h.2.1 i hi)
  have a3 : 0 ≤ lT q.1 := zS_nn _ h.lpn
  obtain ⟨h1, h2, h3, h4, h5, h6⟩ := id h
  unfold tT at h6
  refine ⟨fun k hk => ?_, fun k hk => ?_, fun u hu => ?_, by omega, by omega, a1, a2, a3⟩
  · have := zS_le (f := fun k => (q.1 1 k).toInt) 12 (fun i hi => h1 i hi) hk
    have e : zS (fun k => (q.1 1 k).toInt) 12 = gT q.1 := rfl
    rw [e] at this
    omega
  · have := zS_le (f := fun k => (q.1 4 k).toInt) 60 (fun i hi => h2 i hi) hk
    have e : zS (fun k => (q.1 4 k).toInt) 60 = dT q.1 := rfl
    rw [e] at this
    omega
  · have := zS_le (f := lpW q.1) (cmD q.1) h.lpn hu
    have e : zS (lpW q.1) (cmD q.1) = lT q.1 := rfl
    rw [e] at this
    omega
theorem lT_cg {D D' : DV} (h0 : D' 0 6 = D 0 6) (h5 : D' 5 = D 5) (h7 : D' 7 = D 7) (h11 : D' 11 = D 11) : lT D' = lT D := by
  unfold lT
  rw [cmD_cg h0]
  exact zS_cg _ (fun u _ => by unfold lpW wD; rw [h5, h7, h11])
theorem wD_cg {D D' : DV} (h7 : D' 7 = D 7) (h11 : D' 11 = D 11) (u : Nat) : wD D' u = wD D u := by unfold wD; rw [h7, h11]
/-- dust from a place to another one -/
theorem mv_at {D : DV} {k k2 : Nat} {p : Int32} (h : ∀ x, x < 60 → 0 ≤ (D 4 x).toInt ∧ (D 4 x).toInt ≤ 7200000) (hk : k < 60) (hk2 : k2 < 60) (h0 : 0 ≤ p.toInt) (hp : p.toInt ≤ (D 4 k).toInt) : ∀ x, x < 60 → (mvD D k k2 p 4 x).toInt = (D 4 x).toInt + (if x = k2 then p.toInt else 0) - (if x = k then p.toInt else 0) := by
  intro x hx
  have hs : (D 4 k - p).toInt = (D 4 k).toInt - p.toInt := i_sub (by have := h k hk; omega) (by have := h k hk; omega)
  have key : ∀ y, y < 60 → (va_up (D 4) k (D 4 k - p) y).toInt = (D 4 y).toInt - (if y = k then p.toInt else 0) := by
    intro y hy
    by_cases e : y = k
    · subst e; rw [va_up_self, if_pos rfl, hs]
    · rw [va_up_ne _ _ e, if_neg e]; omega
  show (va_up (va_up (D 4) k (D 4 k - p)) k2 (va_up (D 4) k (D 4 k - p) k2 + p) x).toInt = _
  by_cases e : x = k2
  · subst e
    rw [va_up_self, if_pos rfl]
    have h1 := key x hx
    have h2 := h x hx
    have h3 := h k hk
    rw [i_add (by rw [h1]; split <;> omega) (by rw [h1]; split <;> omega), h1]
    omega
  · rw [va_up_ne _ _ e, if_neg e, key x hx]; omega
theorem bOk.mv {q : QV} {k k2 : Nat} {p : Int32} (h : bOk q) (hk : k < 60) (hk2 : k2 < 60) (h0 : 0 ≤ p.toInt) (hp : p.toInt ≤ (q.1 4 k).toInt) : bOk (mvD q.1 k k2 p, q.2) := by
  have hm := mv_at (D := q.1) (k := k) (k2 := k2) (p := p) (fun x hx => ⟨h.2.1 x hx, h.le.2.1 x hx⟩) hk hk2 h0 hp
  have ed : dT (mvD q.1 k k2 p) = dT q.1 := zS_mv hk hk2 hm
  obtain ⟨h1, h2, h3, h4, h5, h6⟩ := h
  refine ⟨h1, fun x hx => ?_, h3, h4, h5, ?_⟩
  · have e := hm x hx
    have := h2 x hx
    show 0 ≤ (mvD q.1 k k2 p 4 x).toInt
    rw [e]
    by_cases e1 : x = k
    · subst e1; rw [if_pos rfl]; split <;> omega
    · rw [if_neg e1]; split <;> omega
  · have el : lT (mvD q.1 k k2 p) = lT q.1 := lT_cg rfl rfl rfl rfl
    have eg : gT (mvD q.1 k k2 p) = gT q.1 := rfl
    show gT (mvD q.1 k k2 p) + dT (mvD q.1 k k2 p) + lT (mvD q.1 k k2 p) + q.2.1.toInt + q.2.2.toInt ≤ _
    rw [ed, el, eg]
    exact h6
theorem zOk.mv {D : DV} {k k2 : Nat} {p : Int32} (h : zOk D) (hk : k < 5 * rgD D) (hk2 : k2 < 5 * rgD D) : zOk (mvD D k k2 p) := by
  refine ⟨h.1, fun x h1 h2 => ?_, h.2.2⟩
  have h1 : 5 * rgD D ≤ x := h1
  show va_up (va_up (D 4) k (D 4 k - p)) k2 (va_up (D 4) k (D 4 k - p) k2 + p) x = 0
  rw [va_up_ne _ _ (by omega), va_up_ne _ _ (by omega)]
  exact h.2.1 x h1 h2
theorem iOk.mv {q : QV} {k k2 : Nat} {p : Int32} (h : iOk q) (hk : k < 5 * rgD q.1) (hk2 : k2 < 5 * rgD q.1) (h0 : 0 ≤ p.toInt) (hp : p.toInt ≤ (q.1 4 k).toInt) : iOk (mvD q.1 k k2 p, q.2) := by
  have h12 := h.1.2.2.1
  exact ⟨kpD.mv.ok h.1, h.2.1.mv (by omega) (by omega) h0 hp, h.2.2.1.mv hk hk2, h.2.2.2⟩
theorem iOk.sd {q : QV} {v : Int32} (h : iOk q) (hv : 0 ≤ v.toInt) : iOk (up2 q.1 0 3 v, q.2) := by
  refine ⟨kpD.sd.ok h.1, ?_, h.2.2.1, hv⟩
  obtain ⟨h1, h2, h3, h4, h5, h6⟩ := h.2.1
  exact ⟨h1, h2, h3, h4, h5, h6⟩
/-- what laws answer -/
def lwOk (lw : LW) : Prop := ∀ k f, k < 9 → lw k f = -1 ∨ (0 ≤ (lw k f).toInt ∧ (k ≠ 3 → (lw k f).toInt ≤ 100) ∧ (k = 3 → 1 ≤ (lw k f).toInt))
theorem lwOk.nn {lw : LW} (h : lwOk lw) {k : Nat} {f : Nat → Int32} (hk : k < 9) (hn : ¬ lw k f < 0) : 0 ≤ (lw k f).toInt ∧ (k ≠ 3 → (lw k f).toInt ≤ 100) ∧ (k = 3 → 1 ≤ (lw k f).toInt) := by
  rcases h k f hk with e | e
  · exact absurd (by rw [e]; decide) hn
  · exact e
theorem lwOk.n1 {lw : LW} (h : lwOk lw) {k : Nat} {f : Nat → Int32} (hk : k < 9) : lw k f < 0 ↔ lw k f = -1 := by
  rcases h k f hk with e | e
  · exact ⟨fun _ => e, fun _ => by rw [e]; decide⟩
  · refine ⟨fun q => absurd q (Int32.not_lt.mpr (i_nn.mpr e.1)), fun q => ?_⟩
    rw [q] at e
    exact absurd e.1 (by decide)
theorem clN_i (n : Int32) : 0 ≤ (clN n).toInt ∧ (clN n).toInt ≤ 100 := by
  unfold clN
  split
  · split
    · rename_i h1 h2
      exact ⟨i_nn.mp h1, Int32.le_iff_toInt_le.mp h2⟩
    · exact ⟨by decide, by decide⟩
  · exact ⟨by decide, by decide⟩
theorem stickAt_i {lw : LW} {lk : Int32} {q : QV} {r s : Nat} (hl : lwOk lw) (h : iOk q) (hr : r < rgD q.1) (hs : s < 4) : iOk (stickAt lw lk q.1 r s, q.2) := by
  have h12 := h.1.2.2.1
  have hc := h.2.1.2.1 (5 * r + s) (by omega)
  have hm := h.2.1.le.2.1 (5 * r + s) (by omega)
  unfold stickAt
  split
  · exact h
  · rename_i h0
    have hn := hl.nn (by decide) h0
    split
    · split
      · exact h
      · obtain ⟨-, p1, p2⟩ := prt_i hc hm hn.1 (hn.2.1 (by decide))
        exact h.mv (by omega) (by omega) p1 p2
    · have hsd : 0 ≤ (sdN (q.1 0 3)).toInt := i_nn.mp (sd_l (i_nn.mpr h.2.2.2)).2.1
      have h2 := h.sd hsd
      split
      · exact h2
      · obtain ⟨c1, c2⟩ := clN_i (lkN (sdN (q.1 0 3)) (lw 0 (fDu q.1 r s)) lk)
        obtain ⟨-, p1, p2⟩ := prt_i hc hm c1 c2
        exact h2.mv (k := 5 * r + s) (k2 := 5 * r + s + 1) (show 5 * r + s < 5 * rgD q.1 by omega) (show 5 * r + s + 1 < 5 * rgD q.1 by omega) p1 p2
theorem breakAt_i {lw : LW} {q : QV} {r s : Nat} (hl : lwOk lw) (h : iOk q) (hr : r < rgD q.1) (hs : s < 5) : iOk (breakAt lw q.1 r s, q.2) := by
  have h12 := h.1.2.2.1
  have hc := h.2.1.2.1 (5 * r + s) (by omega)
  have hm := h.2.1.le.2.1 (5 * r + s) (by omega)
  unfold breakAt
  split
  · exact h
  · rename_i h0
    have hn := hl.nn (k := 1) (f := fDu q.1 r s) (by decide) (fun q => h0 (Int32.le_of_lt q))
    obtain ⟨-, p1, p2⟩ := prt_i hc hm hn.1 (hn.2.1 (by decide))
    exact h.mv (by omega) (by omega) p1 p2
theorem rg_kp {D D' : DV} (h : kpD D D') : rgD D' = rgD D := by unfold rgD; rw [h.1]
theorem stickR_i {lw : LW} {lk : Int32} {r : Nat} (hl : lwOk lw) : ∀ (m : Nat) (q : QV), iOk q → r < rgD q.1 → m ≤ 4 → iOk (stickR lw lk r m q.1, q.2)
  | 0, _, h, _, _ => h
  | m + 1, q, h, hr, hm => stickR_i hl m (stickAt lw lk q.1 r m, q.2) (stickAt_i hl h hr (by omega)) (by show r < rgD _; rw [rg_kp stickAt_kp]; exact hr) (by omega)
theorem stickN_i {lw : LW} {lk : Int32} (hl : lwOk lw) : ∀ (c r : Nat) (q : QV), iOk q → r + c ≤ rgD q.1 → iOk (stickN lw lk c r q.1, q.2)
  | 0, _, _, h, _ => h
  | c + 1, r, q, h, hr => stickN_i hl c (r + 1) (stickR lw lk r 4 q.1, q.2) (stickR_i hl 4 q h (by omega) (Nat.le_refl _)) (by show _ ≤ rgD _; rw [rg_kp (stickR_kp 4 _)]; omega)
theorem breakR_i {lw : LW} {r : Nat} (hl : lwOk lw) : ∀ (c s : Nat) (q : QV), iOk q → r < rgD q.1 → s + c ≤ 5 → iOk (breakR lw r c s q.1, q.2)
  | 0, _, _, h, _, _ => h
  | c + 1, s, q, h, hr, hs => breakR_i hl c (s + 1) (breakAt lw q.1 r s, q.2) (breakAt_i hl h hr (by omega)) (by show r < rgD _; rw [rg_kp breakAt_kp]; exact hr) (by omega)
theorem breakN_i {lw : LW} (hl : lwOk lw) : ∀ (c r : Nat) (q : QV), iOk q → r + c ≤ rgD q.1 → iOk (breakN lw c r q.1, q.2)
  | 0, _, _, h, _ => h
  | c + 1, r, q, h, hr => breakN_i hl c (r + 1) (breakR lw r 4 1 q.1, q.2) (breakR_i hl 4 1 q h (by omega) (by omega)) (by show _ ≤ rgD _; rw [rg_kp (breakR_kp 4 1 _)]; omega)
end SP3
