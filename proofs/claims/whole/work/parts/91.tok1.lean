section C31
variable {t : Nat → Int32} {n : Nat}
theorem tks_fuel : ∀ (c c' k : Nat), n - k ≤ c → n - k ≤ c' → tks t n c k = tks t n c' k := by
  intro c
  induction c with
  | zero =>
    intro c' k h1 h2
    cases c' with
    | zero => rfl
    | succ c' => rw [tks, tks, if_pos (by omega)]
  | succ c ih =>
    intro c' k h1 h2
    cases c' with
    | zero => rw [tks, tks, if_pos (by omega)]
    | succ c' =>
      rw [tks, tks]
      by_cases h : n ≤ k
      · rw [if_pos h, if_pos h]
      · rw [if_neg h, if_neg h]
        by_cases hb : isBl (t k)
        · rw [if_pos hb, if_pos hb]; exact ih c' (k + 1) (by omega) (by omega)
        · have := tok1_nx (t := t) (n := n) (k := k) (by omega)
          rw [if_neg hb, if_neg hb, ih c' (tok1 t n k).2.2.2 (by omega) (by omega)]
/-- the token that comes from b on -/
def nxT (t : Nat → Int32) (n b : Nat) : Tok := tk (tks t n (n - b) b) 0
theorem nxT_end {b : Nat} (h : n ≤ b) : nxT t n b = (0, n, 0, n) := by
  unfold nxT
  rw [show n - b = 0 by omega]
  rfl
theorem nxT_bl {b : Nat} (h : b < n) (hb : isBl (t b)) : nxT t n b = nxT t n (b + 1) := by
  unfold nxT
  rw [show n - b = n - (b + 1) + 1 by omega, tks, if_neg (by omega), if_pos hb]
theorem nxT_tok {b : Nat} (h : b < n) (hb : ¬ isBl (t b)) : nxT t n b = tok1 t n b := by
  unfold nxT
  rw [show n - b = n - (b + 1) + 1 by omega, tks, if_neg (by omega), if_neg hb]
  rfl
theorem tks_0 {c k : Nat} (hc : n - k ≤ c) : tk (tks t n c k) 0 = nxT t n k := by
  unfold nxT
  rw [tks_fuel c (n - k) k hc (Nat.le_refl _)]
theorem tks_at : ∀ (c k a : Nat), k ≤ n → n - k ≤ c → a + 1 < (tks t n c k).length → tk (tks t n c k) (a + 1) = nxT t n (tk (tks t n c k) a).2.2.2 ∧ (tk (tks t n c k) a).2.2.2 ≤ n := by
  intro c
  induction c with
  | zero => intro k a _ _ h; simp [tks] at h
  | succ c ih =>
    intro k a hk hc h
    rw [tks] at h ⊢
    by_cases h0 : n ≤ k
    · rw [if_pos h0] at h; simp at h
    · rw [if_neg h0] at h ⊢
      by_cases hb : isBl (t k)
      · rw [if_pos hb] at h ⊢
        exact ih (k + 1) a (by omega) (by omega) h
      · rw [if_neg hb] at h ⊢
        have hx := tok1_nx (t := t) (n := n) (k := k) (by omega)
        cases a with
        | zero =>
          refine ⟨?_, hx.2.1⟩
          show tk (tks t n c (tok1 t n k).2.2.2) 0 = nxT t n (tok1 t n k).2.2.2
          exact tks_0 (by omega)
        | succ a =>
          simp only [List.length_cons] at h
          exact ih (tok1 t n k).2.2.2 a hx.2.1 (by omega) (by omega)
theorem nxT_c {b : Nat} (hb : b ≤ n) : nxT t n b = (0, n, 0, n) ∨ ∃ k, k < n ∧ ¬ isBl (t k) ∧ nxT t n b = tok1 t n k := by
  have : ∀ c b, n - b = c → b ≤ n → (nxT t n b = (0, n, 0, n) ∨ ∃ k, k < n ∧ ¬ isBl (t k) ∧ nxT t n b = tok1 t n k) := by
    intro c
    induction c with
    | zero => intro b h _; exact Or.inl (nxT_end (by omega))
    | succ c ih =>
      intro b h hb
      by_cases q : isBl (t b)
      · rw [nxT_bl (by omega) q]; exact ih (b + 1) (by omega) (by omega)
      · exact Or.inr ⟨b, by omega, q, nxT_tok (by omega) q⟩
  exact this _ b rfl hb
theorem toks_at {T : List Int32} {a : Nat} (h : a < (toks T).length) : ∃ b, b ≤ T.length ∧ tk (toks T) a = nxT (fun i => T.getD i 0) T.length b := by
  cases a with
  | zero => exact ⟨0, Nat.zero_le _, tks_0 (by omega)⟩
  | succ a =>
    obtain ⟨h1, h2⟩ := tks_at T.length 0 a (Nat.zero_le _) (by omega) h
    exact ⟨_, h2, h1⟩
theorem toks_c {T : List Int32} {a : Nat} (h : a < (toks T).length) : tk (toks T) a = (0, T.length, 0, T.length) ∨ ∃ k, k < T.length ∧ ¬ isBl (T.getD k 0) ∧ tk (toks T) a = tok1 (fun i => T.getD i 0) T.length k := by
  obtain ⟨b, h1, h2⟩ := toks_at h
  rw [h2]
  exact nxT_c h1
/-! numbers -/
/-- the class's number: digit by digit -/
def fI (t : Nat → Int32) : Nat → Nat → Int32 → Int32
  | 0, _, v => v
  | c + 1, k, v => if isDg (t k) then fI t c (k + 1) (v * nI 10 + t k - nI 48) else v
theorem dg_n {x : Int32} (h : isDg x) : ∃ m, m < 10 ∧ x = nI (48 + m) := by
  have h0 : ¬ x < 0 := fun q => absurd (Int32.le_trans h.1 (Int32.le_of_lt q)) (by decide)
  obtain ⟨k, hk, rfl⟩ := nI_of h0
  have h1 : 48 ≤ k := by
    rcases Nat.lt_or_ge k 48 with q | q
    · exact absurd h.1 (Int32.not_le.mpr (nI_lt q (by omega)))
    · exact q
  have h2 : k ≤ 57 := by
    rcases Nat.lt_or_ge 57 k with q | q
    · exact absurd h.2 (Int32.not_le.mpr (nI_lt q hk))
    · exact q
  exact ⟨k - 48, by omega, by congr 1; omega⟩
theorem lt_n {x : Int32} (h : isLt x) : ∃ m, m < 26 ∧ x = nI (97 + m) := by
  have h0 : ¬ x < 0 := fun q => absurd (Int32.le_trans h.1 (Int32.le_of_lt q)) (by decide)
  obtain ⟨k, hk, rfl⟩ := nI_of h0
  have h1 : 97 ≤ k := by
    rcases Nat.lt_or_ge k 97 with q | q
    · exact absurd h.1 (Int32.not_le.mpr (nI_lt q (by omega)))
    · exact q
  have h2 : k ≤ 122 := by
    rcases Nat.lt_or_ge 122 k with q | q
    · exact absurd h.2 (Int32.not_le.mpr (nI_lt q hk))
    · exact q
  exact ⟨k - 97, by omega, by congr 1; omega⟩
theorem nI_64 {n : Nat} (h : n < 2 ^ 31) : (nI n).toInt64 = Int64.ofNat n := by
  apply Int64.toInt_inj.mp
  rw [Int32.toInt_toInt64, Int64.toInt_ofNat_of_lt (by omega)]
  exact Int32.toInt_ofNat_of_lt (by omega)
theorem l_mul (a b : Nat) : Int64.ofNat a * Int64.ofNat b = Int64.ofNat (a * b) := (Int64.ofNat_mul a b).symm
theorem l_ad64 (a b : Nat) : Int64.ofNat a + Int64.ofNat b = Int64.ofNat (a + b) := (Int64.ofNat_add a b).symm
theorem l_sub {a b : Nat} (h : b ≤ a) : Int64.ofNat a - Int64.ofNat b = Int64.ofNat (a - b) := (Int64.ofNat_sub a b h).symm
theorem fI_d {fr : Nat} : ∀ (c k v : Nat), fr ≤ k → dR t c k - fr ≤ 5 → v < 10 ^ (k - fr) → ∃ w, w < 10 ^ (dR t c k - fr) ∧ fI t c k (nI v) = nI w ∧ dW t fr c k (Int64.ofNat v) = Int64.ofNat w := by
  intro c
  induction c with
  | zero => intro k v _ _ h; exact ⟨v, h, rfl, rfl⟩
  | succ c ih =>
    intro k v hk h5 hv
    unfold dR at h5 ⊢
    unfold fI dW
    by_cases h : isDg (t k)
    · rw [if_pos h] at h5 ⊢
      rw [if_pos h, if_pos h]
      have hge := (dR_ge (t := t) c (k + 1)).1
      obtain ⟨m, hm, e⟩ := dg_n h
      have e5 : ¬ 5 ≤ k - fr := by omega
      rw [if_neg e5, e]
      have ep : 10 ^ (k + 1 - fr) = 10 ^ (k - fr) * 10 := by rw [show k + 1 - fr = (k - fr) + 1 by omega, Nat.pow_succ]
      have e1 : nI v * nI 10 + nI (48 + m) - nI 48 = nI (10 * v + m) := by
        rw [pk_mul, nI_add, pk_sub (by omega)]; congr 1; omega
      have e2 : 10 * Int64.ofNat v + (nI (48 + m)).toInt64 - 48 = Int64.ofNat (10 * v + m) := by
        rw [nI_64 (by omega)]
        show Int64.ofNat 10 * Int64.ofNat v + Int64.ofNat (48 + m) - Int64.ofNat 48 = _
        rw [l_mul, l_ad64, l_sub (by omega)]; congr 1; omega
      rw [e1, e2]
      exact ih (k + 1) (10 * v + m) (by omega) h5 (by rw [ep]; omega)
    · rw [if_neg h] at h5 ⊢
      rw [if_neg h, if_neg h]
      exact ⟨v, hv, rfl, rfl⟩
theorem num_v {k : Nat} (h5 : dR t (n - k) k - k ≤ 5) : ∃ w, w ≤ 99999 ∧ fI t (n - k) k (nI 0) = nI w ∧ dW t k (n - k) k 0 = Int64.ofNat w := by
  obtain ⟨w, h1, h2, h3⟩ := fI_d (t := t) (fr := k) (n - k) k 0 (Nat.le_refl _) h5 (Nat.pow_pos (by decide))
  have : 10 ^ (dR t (n - k) k - k) ≤ 10 ^ 5 := Nat.pow_le_pow_right (by decide) h5
  exact ⟨w, by omega, h2, h3⟩
theorem num_e {k : Nat} (h : (if dR t (n - k) k - k ≤ 5 then 2 else 4 : Nat) = 2) : fI t (n - k) k (nI 0) = (dW t k (n - k) k 0).toInt32 := by
  have h5 : dR t (n - k) k - k ≤ 5 := by
    by_cases g : dR t (n - k) k - k ≤ 5
    · exact g
    · rw [if_neg g] at h; cases h
  obtain ⟨w, -, h2, h3⟩ := num_v (t := t) (n := n) h5
  rw [h2, h3]
  exact Int64.toInt32_ofNat'.symm
end C31
section C32
variable {t : Nat → Int32} {n : Nat}
/-! words: letters against the hash -/
def vlL (c : Int32) : Nat := c.toNatClampNeg - 96
def hsL : List Int32 → Nat → Nat
  | [], v => v
  | c :: l, v => hsL l (37 * v + vlL c)
theorem hsL_app (l : List Int32) (c : Int32) : ∀ v, hsL (l ++ [c]) v = 37 * hsL l v + vlL c := by
  induction l with
  | nil => intro v; rfl
  | cons x l ih => intro v; exact ih _
theorem vlL_lt {c : Int32} (h : isLt c) : 1 ≤ vlL c ∧ vlL c ≤ 26 ∧ c = nI (96 + vlL c) := by
  obtain ⟨m, hm, rfl⟩ := lt_n h
  unfold vlL
  rw [nI_clamp (by omega)]
  exact ⟨by omega, by omega, by congr 1; omega⟩
theorem hsL_inj : ∀ (k : Nat) (l l' : List Int32), l.length = k → (∀ c ∈ l, isLt c) → (∀ c ∈ l', isLt c) → hsL l 0 = hsL l' 0 → l = l' := by
  intro k
  induction k with
  | zero =>
    intro l l' hk h h' e
    have hl : l = [] := List.length_eq_zero_iff.mp hk
    subst hl
    rcases List.eq_nil_or_concat l' with rfl | ⟨r, c, rfl⟩
    · rfl
    · rw [List.concat_eq_append, hsL_app] at e
      have := vlL_lt (h' c (by simp))
      simp only [hsL] at e
      omega
  | succ k ih =>
    intro l l' hk h h' e
    rcases List.eq_nil_or_concat l with rfl | ⟨r, c, rfl⟩
    · simp at hk
    · rcases List.eq_nil_or_concat l' with rfl | ⟨r', c', rfl⟩
      · rw [List.concat_eq_append, hsL_app] at e
        have := vlL_lt (h c (by simp))
        simp only [hsL] at e
        omega
      · simp only [List.concat_eq_append] at *
        rw [hsL_app, hsL_app] at e
        have h1 := vlL_lt (h c (by simp))
        have h2 := vlL_lt (h' c' (by simp))
        have e1 : vlL c = vlL c' := by omega
        have e2 : hsL r 0 = hsL r' 0 := by omega
        have e3 : c = c' := by rw [h1.2.2, h2.2.2, e1]
        rw [ih r r' (by simpa using hk) (fun x hx => h x (by simp [hx])) (fun x hx => h' x (by simp [hx])) e2, e3]
theorem hsL_lt : ∀ (l : List Int32) (v p : Nat), (∀ c ∈ l, isLt c) → v < 37 ^ p → hsL l v < 37 ^ (p + l.length) := by
  intro l
  induction l with
  | nil => intro v p _ h; exact h
  | cons c l ih =>
    intro v p hl h
    have h1 := vlL_lt (hl c List.mem_cons_self)
    have := ih (37 * v + vlL c) (p + 1) (fun x hx => hl x (List.mem_cons_of_mem _ hx)) (by rw [Nat.pow_succ]; omega)
    rw [List.length_cons, show p + (l.length + 1) = p + 1 + l.length by omega]
    exact this
/-- the signs from k on -/
def wlT (t : Nat → Int32) : Nat → Nat → List Int32
  | 0, _ => []
  | c + 1, k => t k :: wlT t c (k + 1)
theorem wlT_len : ∀ (c k : Nat), (wlT t c k).length = c := by
  intro c
  induction c with
  | zero => intro k; rfl
  | succ c ih => intro k; rw [wlT, List.length_cons, ih]
theorem wlT_lt : ∀ (c k : Nat), ∀ x ∈ wlT t (lR t c k - k) k, isLt x := by
  intro c
  induction c with
  | zero => intro k x hx; rw [lR, Nat.sub_self] at hx; cases hx
  | succ c ih =>
    intro k x hx
    unfold lR at hx
    by_cases h : isLt (t k)
    · rw [if_pos h] at hx
      have hg := (lR_ge (t := t) c (k + 1)).1
      rw [show lR t c (k + 1) - k = (lR t c (k + 1) - (k + 1)) + 1 by omega, wlT] at hx
      rcases List.mem_cons.mp hx with rfl | hx
      · exact h
      · exact ih (k + 1) x hx
    · rw [if_neg h, Nat.sub_self] at hx; cases hx
theorem hW_v {fr : Nat} : ∀ (c k v : Nat), fr ≤ k → lR t c k - fr ≤ 8 → hW t fr c k (Int64.ofNat v) = Int64.ofNat (hsL (wlT t (lR t c k - k) k) v) := by
  intro c
  induction c with
  | zero => intro k v _ _; rw [lR, Nat.sub_self]; rfl
  | succ c ih =>
    intro k v hk h8
    unfold lR at h8 ⊢
    unfold hW
    by_cases h : isLt (t k)
    · rw [if_pos h] at h8 ⊢
      rw [if_pos h]
      have hg := (lR_ge (t := t) c (k + 1)).1
      rw [if_neg (by omega)]
      obtain ⟨q1, q2, q3⟩ := vlL_lt h
      have e : 37 * Int64.ofNat v + (t k - nI 96).toInt64 = Int64.ofNat (37 * v + vlL (t k)) := by
        have e1 : t k - nI 96 = nI (vlL (t k)) := by
          conv => lhs; rw [q3]
          rw [pk_sub (by omega), Nat.add_sub_cancel_left]
        rw [e1, nI_64 (by omega)]
        show Int64.ofNat 37 * _ + _ = _
        rw [l_mul, l_ad64]
      rw [e, ih (k + 1) _ (by omega) h8, show lR t c (k + 1) - k = (lR t c (k + 1) - (k + 1)) + 1 by omega]
      rfl
    · rw [if_neg h, if_neg h, Nat.sub_self]
      rfl
/-- the words by their letters -/
def wdL : List (List Int32) := [[115, 116, 105, 99, 107], [98, 114, 101, 97, 107], [100, 114, 105, 102, 116], [103, 97, 116, 104, 101, 114], [102, 101, 101, 100], [101, 97, 116], [119, 97, 110, 100, 101, 114], [103, 97, 112], [115, 101, 101, 110], [116, 111], [119, 104, 101, 110], [97, 110, 100], [111, 114], [110, 111, 116], [114, 105, 110, 103], [115, 105, 122, 101], [103, 97, 115], [119, 97, 114, 109], [100, 117, 115, 116], [97, 108, 108], [119, 101, 105, 103, 104, 116], [115, 116, 101, 112], [108, 117, 109, 112, 115]]
set_option maxRecDepth 100000 in
theorem wdL_h : ∀ w, w < 23 → wdV.getD w 0 = Int64.ofNat (hsL (wdL.getD w []) 0) ∧ (wdL.getD w []).length ≤ 8 ∧ ∀ c ∈ wdL.getD w [], isLt c := by decide +kernel
theorem o64 {a b : Nat} (ha : a < 37 ^ 8) (hb : b < 37 ^ 8) (h : Int64.ofNat a = Int64.ofNat b) : a = b := by
  have := congrArg Int64.toInt h
  rw [Int64.toInt_ofNat_of_lt (Nat.lt_of_lt_of_le ha (by decide)), Int64.toInt_ofNat_of_lt (Nat.lt_of_lt_of_le hb (by decide))] at this
  omega
theorem word_eq {k w : Nat} (hw : w < 23) (h8 : lR t (n - k) k - k ≤ 8) : hW t k (n - k) k 0 = wdV.getD w 0 ↔ wlT t (lR t (n - k) k - k) k = wdL.getD w [] := by
  obtain ⟨w1, w2, w3⟩ := wdL_h w hw
  have e := hW_v (t := t) (fr := k) (n - k) k 0 (Nat.le_refl _) h8
  have hl := wlT_lt (t := t) (n - k) k
  have b1 : hsL (wlT t (lR t (n - k) k - k) k) 0 < 37 ^ 8 := Nat.lt_of_lt_of_le (hsL_lt _ 0 0 hl (by decide)) (by rw [wlT_len]; exact Nat.pow_le_pow_right (by decide) (by omega))
  have b2 : hsL (wdL.getD w []) 0 < 37 ^ 8 := Nat.lt_of_lt_of_le (hsL_lt _ 0 0 w3 (by decide)) (Nat.pow_le_pow_right (by decide) (by omega))
  have e' : hW t k (n - k) k 0 = Int64.ofNat (hsL (wlT t (lR t (n - k) k - k) k) 0) := e
  rw [e', w1]
  constructor
  · intro h
    exact hsL_inj _ _ _ rfl hl w3 (o64 b1 b2 h)
  · intro h; rw [h]
/-! a piece of a list -/
abbrev pcM (T : List Int32) (i p len f u : Nat) : Prop := u - f = len ∧ ∀ j, j < len → (sBy.getD i []).getD (f + j) 0 = T.getD (p + j) 0
def spl (i : Nat) : Nat → Nat → Nat → List (Nat × Nat)
  | 0, _, _ => []
  | c + 1, f, u => if u = sLe.getD i 0 ∨ (sBy.getD i []).getD u 0 = nI 32 then (f, u) :: spl i c (u + 1) (u + 1) else spl i c f (u + 1)
def srch (m : Nat → Nat → Prop) [∀ a b, Decidable (m a b)] : List (Nat × Nat) → Nat → Int32
  | [], _ => -1
  | q :: l, w => if m q.1 q.2 then nI w else srch m l (w + 1)
theorem wlT_at : ∀ (c k j : Nat), j < c → (wlT t c k).getD j 0 = t (k + j) := by
  intro c
  induction c with
  | zero => intro k j h; omega
  | succ c ih =>
    intro k j h
    cases j with
    | zero => rfl
    | succ j => rw [wlT, List.getD_cons_succ, ih (k + 1) j (by omega)]; congr 1; omega
theorem wlT_eq {c k : Nat} {l : List Int32} : wlT t c k = l ↔ l.length = c ∧ ∀ j, j < c → l.getD j 0 = t (k + j) := by
  constructor
  · rintro rfl; exact ⟨wlT_len _ _, fun j hj => wlT_at c k j hj⟩
  · rintro ⟨h1, h2⟩
    apply List.ext_getElem?
    intro j
    by_cases hj : j < c
    · have e1 := wlT_at (t := t) c k j hj
      have e2 := h2 j hj
      rw [List.getD_eq_getElem?_getD] at e1 e2
      rw [List.getElem?_eq_getElem (by rw [wlT_len]; exact hj)] at e1 ⊢
      rw [List.getElem?_eq_getElem (by rw [h1]; exact hj)] at e2 ⊢
      simp only [Option.getD_some] at e1 e2
      rw [e1, e2]
    · rw [List.getElem?_eq_none (by rw [wlT_len]; omega), List.getElem?_eq_none (by omega)]
/-- lists of words: the list, its first word's number, how many -/
def wLs : List (Nat × Nat × Nat) := [(1, 0, 9), (2, 9, 1), (3, 10, 1), (4, 14, 9), (5, 13, 1), (11, 11, 2)]
set_option maxRecDepth 100000 in
theorem spl_ok : ∀ q ∈ wLs, q.1 < 13 ∧ q.2.1 + q.2.2 ≤ 23 ∧ (spl q.1 (sLe.getD q.1 0 + 1) 0 0).length = q.2.2 ∧ ∀ j, j < q.2.2 → (((spl q.1 (sLe.getD q.1 0 + 1) 0 0).getD j (0, 0)).2 - ((spl q.1 (sLe.getD q.1 0 + 1) 0 0).getD j (0, 0)).1 = (wdL.getD (q.2.1 + j) []).length ∧ ∀ x, x < 8 → x < (wdL.getD (q.2.1 + j) []).length → (sBy.getD q.1 []).getD (((spl q.1 (sLe.getD q.1 0 + 1) 0 0).getD j (0, 0)).1 + x) 0 = (wdL.getD (q.2.1 + j) []).getD x 0) := by decide +kernel
theorem fwN_at {K : List Tok} {a w j : Nat} (h : isWP K a (w + j)) : ∀ c, j < c → w + c ≤ 23 → fwN K a w c = nI j := by
  have inj : ∀ x, x < 23 → ∀ y, y < 23 → wdV.getD x 0 = wdV.getD y 0 → x = y := by decide +kernel
  intro c
  induction c with
  | zero => intro h; omega
  | succ c ih =>
    intro hj hc
    rw [fwN]
    by_cases e : j = c
    · subst e; rw [if_pos h]
    · rw [if_neg (fun q => e (by have := inj _ (by omega) _ (by omega) (h.2.symm.trans q.2); omega)), ih (by omega) (by omega)]
theorem fwN_no {K : List Tok} {a w : Nat} : ∀ c, (∀ j, j < c → ¬ isWP K a (w + j)) → fwN K a w c = -1 := by
  intro c
  induction c with
  | zero => intro _; rfl
  | succ c ih => intro h; rw [fwN, if_neg (h c (by omega)), ih (fun j hj => h j (by omega))]
theorem srch_fw {K : List Tok} {a w0 : Nat} (m : Nat → Nat → Prop) [∀ a b, Decidable (m a b)] : ∀ (P : List (Nat × Nat)) (w : Nat), w0 + w + P.length ≤ 23 → (∀ j, j < P.length → (m (P.getD j (0, 0)).1 (P.getD j (0, 0)).2 ↔ isWP K a (w0 + w + j))) → (∀ j, j < w → ¬ isWP K a (w0 + j)) → srch m P w = fwN K a w0 (w + P.length) := by
  intro P
  induction P with
  | nil => intro w _ _ h; rw [srch]; exact (fwN_no w h).symm
  | cons q P ih =>
    intro w hl hm hn
    rw [List.length_cons] at hl hm
    have h0 := hm 0 (by omega)
    simp only [List.getD_cons_zero, Nat.add_zero] at h0
    rw [srch]
    by_cases h : m q.1 q.2
    · rw [if_pos h, fwN_at (h0.mp h) _ (by rw [List.length_cons]; omega) (by rw [List.length_cons]; omega)]
    · rw [if_neg h, ih (w + 1) (by omega) (fun j hj => by
        have := hm (j + 1) (by omega)
        rw [List.getD_cons_succ] at this
        rw [this]
        rw [show w0 + w + (j + 1) = w0 + (w + 1) + j by omega]) (fun j hj => by
        by_cases e : j = w
        · subst e; exact fun q => h (h0.mpr q)
        · exact hn j (by omega)), List.length_cons, show w + 1 + P.length = w + (P.length + 1) by omega]
/-- what a list of words is asked for, of a word -/
theorem word_among {T : List Int32} {a i w0 c : Nat} (hq : (i, w0, c) ∈ wLs) (ha : a < (toks T).length) (h1 : (tk (toks T) a).1 = 1) : srch (pcM T i (tk (toks T) a).2.1 ((tk (toks T) a).2.2.2 - (tk (toks T) a).2.1)) (spl i (sLe.getD i 0 + 1) 0 0) 0 = fwN (toks T) a w0 c := by
  obtain ⟨s1, s2, s3, s4⟩ := spl_ok _ hq
  dsimp only at s1 s2 s3 s4
  rcases toks_c ha with e | ⟨k, hk, -, e⟩
  · rw [e] at h1; cases h1
  · have hL : isLt (T.getD k 0) := by
      rw [e, tok1] at h1
      by_cases g : isLt (T.getD k 0)
      · exact g
      · rw [if_neg g] at h1
        by_cases g2 : isDg (T.getD k 0)
        · rw [if_pos g2] at h1; dsimp only at h1; split at h1 <;> cases h1
        · rw [if_neg g2] at h1; dsimp only at h1; split at h1 <;> cases h1
    have e2 : tok1 (fun i => T.getD i 0) T.length k = (if lR (fun i => T.getD i 0) (T.length - k) k - k ≤ 8 then 1 else 4, k, hW (fun i => T.getD i 0) k (T.length - k) k 0, lR (fun i => T.getD i 0) (T.length - k) k) := by rw [tok1, if_pos hL]
    rw [e2] at e
    have h8 : lR (fun i => T.getD i 0) (T.length - k) k - k ≤ 8 := by
      rw [e] at h1
      dsimp only at h1
      by_cases g : lR (fun i => T.getD i 0) (T.length - k) k - k ≤ 8
      · exact g
      · rw [if_neg g] at h1; cases h1
    have hp := srch_fw (K := toks T) (a := a) (w0 := w0) (pcM T i (tk (toks T) a).2.1 ((tk (toks T) a).2.2.2 - (tk (toks T) a).2.1)) (spl i (sLe.getD i 0 + 1) 0 0) 0 (by rw [s3]; omega) (fun j hj => by
      rw [s3] at hj
      obtain ⟨g1, g2⟩ := s4 j hj
      obtain ⟨-, g3, -⟩ := wdL_h (w0 + j) (by omega)
      rw [Nat.add_zero]
      show _ ↔ (tk (toks T) a).1 = 1 ∧ (tk (toks T) a).2.2.1 = wdV.getD (w0 + j) 0
      rw [e]
      dsimp only
      rw [if_pos h8, word_eq (by omega) h8, wlT_eq]
      constructor
      · rintro ⟨q1, q2⟩
        exact ⟨rfl, by omega, fun x hx => by rw [← g2 x (by omega) (by omega)]; exact q2 x hx⟩
      · rintro ⟨-, q1, q2⟩
        exact ⟨by omega, fun x hx => by rw [g2 x (by omega) (by omega)]; exact q2 x hx⟩) (fun j hj => by omega)
    rw [hp, s3, Nat.zero_add]
theorem fwN_0 {K : List Tok} {a w0 : Nat} (h : ¬ (tk K a).1 = 1) (c : Nat) : fwN K a w0 c = -1 := fwN_no c (fun _ _ q => h q.1)
/-! signs -/
theorem sg_tok {T : List Int32} {a : Nat} (ha : a < (toks T).length) (h3 : (tk (toks T) a).1 = 3) : (tk (toks T) a).2.2.1 = (T.getD (tk (toks T) a).2.1 0).toInt64 ∧ (tk (toks T) a).2.1 < T.length := by
  rcases toks_c ha with e | ⟨k, hk, -, e⟩
  · rw [e] at h3; cases h3
  · rw [e] at h3 ⊢
    rw [tok1] at h3 ⊢
    by_cases g : isLt (T.getD k 0)
    · rw [if_pos g] at h3; dsimp only at h3; split at h3 <;> cases h3
    · rw [if_neg g] at h3 ⊢
      by_cases g2 : isDg (T.getD k 0)
      · rw [if_pos g2] at h3; dsimp only at h3; split at h3 <;> cases h3
      · rw [if_neg g2]; exact ⟨rfl, hk⟩
theorem sg_P {T : List Int32} {a c : Nat} (ha : a < (toks T).length) (h3 : (tk (toks T) a).1 = 3) : isSP (toks T) a c ↔ nI c = T.getD (tk (toks T) a).2.1 0 := by
  constructor
  · rintro ⟨-, q⟩
    rw [(sg_tok ha h3).1] at q
    have := congrArg Int64.toInt q
    rw [Int32.toInt_toInt64, Int32.toInt_toInt64] at this
    exact (Int32.toInt_inj.mp this).symm
  · intro q
    exact ⟨h3, by rw [(sg_tok ha h3).1, q]⟩
end C32
