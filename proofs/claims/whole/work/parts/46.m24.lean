/-! tokens; the reference cuts its tape -/
section M24
variable {l : Launch} {S : HS} {I I' : HI} {J J' : HJ} {z : SV}
/-- a token: sort (0 end, 1 word, 2 number, 3 sign, 4 none of them), place, value, the place behind it -/
abbrev Tok : Type := Nat × Nat × Int64 × Nat
abbrev isLt (c : Int32) : Prop := nI 97 ≤ c ∧ c ≤ nI 122
abbrev isDg (c : Int32) : Prop := nI 48 ≤ c ∧ c ≤ nI 57
abbrev isSg (c : Int32) : Prop := c = nI 40 ∨ c = nI 41 ∨ c = nI 59 ∨ c = nI 61 ∨ c = nI 60 ∨ c = nI 43 ∨ c = nI 45 ∨ c = nI 42 ∨ c = nI 47
abbrev isBl (c : Int32) : Prop := c = nI 10 ∨ c = nI 32
def lR (t : Nat → Int32) : Nat → Nat → Nat
  | 0, k => k
  | c + 1, k => if isLt (t k) then lR t c (k + 1) else k
def hW (t : Nat → Int32) (fr : Nat) : Nat → Nat → Int64 → Int64
  | 0, _, v => v
  | c + 1, k, v => if isLt (t k) then hW t fr c (k + 1) (if 8 ≤ k - fr then v else 37 * v + (t k - nI 96).toInt64) else v
def dR (t : Nat → Int32) : Nat → Nat → Nat
  | 0, k => k
  | c + 1, k => if isDg (t k) then dR t c (k + 1) else k
def dW (t : Nat → Int32) (fr : Nat) : Nat → Nat → Int64 → Int64
  | 0, _, v => v
  | c + 1, k, v => if isDg (t k) then dW t fr c (k + 1) (if 5 ≤ k - fr then v else 10 * v + (t k).toInt64 - 48) else v
def tok1 (t : Nat → Int32) (n k : Nat) : Tok := if isLt (t k) then (if lR t (n - k) k - k ≤ 8 then 1 else 4, k, hW t k (n - k) k 0, lR t (n - k) k) else if isDg (t k) then (if dR t (n - k) k - k ≤ 5 then 2 else 4, k, dW t k (n - k) k 0, dR t (n - k) k) else (if isSg (t k) then 3 else 4, k, (t k).toInt64, k + 1)
def tks (t : Nat → Int32) (n : Nat) : Nat → Nat → List Tok
  | 0, _ => [(0, n, 0, n)]
  | c + 1, k => if n ≤ k then [(0, n, 0, n)] else if isBl (t k) then tks t n c (k + 1) else tok1 t n k :: tks t n c (tok1 t n k).2.2.2
theorem lR_ge {t : Nat → Int32} : ∀ c k, k ≤ lR t c k ∧ lR t c k ≤ k + c
  | 0, k => ⟨Nat.le_refl _, Nat.le_refl _⟩
  | c + 1, k => by
    unfold lR
    have := lR_ge (t := t) c (k + 1)
    split <;> omega
theorem dR_ge {t : Nat → Int32} : ∀ c k, k ≤ dR t c k ∧ dR t c k ≤ k + c
  | 0, k => ⟨Nat.le_refl _, Nat.le_refl _⟩
  | c + 1, k => by
    unfold dR
    have := dR_ge (t := t) c (k + 1)
    split <;> omega
theorem tok1_nx {t : Nat → Int32} {n k : Nat} (h : k < n) : k < (tok1 t n k).2.2.2 ∧ (tok1 t n k).2.2.2 ≤ n ∧ (tok1 t n k).2.1 = k ∧ (tok1 t n k).1 ≠ 0 ∧ (tok1 t n k).1 ≤ 4 := by
  unfold tok1
  obtain ⟨m, hm⟩ : ∃ m, n - k = m + 1 := ⟨n - k - 1, by omega⟩
  by_cases h1 : isLt (t k)
  · rw [if_pos h1]
    have := lR_ge (t := t) m (k + 1)
    have e : lR t (n - k) k = lR t m (k + 1) := by rw [hm, lR, if_pos h1]
    refine ⟨by show k < lR t (n - k) k; rw [e]; omega, by show lR t (n - k) k ≤ n; rw [e]; omega, rfl, ?_, ?_⟩
    · dsimp only; split <;> omega
    · dsimp only; split <;> omega
  · rw [if_neg h1]
    by_cases h2 : isDg (t k)
    · rw [if_pos h2]
      have := dR_ge (t := t) m (k + 1)
      have e : dR t (n - k) k = dR t m (k + 1) := by rw [hm, dR, if_pos h2]
      refine ⟨by show k < dR t (n - k) k; rw [e]; omega, by show dR t (n - k) k ≤ n; rw [e]; omega, rfl, ?_, ?_⟩
      · dsimp only; split <;> omega
      · dsimp only; split <;> omega
    · rw [if_neg h2]
      refine ⟨by show k < k + 1; omega, by show k + 1 ≤ n; omega, rfl, ?_, ?_⟩
      · dsimp only; split <;> omega
      · dsimp only; split <;> omega
theorem tks_ne {t : Nat → Int32} {n : Nat} : ∀ c k, tks t n c k ≠ []
  | 0, _ => by simp [tks]
  | c + 1, k => by
    unfold tks
    split
    · simp
    · split
      · exact tks_ne c (k + 1)
      · simp
theorem tks_len {t : Nat → Int32} {n : Nat} : ∀ c k, k ≤ n → (tks t n c k).length ≤ n - k + 1
  | 0, _, _ => by simp [tks]
  | c + 1, k, hk => by
    unfold tks
    split
    · simp
    · rename_i h
      split
      · have := tks_len (t := t) (n := n) c (k + 1) (by omega); omega
      · have h1 := tok1_nx (t := t) (n := n) (k := k) (by omega)
        have := tks_len (t := t) (n := n) c (tok1 t n k).2.2.2 h1.2.1
        simp only [List.length_cons]
        omega
def t0 : Tok := (0, 0, 0, 0)
abbrev tk (K : List Tok) (a : Nat) : Tok := K.getD a t0
/-- an end at the end alone; places in range -/
def wfK (n : Nat) : List Tok → Prop
  | [] => False
  | [x] => x.1 = 0 ∧ x.2.1 ≤ n
  | x :: y :: s => x.1 ≠ 0 ∧ x.1 ≤ 4 ∧ x.2.1 ≤ n ∧ wfK n (y :: s)
theorem wfK_cons {n : Nat} {x : Tok} {s : List Tok} (h1 : x.1 ≠ 0) (h2 : x.1 ≤ 4) (h3 : x.2.1 ≤ n) (h : wfK n s) : wfK n (x :: s) := by
  cases s with
  | nil => exact absurd h id
  | cons y s => exact ⟨h1, h2, h3, h⟩
theorem tks_wf {t : Nat → Int32} {n : Nat} : ∀ c k, k ≤ n → wfK n (tks t n c k)
  | 0, _, _ => ⟨rfl, Nat.le_refl _⟩
  | c + 1, k, hk => by
    unfold tks
    split
    · exact ⟨rfl, Nat.le_refl _⟩
    · rename_i h
      split
      · exact tks_wf c (k + 1) (by omega)
      · have h1 := tok1_nx (t := t) (n := n) (k := k) (by omega)
        exact wfK_cons h1.2.2.2.1 h1.2.2.2.2 (by omega) (tks_wf c _ h1.2.1)
theorem wfK_at {n : Nat} : ∀ (K : List Tok) (a : Nat), wfK n K → a < K.length → (tk K a).2.1 ≤ n ∧ (tk K a).1 ≤ 4 ∧ ((tk K a).1 ≠ 0 → a + 1 < K.length) := by
  intro K
  induction K with
  | nil => intro a h; exact absurd h id
  | cons x s ih =>
    intro a h ha
    cases s with
    | nil =>
      have : a = 0 := by simp only [List.length_cons, List.length_nil] at ha; omega
      subst this
      exact ⟨h.2, by show x.1 ≤ 4; rw [h.1]; omega, fun q => absurd h.1 q⟩
    | cons y s =>
      obtain ⟨h1, h2, h3, h4⟩ := h
      cases a with
      | zero => exact ⟨h3, h2, fun _ => by simp only [List.length_cons]; omega⟩
      | succ a =>
        have := ih a h4 (by simp only [List.length_cons] at ha ⊢; omega)
        exact ⟨this.1, this.2.1, fun q => by have := this.2.2 q; simp only [List.length_cons] at this ⊢; omega⟩
/-- the reference's rows hold the tokens K -/
def tkG (I : HI) (J : HJ) (K : List Tok) : Prop := ∀ i, i < K.length → I 1005 i = nI (tk K i).1 ∧ I 1006 i = nI (tk K i).2.1 ∧ ((tk K i).1 ≠ 0 → J 1007 i = (tk K i).2.2.1)
set_option maxRecDepth 100000 in
theorem m_isLetter (c : Int32) : Mn l yX7_isLetter cX7_isLetter 1 (some .boolean) 0 [.int c] S I J (fun v I' J' => v = some (.int (bI (isLt c))) ∧ I' = I ∧ J' = J) := by
  refine Mn.of (by decide) (fun ad => by simp [lg_sl, vv, Value.category]) (fun X P hP hn C => ?_)
  refine V_iload_n C dX7_isLetter_0 rfl ?_
  refine V_bipush C (v := nI 97) dX7_isLetter_1 (by decide +kernel) ?_
  refine V_icmp_lt C 16 dX7_isLetter_3 (by decide) (fun h3 => ?_) (fun h3 => ?_)
  · refine V_iconst C (v := nI 0) dX7_isLetter_16 (by decide +kernel) ?_
    exact V_zret C (by first | exact Or.inl rfl | exact Or.inr rfl | (simp only [bI]; split <;> first | exact Or.inl rfl | exact Or.inr rfl) | assumption) (Nat.zero_le _) (Nat.zero_le _) dX7_isLetter_17 (hP _ _ _ ⟨by first | (rw [bI_f (fun q => absurd h3 (Int32.not_lt.mpr q.1))]; rfl) | (rw [bI_f (fun q => absurd h9 (Int32.not_lt.mpr q.2))]; rfl) | (rw [bI_t ⟨Int32.not_lt.mp h3, Int32.not_lt.mp h9⟩]; rfl), rfl, rfl⟩)
  · refine V_iload_n C dX7_isLetter_6 rfl ?_
    refine V_bipush C (v := nI 122) dX7_isLetter_7 (by decide +kernel) ?_
    refine V_icmp_gt C 16 dX7_isLetter_9 (by decide) (fun h9 => ?_) (fun h9 => ?_)
    · refine V_iconst C (v := nI 0) dX7_isLetter_16 (by decide +kernel) ?_
      exact V_zret C (by first | exact Or.inl rfl | exact Or.inr rfl | (simp only [bI]; split <;> first | exact Or.inl rfl | exact Or.inr rfl) | assumption) (Nat.zero_le _) (Nat.zero_le _) dX7_isLetter_17 (hP _ _ _ ⟨by first | (rw [bI_f (fun q => absurd h3 (Int32.not_lt.mpr q.1))]; rfl) | (rw [bI_f (fun q => absurd h9 (Int32.not_lt.mpr q.2))]; rfl) | (rw [bI_t ⟨Int32.not_lt.mp h3, Int32.not_lt.mp h9⟩]; rfl), rfl, rfl⟩)
    · refine V_iconst C (v := nI 1) dX7_isLetter_12 (by decide +kernel) ?_
      refine V_goto C 17 dX7_isLetter_13 (by decide) ?_
      exact V_zret C (by first | exact Or.inl rfl | exact Or.inr rfl | (simp only [bI]; split <;> first | exact Or.inl rfl | exact Or.inr rfl) | assumption) (Nat.zero_le _) (Nat.zero_le _) dX7_isLetter_17 (hP _ _ _ ⟨by first | (rw [bI_f (fun q => absurd h3 (Int32.not_lt.mpr q.1))]; rfl) | (rw [bI_f (fun q => absurd h9 (Int32.not_lt.mpr q.2))]; rfl) | (rw [bI_t ⟨Int32.not_lt.mp h3, Int32.not_lt.mp h9⟩]; rfl), rfl, rfl⟩)
set_option maxRecDepth 100000 in
theorem m_isDigit (c : Int32) : Mn l yX7_isDigit cX7_isDigit 1 (some .boolean) 0 [.int c] S I J (fun v I' J' => v = some (.int (bI (isDg c))) ∧ I' = I ∧ J' = J) := by
  refine Mn.of (by decide) (fun ad => by simp [lg_sl, vv, Value.category]) (fun X P hP hn C => ?_)
  refine V_iload_n C dX7_isDigit_0 rfl ?_
  refine V_bipush C (v := nI 48) dX7_isDigit_1 (by decide +kernel) ?_
  refine V_icmp_lt C 16 dX7_isDigit_3 (by decide) (fun h3 => ?_) (fun h3 => ?_)
  · refine V_iconst C (v := nI 0) dX7_isDigit_16 (by decide +kernel) ?_
    exact V_zret C (by first | exact Or.inl rfl | exact Or.inr rfl | (simp only [bI]; split <;> first | exact Or.inl rfl | exact Or.inr rfl) | assumption) (Nat.zero_le _) (Nat.zero_le _) dX7_isDigit_17 (hP _ _ _ ⟨by first | (rw [bI_f (fun q => absurd h3 (Int32.not_lt.mpr q.1))]; rfl) | (rw [bI_f (fun q => absurd h9 (Int32.not_lt.mpr q.2))]; rfl) | (rw [bI_t ⟨Int32.not_lt.mp h3, Int32.not_lt.mp h9⟩]; rfl), rfl, rfl⟩)
  · refine V_iload_n C dX7_isDigit_6 rfl ?_
    refine V_bipush C (v := nI 57) dX7_isDigit_7 (by decide +kernel) ?_
    refine V_icmp_gt C 16 dX7_isDigit_9 (by decide) (fun h9 => ?_) (fun h9 => ?_)
    · refine V_iconst C (v := nI 0) dX7_isDigit_16 (by decide +kernel) ?_
      exact V_zret C (by first | exact Or.inl rfl | exact Or.inr rfl | (simp only [bI]; split <;> first | exact Or.inl rfl | exact Or.inr rfl) | assumption) (Nat.zero_le _) (Nat.zero_le _) dX7_isDigit_17 (hP _ _ _ ⟨by first | (rw [bI_f (fun q => absurd h3 (Int32.not_lt.mpr q.1))]; rfl) | (rw [bI_f (fun q => absurd h9 (Int32.not_lt.mpr q.2))]; rfl) | (rw [bI_t ⟨Int32.not_lt.mp h3, Int32.not_lt.mp h9⟩]; rfl), rfl, rfl⟩)
    · refine V_iconst C (v := nI 1) dX7_isDigit_12 (by decide +kernel) ?_
      refine V_goto C 17 dX7_isDigit_13 (by decide) ?_
      exact V_zret C (by first | exact Or.inl rfl | exact Or.inr rfl | (simp only [bI]; split <;> first | exact Or.inl rfl | exact Or.inr rfl) | assumption) (Nat.zero_le _) (Nat.zero_le _) dX7_isDigit_17 (hP _ _ _ ⟨by first | (rw [bI_f (fun q => absurd h3 (Int32.not_lt.mpr q.1))]; rfl) | (rw [bI_f (fun q => absurd h9 (Int32.not_lt.mpr q.2))]; rfl) | (rw [bI_t ⟨Int32.not_lt.mp h3, Int32.not_lt.mp h9⟩]; rfl), rfl, rfl⟩)
set_option maxRecDepth 100000 in
theorem m_rank {c : Int32} (hc : isLt c) : Mn l yX7_rank cX7_rank 1 (some .int) 1 [.int c] S I J (fun v I' J' => v = some (.int (c - nI 96)) ∧ I' = I ∧ J' = J) := by
  refine Mn.of (by decide) (fun ad => by simp [lg_sl, vv, Value.category]) (fun X P hP hn C => ?_)
  refine V_iload_n C dX7_rank_0 rfl ?_
  refine V_callS (F := fun _ => True) C (m_isLetter c) ms_X7_isLetter ml_X7_193 rfl (by decide) (by decide) (Nat.le_of_ble_eq_true rfl) (fun _ _ => trivial) (fun v _ => clo_T v) rfl dX7_rank_1 ?_
  rintro v S' I' J' ⟨hS, rfl, hI, hJ⟩
  obtain rfl := hS.symm
  obtain rfl := hI.symm
  obtain rfl := hJ.symm
  refine V_if_eq C 14 dX7_rank_4 (by decide) (fun h4 => absurd h4 (by rw [bI_0]; exact fun q => q hc)) (fun h4 => ?_)
  refine V_iload_n C dX7_rank_7 rfl ?_
  refine V_bipush C (v := nI 96) dX7_rank_8 (by decide +kernel) ?_
  refine V_isub C dX7_rank_10 ?_
  refine V_goto C 18 dX7_rank_11 (by decide) ?_
  exact V_iret C (Nat.zero_le _) (Nat.zero_le _) dX7_rank_18 (hP _ _ _ ⟨rfl, rfl, rfl⟩)
set_option maxRecDepth 100000 in
theorem m_isSignOf (c : Int32) : Mn l yX7_isSignOf cX7_isSignOf 1 (some .boolean) 0 [.int c] S I J (fun v I' J' => v = some (.int (bI (isSg c))) ∧ I' = I ∧ J' = J) := by
  refine Mn.of (by decide) (fun ad => by simp [lg_sl, vv, Value.category]) (fun X P hP hn C => ?_)
  refine V_iload_n C dX7_isSignOf_0 rfl ?_
  refine V_bipush C (v := nI 40) dX7_isSignOf_1 (by decide +kernel) ?_
  refine V_icmp_eq C 54 dX7_isSignOf_3 (by decide) (fun h3 => ?_) (fun h3 => ?_)
  · refine V_iconst C (v := nI 1) dX7_isSignOf_54 (by decide +kernel) ?_
    refine V_goto C 59 dX7_isSignOf_55 (by decide) ?_
    exact V_zret C (by first | exact Or.inl rfl | exact Or.inr rfl | (simp only [bI]; split <;> first | exact Or.inl rfl | exact Or.inr rfl) | assumption) (Nat.zero_le _) (Nat.zero_le _) dX7_isSignOf_59 (hP _ _ _ ⟨by first | (rw [bI_f (by simp only [isSg, h3, h9, h15, h21, h27, h33, h39, h45, h51, or_false, not_false_eq_true])]; rfl) | (rw [bI_t (by simp only [isSg]; first | exact Or.inl h3 | exact Or.inr (Or.inl h9) | exact Or.inr (Or.inr (Or.inl h15)) | exact Or.inr (Or.inr (Or.inr (Or.inl h21))) | exact Or.inr (Or.inr (Or.inr (Or.inr (Or.inl h27)))) | exact Or.inr (Or.inr (Or.inr (Or.inr (Or.inr (Or.inl h33))))) | exact Or.inr (Or.inr (Or.inr (Or.inr (Or.inr (Or.inr (Or.inl h39)))))) | exact Or.inr (Or.inr (Or.inr (Or.inr (Or.inr (Or.inr (Or.inr (Or.inl h45))))))) | exact Or.inr (Or.inr (Or.inr (Or.inr (Or.inr (Or.inr (Or.inr (Or.inr h51))))))))]; rfl), rfl, rfl⟩)
  · refine V_iload_n C dX7_isSignOf_6 rfl ?_
    refine V_bipush C (v := nI 41) dX7_isSignOf_7 (by decide +kernel) ?_
    refine V_icmp_eq C 54 dX7_isSignOf_9 (by decide) (fun h9 => ?_) (fun h9 => ?_)
    · refine V_iconst C (v := nI 1) dX7_isSignOf_54 (by decide +kernel) ?_
      refine V_goto C 59 dX7_isSignOf_55 (by decide) ?_
      exact V_zret C (by first | exact Or.inl rfl | exact Or.inr rfl | (simp only [bI]; split <;> first | exact Or.inl rfl | exact Or.inr rfl) | assumption) (Nat.zero_le _) (Nat.zero_le _) dX7_isSignOf_59 (hP _ _ _ ⟨by first | (rw [bI_f (by simp only [isSg, h3, h9, h15, h21, h27, h33, h39, h45, h51, or_false, not_false_eq_true])]; rfl) | (rw [bI_t (by simp only [isSg]; first | exact Or.inl h3 | exact Or.inr (Or.inl h9) | exact Or.inr (Or.inr (Or.inl h15)) | exact Or.inr (Or.inr (Or.inr (Or.inl h21))) | exact Or.inr (Or.inr (Or.inr (Or.inr (Or.inl h27)))) | exact Or.inr (Or.inr (Or.inr (Or.inr (Or.inr (Or.inl h33))))) | exact Or.inr (Or.inr (Or.inr (Or.inr (Or.inr (Or.inr (Or.inl h39)))))) | exact Or.inr (Or.inr (Or.inr (Or.inr (Or.inr (Or.inr (Or.inr (Or.inl h45))))))) | exact Or.inr (Or.inr (Or.inr (Or.inr (Or.inr (Or.inr (Or.inr (Or.inr h51))))))))]; rfl), rfl, rfl⟩)
    · refine V_iload_n C dX7_isSignOf_12 rfl ?_
      refine V_bipush C (v := nI 59) dX7_isSignOf_13 (by decide +kernel) ?_
      refine V_icmp_eq C 54 dX7_isSignOf_15 (by decide) (fun h15 => ?_) (fun h15 => ?_)
      · refine V_iconst C (v := nI 1) dX7_isSignOf_54 (by decide +kernel) ?_
        refine V_goto C 59 dX7_isSignOf_55 (by decide) ?_
        exact V_zret C (by first | exact Or.inl rfl | exact Or.inr rfl | (simp only [bI]; split <;> first | exact Or.inl rfl | exact Or.inr rfl) | assumption) (Nat.zero_le _) (Nat.zero_le _) dX7_isSignOf_59 (hP _ _ _ ⟨by first | (rw [bI_f (by simp only [isSg, h3, h9, h15, h21, h27, h33, h39, h45, h51, or_false, not_false_eq_true])]; rfl) | (rw [bI_t (by simp only [isSg]; first | exact Or.inl h3 | exact Or.inr (Or.inl h9) | exact Or.inr (Or.inr (Or.inl h15)) | exact Or.inr (Or.inr (Or.inr (Or.inl h21))) | exact Or.inr (Or.inr (Or.inr (Or.inr (Or.inl h27)))) | exact Or.inr (Or.inr (Or.inr (Or.inr (Or.inr (Or.inl h33))))) | exact Or.inr (Or.inr (Or.inr (Or.inr (Or.inr (Or.inr (Or.inl h39)))))) | exact Or.inr (Or.inr (Or.inr (Or.inr (Or.inr (Or.inr (Or.inr (Or.inl h45))))))) | exact Or.inr (Or.inr (Or.inr (Or.inr (Or.inr (Or.inr (Or.inr (Or.inr h51))))))))]; rfl), rfl, rfl⟩)
      · refine V_iload_n C dX7_isSignOf_18 rfl ?_
        refine V_bipush C (v := nI 61) dX7_isSignOf_19 (by decide +kernel) ?_
        refine V_icmp_eq C 54 dX7_isSignOf_21 (by decide) (fun h21 => ?_) (fun h21 => ?_)
        · refine V_iconst C (v := nI 1) dX7_isSignOf_54 (by decide +kernel) ?_
          refine V_goto C 59 dX7_isSignOf_55 (by decide) ?_
          exact V_zret C (by first | exact Or.inl rfl | exact Or.inr rfl | (simp only [bI]; split <;> first | exact Or.inl rfl | exact Or.inr rfl) | assumption) (Nat.zero_le _) (Nat.zero_le _) dX7_isSignOf_59 (hP _ _ _ ⟨by first | (rw [bI_f (by simp only [isSg, h3, h9, h15, h21, h27, h33, h39, h45, h51, or_false, not_false_eq_true])]; rfl) | (rw [bI_t (by simp only [isSg]; first | exact Or.inl h3 | exact Or.inr (Or.inl h9) | exact Or.inr (Or.inr (Or.inl h15)) | exact Or.inr (Or.inr (Or.inr (Or.inl h21))) | exact Or.inr (Or.inr (Or.inr (Or.inr (Or.inl h27)))) | exact Or.inr (Or.inr (Or.inr (Or.inr (Or.inr (Or.inl h33))))) | exact Or.inr (Or.inr (Or.inr (Or.inr (Or.inr (Or.inr (Or.inl h39)))))) | exact Or.inr (Or.inr (Or.inr (Or.inr (Or.inr (Or.inr (Or.inr (Or.inl h45))))))) | exact Or.inr (Or.inr (Or.inr (Or.inr (Or.inr (Or.inr (Or.inr (Or.inr h51))))))))]; rfl), rfl, rfl⟩)
        · refine V_iload_n C dX7_isSignOf_24 rfl ?_
          refine V_bipush C (v := nI 60) dX7_isSignOf_25 (by decide +kernel) ?_
          refine V_icmp_eq C 54 dX7_isSignOf_27 (by decide) (fun h27 => ?_) (fun h27 => ?_)
          · refine V_iconst C (v := nI 1) dX7_isSignOf_54 (by decide +kernel) ?_
            refine V_goto C 59 dX7_isSignOf_55 (by decide) ?_
            exact V_zret C (by first | exact Or.inl rfl | exact Or.inr rfl | (simp only [bI]; split <;> first | exact Or.inl rfl | exact Or.inr rfl) | assumption) (Nat.zero_le _) (Nat.zero_le _) dX7_isSignOf_59 (hP _ _ _ ⟨by first | (rw [bI_f (by simp only [isSg, h3, h9, h15, h21, h27, h33, h39, h45, h51, or_false, not_false_eq_true])]; rfl) | (rw [bI_t (by simp only [isSg]; first | exact Or.inl h3 | exact Or.inr (Or.inl h9) | exact Or.inr (Or.inr (Or.inl h15)) | exact Or.inr (Or.inr (Or.inr (Or.inl h21))) | exact Or.inr (Or.inr (Or.inr (Or.inr (Or.inl h27)))) | exact Or.inr (Or.inr (Or.inr (Or.inr (Or.inr (Or.inl h33))))) | exact Or.inr (Or.inr (Or.inr (Or.inr (Or.inr (Or.inr (Or.inl h39)))))) | exact Or.inr (Or.inr (Or.inr (Or.inr (Or.inr (Or.inr (Or.inr (Or.inl h45))))))) | exact Or.inr (Or.inr (Or.inr (Or.inr (Or.inr (Or.inr (Or.inr (Or.inr h51))))))))]; rfl), rfl, rfl⟩)
          · refine V_iload_n C dX7_isSignOf_30 rfl ?_
            refine V_bipush C (v := nI 43) dX7_isSignOf_31 (by decide +kernel) ?_
            refine V_icmp_eq C 54 dX7_isSignOf_33 (by decide) (fun h33 => ?_) (fun h33 => ?_)
            · refine V_iconst C (v := nI 1) dX7_isSignOf_54 (by decide +kernel) ?_
              refine V_goto C 59 dX7_isSignOf_55 (by decide) ?_
              exact V_zret C (by first | exact Or.inl rfl | exact Or.inr rfl | (simp only [bI]; split <;> first | exact Or.inl rfl | exact Or.inr rfl) | assumption) (Nat.zero_le _) (Nat.zero_le _) dX7_isSignOf_59 (hP _ _ _ ⟨by first | (rw [bI_f (by simp only [isSg, h3, h9, h15, h21, h27, h33, h39, h45, h51, or_false, not_false_eq_true])]; rfl) | (rw [bI_t (by simp only [isSg]; first | exact Or.inl h3 | exact Or.inr (Or.inl h9) | exact Or.inr (Or.inr (Or.inl h15)) | exact Or.inr (Or.inr (Or.inr (Or.inl h21))) | exact Or.inr (Or.inr (Or.inr (Or.inr (Or.inl h27)))) | exact Or.inr (Or.inr (Or.inr (Or.inr (Or.inr (Or.inl h33))))) | exact Or.inr (Or.inr (Or.inr (Or.inr (Or.inr (Or.inr (Or.inl h39)))))) | exact Or.inr (Or.inr (Or.inr (Or.inr (Or.inr (Or.inr (Or.inr (Or.inl h45))))))) | exact Or.inr (Or.inr (Or.inr (Or.inr (Or.inr (Or.inr (Or.inr (Or.inr h51))))))))]; rfl), rfl, rfl⟩)
            · refine V_iload_n C dX7_isSignOf_36 rfl ?_
              refine V_bipush C (v := nI 45) dX7_isSignOf_37 (by decide +kernel) ?_
              refine V_icmp_eq C 54 dX7_isSignOf_39 (by decide) (fun h39 => ?_) (fun h39 => ?_)
              · refine V_iconst C (v := nI 1) dX7_isSignOf_54 (by decide +kernel) ?_
                refine V_goto C 59 dX7_isSignOf_55 (by decide) ?_
                exact V_zret C (by first | exact Or.inl rfl | exact Or.inr rfl | (simp only [bI]; split <;> first | exact Or.inl rfl | exact Or.inr rfl) | assumption) (Nat.zero_le _) (Nat.zero_le _) dX7_isSignOf_59 (hP _ _ _ ⟨by first | (rw [bI_f (by simp only [isSg, h3, h9, h15, h21, h27, h33, h39, h45, h51, or_false, not_false_eq_true])]; rfl) | (rw [bI_t (by simp only [isSg]; first | exact Or.inl h3 | exact Or.inr (Or.inl h9) | exact Or.inr (Or.inr (Or.inl h15)) | exact Or.inr (Or.inr (Or.inr (Or.inl h21))) | exact Or.inr (Or.inr (Or.inr (Or.inr (Or.inl h27)))) | exact Or.inr (Or.inr (Or.inr (Or.inr (Or.inr (Or.inl h33))))) | exact Or.inr (Or.inr (Or.inr (Or.inr (Or.inr (Or.inr (Or.inl h39)))))) | exact Or.inr (Or.inr (Or.inr (Or.inr (Or.inr (Or.inr (Or.inr (Or.inl h45))))))) | exact Or.inr (Or.inr (Or.inr (Or.inr (Or.inr (Or.inr (Or.inr (Or.inr h51))))))))]; rfl), rfl, rfl⟩)
              · refine V_iload_n C dX7_isSignOf_42 rfl ?_
                refine V_bipush C (v := nI 42) dX7_isSignOf_43 (by decide +kernel) ?_
                refine V_icmp_eq C 54 dX7_isSignOf_45 (by decide) (fun h45 => ?_) (fun h45 => ?_)
                · refine V_iconst C (v := nI 1) dX7_isSignOf_54 (by decide +kernel) ?_
                  refine V_goto C 59 dX7_isSignOf_55 (by decide) ?_
                  exact V_zret C (by first | exact Or.inl rfl | exact Or.inr rfl | (simp only [bI]; split <;> first | exact Or.inl rfl | exact Or.inr rfl) | assumption) (Nat.zero_le _) (Nat.zero_le _) dX7_isSignOf_59 (hP _ _ _ ⟨by first | (rw [bI_f (by simp only [isSg, h3, h9, h15, h21, h27, h33, h39, h45, h51, or_false, not_false_eq_true])]; rfl) | (rw [bI_t (by simp only [isSg]; first | exact Or.inl h3 | exact Or.inr (Or.inl h9) | exact Or.inr (Or.inr (Or.inl h15)) | exact Or.inr (Or.inr (Or.inr (Or.inl h21))) | exact Or.inr (Or.inr (Or.inr (Or.inr (Or.inl h27)))) | exact Or.inr (Or.inr (Or.inr (Or.inr (Or.inr (Or.inl h33))))) | exact Or.inr (Or.inr (Or.inr (Or.inr (Or.inr (Or.inr (Or.inl h39)))))) | exact Or.inr (Or.inr (Or.inr (Or.inr (Or.inr (Or.inr (Or.inr (Or.inl h45))))))) | exact Or.inr (Or.inr (Or.inr (Or.inr (Or.inr (Or.inr (Or.inr (Or.inr h51))))))))]; rfl), rfl, rfl⟩)
                · refine V_iload_n C dX7_isSignOf_48 rfl ?_
                  refine V_bipush C (v := nI 47) dX7_isSignOf_49 (by decide +kernel) ?_
                  refine V_icmp_ne C 58 dX7_isSignOf_51 (by decide) (fun h51 => ?_) (fun h51 => ?_)
                  · refine V_iconst C (v := nI 0) dX7_isSignOf_58 (by decide +kernel) ?_
                    exact V_zret C (by first | exact Or.inl rfl | exact Or.inr rfl | (simp only [bI]; split <;> first | exact Or.inl rfl | exact Or.inr rfl) | assumption) (Nat.zero_le _) (Nat.zero_le _) dX7_isSignOf_59 (hP _ _ _ ⟨by first | (rw [bI_f (by simp only [isSg, h3, h9, h15, h21, h27, h33, h39, h45, h51, or_false, not_false_eq_true])]; rfl) | (rw [bI_t (by simp only [isSg]; first | exact Or.inl h3 | exact Or.inr (Or.inl h9) | exact Or.inr (Or.inr (Or.inl h15)) | exact Or.inr (Or.inr (Or.inr (Or.inl h21))) | exact Or.inr (Or.inr (Or.inr (Or.inr (Or.inl h27)))) | exact Or.inr (Or.inr (Or.inr (Or.inr (Or.inr (Or.inl h33))))) | exact Or.inr (Or.inr (Or.inr (Or.inr (Or.inr (Or.inr (Or.inl h39)))))) | exact Or.inr (Or.inr (Or.inr (Or.inr (Or.inr (Or.inr (Or.inr (Or.inl h45))))))) | exact Or.inr (Or.inr (Or.inr (Or.inr (Or.inr (Or.inr (Or.inr (Or.inr h51))))))))]; rfl), rfl, rfl⟩)
                  · refine V_iconst C (v := nI 1) dX7_isSignOf_54 (by decide +kernel) ?_
                    refine V_goto C 59 dX7_isSignOf_55 (by decide) ?_
                    exact V_zret C (by first | exact Or.inl rfl | exact Or.inr rfl | (simp only [bI]; split <;> first | exact Or.inl rfl | exact Or.inr rfl) | assumption) (Nat.zero_le _) (Nat.zero_le _) dX7_isSignOf_59 (hP _ _ _ ⟨by first | (rw [bI_f (by simp only [isSg, h3, h9, h15, h21, h27, h33, h39, h45, h51, or_false, not_false_eq_true])]; rfl) | (rw [bI_t (by simp only [isSg]; first | exact Or.inl h3 | exact Or.inr (Or.inl h9) | exact Or.inr (Or.inr (Or.inl h15)) | exact Or.inr (Or.inr (Or.inr (Or.inl h21))) | exact Or.inr (Or.inr (Or.inr (Or.inr (Or.inl h27)))) | exact Or.inr (Or.inr (Or.inr (Or.inr (Or.inr (Or.inl h33))))) | exact Or.inr (Or.inr (Or.inr (Or.inr (Or.inr (Or.inr (Or.inl h39)))))) | exact Or.inr (Or.inr (Or.inr (Or.inr (Or.inr (Or.inr (Or.inr (Or.inl h45))))))) | exact Or.inr (Or.inr (Or.inr (Or.inr (Or.inr (Or.inr (Or.inr (Or.inr h51))))))))]; rfl), rfl, rfl⟩)
/-- what cutting leaves as it was -/
def cuF (I : HI) (J : HJ) (I' : HI) (J' : HJ) : Prop := (∀ c, c ≠ 2 → c ≠ 3 → c ≠ 7 → c ≠ 8 → I' 1000 c = I 1000 c) ∧ (∀ a, a ≠ 1000 → a ≠ 1005 → a ≠ 1006 → I' a = I a) ∧ ∀ a, a ≠ 1007 → J' a = J a
theorem tkG_app {P : List Tok} {x : Tok} {I2 : HI} {J2 : HJ} (h : tkG I J P) (h1 : ∀ i, i ≠ P.length → I2 1005 i = I 1005 i ∧ I2 1006 i = I 1006 i ∧ J2 1007 i = J 1007 i) (h2 : I2 1005 P.length = nI x.1 ∧ I2 1006 P.length = nI x.2.1 ∧ (x.1 ≠ 0 → J2 1007 P.length = x.2.2.1)) : tkG I2 J2 (P ++ [x]) := by
  intro i hi
  rw [List.length_append] at hi
  have hi : i < P.length + 1 := hi
  by_cases e : i = P.length
  · subst e
    rw [tk, gd_app]
    exact h2
  · have hl : i < P.length := by omega
    obtain ⟨g1, g2, g3⟩ := h1 i e
    rw [tk, gd_app2 hl, g1, g2, g3]
    exact h i hl
set_option maxRecDepth 100000 in
set_option maxHeartbeats 2000000 in
theorem m_cutAll (hM : Ob S 7 1000) {T : List Int32} (hT : tpR I T) (h1000 : T.length ≤ 1000) : Mn l yX7_cutAll cX7_cutAll 7 none 2 [.ref 1000] S I J (fun v I' J' => v = none ∧ tkG I' J' (tks (fun i => T.getD i 0) T.length T.length 0) ∧ I' 1000 7 = 0 ∧ I' 1000 8 = 0 ∧ I' 1000 2 = 0 ∧ cuF I J I' J') := by
  refine Mn.of (by decide) (fun ad => by simp [lg_sl, vv, Value.category]) (fun X P hP hn C => ?_)
  obtain ⟨n, en⟩ : ∃ n, n = T.length := ⟨_, rfl⟩
  obtain ⟨t, et⟩ : ∃ t : Nat → Int32, t = fun i => T.getD i 0 := ⟨_, rfl⟩
  rw [← en] at h1000
  have ht : ∀ i, i < n → I 1002 i = t i := fun i hi => by rw [et]; exact hT.2 i (by omega)
  rw [← en, ← et] at hP
  have loop : ∀ (c k : Nat) (Pr : List Tok) (In : HI) (Jn : HJ) (x3 x4 x5 : Option Value), n ≤ k + c → k ≤ n → Pr.length ≤ k → tks t n n 0 = Pr ++ tks t n c k → tkG In Jn Pr → In 1000 3 = nI n → In 1000 2 = 0 → cuF I J In Jn → V X P 0 0 17 [some (.ref 1000), some (.int (nI Pr.length)), some (.int (nI k)), x3, x4, x5, none] [] S In Jn := by
    intro c
    induction c with
    | zero =>
      intro k Pr In Jn x3 x4 x5 h1 h2 h3 h4 h5 h6 h7 h8
      have hk : k = n := by omega
      subst hk
      have hl : Pr.length < 1002 := by omega
      obtain ⟨f1, f2, f3⟩ := h8
      refine V_iload_n C dX7_cutAll_17 rfl ?_
      refine V_aload_n C dX7_cutAll_18 rfl ?_
      refine V_getI C fl_X7_197 (ob_K hM) rfl dX7_cutAll_19 ?_
      refine V_icmp_ge C 279 dX7_cutAll_22 (by decide) (fun h22 => ?_) (fun h22 => absurd (by rw [h6]; exact Int32.le_refl _) h22)
      refine V_aload_n C dX7_cutAll_279 rfl ?_
      refine V_getR C fl_X7_24 (ob_K hM) (ob_R hM 4 1005 rfl rfl) rfl dX7_cutAll_280 ?_
      refine V_iload_n C dX7_cutAll_283 rfl ?_
      refine V_iconst C (v := nI 0) dX7_cutAll_284 (by decide +kernel) ?_
      refine V_iast C (Pr.length) (ob_A hM 4 1005 rfl rfl) (by first | rfl | (simp only [nI_add, pk_mul]; done) | (simp only [nI_add, pk_mul]; congr 1; omega)) (by rw [ob_N hM 4 1005 rfl rfl]; omega) (by rw [ob_N hM 4 1005 rfl rfl]; decide) dX7_cutAll_285 ?_
      refine V_aload_n C dX7_cutAll_286 rfl ?_
      refine V_getR C fl_X7_27 (ob_K hM) (ob_R hM 5 1006 rfl rfl) rfl dX7_cutAll_287 ?_
      refine V_iload_n C dX7_cutAll_290 rfl ?_
      refine V_aload_n C dX7_cutAll_291 rfl ?_
      refine V_getI C fl_X7_197 (ob_K hM) rfl dX7_cutAll_292 ?_
      refine V_iast C (Pr.length) (ob_A hM 5 1006 rfl rfl) (by first | rfl | (simp only [nI_add, pk_mul]; done) | (simp only [nI_add, pk_mul]; congr 1; omega)) (by rw [ob_N hM 5 1006 rfl rfl]; omega) (by rw [ob_N hM 5 1006 rfl rfl]; decide) dX7_cutAll_295 ?_
      refine V_aload_n C dX7_cutAll_296 rfl ?_
      refine V_iconst C (v := nI 0) dX7_cutAll_297 (by decide +kernel) ?_
      refine V_putI C fl_X7_216 (ob_K hM) rfl rfl dX7_cutAll_298 ?_
      refine V_aload_n C dX7_cutAll_301 rfl ?_
      refine V_iconst C (v := nI 0) dX7_cutAll_302 (by decide +kernel) ?_
      refine V_putI C fl_X7_219 (ob_K hM) rfl rfl dX7_cutAll_303 ?_
      exact V_vret C (Nat.zero_le _) (Nat.zero_le _) dX7_cutAll_306 (hP _ _ _ ⟨rfl, by rw [h4, tks]; exact tkG_app h5 (fun i hi => ⟨by show va_up (In 1005) _ _ i = _; rw [va_up_ne _ _ hi], by show va_up (In 1006) _ _ i = _; rw [va_up_ne _ _ hi], rfl⟩) ⟨by show va_up (In 1005) _ _ _ = _; rw [va_up_self], by show va_up (In 1006) _ _ _ = _; rw [va_up_self]; exact h6, fun q => absurd rfl q⟩, rfl, rfl, h7, ⟨fun c g1 g2 g3 g4 => by rw [o_ne g4, o_ne g3]; exact f1 c g1 g2 g3 g4, fun a g1 g2 g3 => by rw [up2_ne _ _ _ g1, up2_ne _ _ _ g1, up2_ne _ _ _ g3, up2_ne _ _ _ g2]; exact f2 a g1 g2 g3, f3⟩⟩)
    | succ c ih =>
      intro k Pr In Jn x3 x4 x5 h1 h2 h3 h4 h5 h6 h7 h8
      obtain ⟨f1, f2, f3⟩ := id h8
      by_cases hkn : n ≤ k
      · have hk : k = n := by omega
        subst hk
        have hl : Pr.length < 1002 := by omega
        refine V_iload_n C dX7_cutAll_17 rfl ?_
        refine V_aload_n C dX7_cutAll_18 rfl ?_
        refine V_getI C fl_X7_197 (ob_K hM) rfl dX7_cutAll_19 ?_
        refine V_icmp_ge C 279 dX7_cutAll_22 (by decide) (fun h22 => ?_) (fun h22 => absurd (by rw [h6]; exact Int32.le_refl _) h22)
        refine V_aload_n C dX7_cutAll_279 rfl ?_
        refine V_getR C fl_X7_24 (ob_K hM) (ob_R hM 4 1005 rfl rfl) rfl dX7_cutAll_280 ?_
        refine V_iload_n C dX7_cutAll_283 rfl ?_
        refine V_iconst C (v := nI 0) dX7_cutAll_284 (by decide +kernel) ?_
        refine V_iast C (Pr.length) (ob_A hM 4 1005 rfl rfl) (by first | rfl | (simp only [nI_add, pk_mul]; done) | (simp only [nI_add, pk_mul]; congr 1; omega)) (by rw [ob_N hM 4 1005 rfl rfl]; omega) (by rw [ob_N hM 4 1005 rfl rfl]; decide) dX7_cutAll_285 ?_
        refine V_aload_n C dX7_cutAll_286 rfl ?_
        refine V_getR C fl_X7_27 (ob_K hM) (ob_R hM 5 1006 rfl rfl) rfl dX7_cutAll_287 ?_
        refine V_iload_n C dX7_cutAll_290 rfl ?_
        refine V_aload_n C dX7_cutAll_291 rfl ?_
        refine V_getI C fl_X7_197 (ob_K hM) rfl dX7_cutAll_292 ?_
        refine V_iast C (Pr.length) (ob_A hM 5 1006 rfl rfl) (by first | rfl | (simp only [nI_add, pk_mul]; done) | (simp only [nI_add, pk_mul]; congr 1; omega)) (by rw [ob_N hM 5 1006 rfl rfl]; omega) (by rw [ob_N hM 5 1006 rfl rfl]; decide) dX7_cutAll_295 ?_
        refine V_aload_n C dX7_cutAll_296 rfl ?_
        refine V_iconst C (v := nI 0) dX7_cutAll_297 (by decide +kernel) ?_
        refine V_putI C fl_X7_216 (ob_K hM) rfl rfl dX7_cutAll_298 ?_
        refine V_aload_n C dX7_cutAll_301 rfl ?_
        refine V_iconst C (v := nI 0) dX7_cutAll_302 (by decide +kernel) ?_
        refine V_putI C fl_X7_219 (ob_K hM) rfl rfl dX7_cutAll_303 ?_
        exact V_vret C (Nat.zero_le _) (Nat.zero_le _) dX7_cutAll_306 (hP _ _ _ ⟨rfl, by rw [h4, tks, if_pos (Nat.le_refl _)]; exact tkG_app h5 (fun i hi => ⟨by show va_up (In 1005) _ _ i = _; rw [va_up_ne _ _ hi], by show va_up (In 1006) _ _ i = _; rw [va_up_ne _ _ hi], rfl⟩) ⟨by show va_up (In 1005) _ _ _ = _; rw [va_up_self], by show va_up (In 1006) _ _ _ = _; rw [va_up_self]; exact h6, fun q => absurd rfl q⟩, rfl, rfl, h7, ⟨fun c g1 g2 g3 g4 => by rw [o_ne g4, o_ne g3]; exact f1 c g1 g2 g3 g4, fun a g1 g2 g3 => by rw [up2_ne _ _ _ g1, up2_ne _ _ _ g1, up2_ne _ _ _ g3, up2_ne _ _ _ g2]; exact f2 a g1 g2 g3, f3⟩⟩)
      · have hl : Pr.length < 1002 := by omega
        have hlt : k < n := by omega
        have e02 : ∀ i, i < n → In 1002 i = t i := fun i hi => by rw [f2 1002 (by decide) (by decide) (by decide)]; exact ht i hi
        rw [tks, if_neg hkn] at h4
        by_cases hb : isBl (t k)
        · rw [if_pos hb] at h4
          refine V_iload_n C dX7_cutAll_17 rfl ?_
          refine V_aload_n C dX7_cutAll_18 rfl ?_
          refine V_getI C fl_X7_197 (ob_K hM) rfl dX7_cutAll_19 ?_
          refine V_icmp_ge C 279 dX7_cutAll_22 (by decide) (fun h22 => absurd h22 (by rw [h6]; exact nI_ge hlt (by omega))) (fun h22 => ?_)
          refine V_aload_n C dX7_cutAll_25 rfl ?_
          refine V_getR C fl_X7_14 (ob_K hM) (ob_R hM 1 1002 rfl rfl) rfl dX7_cutAll_26 ?_
          refine V_iload_n C dX7_cutAll_29 rfl ?_
          refine V_iald C (k) (ob_A hM 1 1002 rfl rfl) (by first | rfl | (simp only [nI_add, pk_mul]; done) | (simp only [nI_add, pk_mul]; congr 1; omega)) (by rw [ob_N hM 1 1002 rfl rfl]; omega) (by rw [ob_N hM 1 1002 rfl rfl]; decide) dX7_cutAll_30 ?_
          rw [e02 k hlt]
          refine V_istore_n C dX7_cutAll_31 (hn _ (by decide)) ?_
          refine V_iload_n C dX7_cutAll_32 rfl ?_
          refine V_bipush C (v := nI 10) dX7_cutAll_33 (by decide +kernel) ?_
          refine V_icmp_eq C 44 dX7_cutAll_35 (by decide) (fun h35 => ?_) (fun h35 => ?_)
          · refine V_iincU C dX7_cutAll_44 rfl (hn _ (by decide)) ?_
            refine V_goto C 17 dX7_cutAll_47 (by decide) ?_
            exact ih (k + 1) Pr _ _ _ _ _ (by omega) (by omega) (by omega) h4 h5 h6 h7 h8
          · refine V_iload_n C dX7_cutAll_38 rfl ?_
            refine V_bipush C (v := nI 32) dX7_cutAll_39 (by decide +kernel) ?_
            refine V_icmp_ne C 50 dX7_cutAll_41 (by decide) (fun h41 => ?_) (fun h41 => ?_)
            · exact absurd hb (fun q => q.elim h35 h41)
            · refine V_iincU C dX7_cutAll_44 rfl (hn _ (by decide)) ?_
              refine V_goto C 17 dX7_cutAll_47 (by decide) ?_
              exact ih (k + 1) Pr _ _ _ _ _ (by omega) (by omega) (by omega) h4 h5 h6 h7 h8
        · rw [if_neg hb] at h4
          obtain ⟨w1, w2, w3, w4, w5⟩ := tok1_nx (t := t) (n := n) (k := k) hlt
          obtain ⟨x, hx⟩ : ∃ x, x = tok1 t n k := ⟨_, rfl⟩
          rw [← hx] at h4 w1 w2 w3 w4 w5
          -- behind a token
          have fin : ∀ (I2 : HI) (v : Int64) (x3 x4 : Option Value), I2 1005 = va_up (In 1005) Pr.length (nI x.1) → I2 1006 = va_up (In 1006) Pr.length (nI k) → v = x.2.2.1 → (∀ a, a ≠ 1005 → a ≠ 1006 → I2 a = In a) → V X P 0 0 265 [some (.ref 1000), some (.int (nI Pr.length)), some (.int (nI x.2.2.2)), x3, x4, some (.long v), none] [] S I2 Jn := by
            intro I2 v x3 x4 g1 g2 g3 g4
            have nx := ih x.2.2.2 (Pr ++ [x]) I2 (up2 Jn 1007 Pr.length v) x3 x4 (some (.long v)) (by omega) w2 (by rw [List.length_append]; show Pr.length + 1 ≤ _; omega) (by rw [h4, List.append_assoc]; rfl) (tkG_app h5 (fun i hi => ⟨by rw [g1, va_up_ne _ _ hi], by rw [g2, va_up_ne _ _ hi], by rw [up2_row, va_up_ne _ _ hi]⟩) ⟨by rw [g1, va_up_self], by rw [g2, va_up_self, w3], fun _ => by rw [up2_row, va_up_self, g3]⟩) (by rw [g4 1000 (by decide) (by decide)]; exact h6) (by rw [g4 1000 (by decide) (by decide)]; exact h7) ⟨fun c q1 q2 q3 q4 => by rw [g4 1000 (by decide) (by decide)]; exact f1 c q1 q2 q3 q4, fun a q1 q2 q3 => by rw [g4 a q2 q3]; exact f2 a q1 q2 q3, fun a q => by rw [up2_ne _ _ _ q]; exact f3 a q⟩
            rw [List.length_append] at nx
            refine V_aload_n C dX7_cutAll_265 rfl ?_
            refine V_getR C fl_X7_30 (ob_K hM) (ob_R hM 6 1007 rfl rfl) rfl dX7_cutAll_266 ?_
            refine V_iload_n C dX7_cutAll_269 rfl ?_
            refine V_lload C dX7_cutAll_270 rfl ?_
            refine V_last C (Pr.length) (ob_A hM 6 1007 rfl rfl) (by first | rfl | (simp only [nI_add, pk_mul]; done) | (simp only [nI_add, pk_mul]; congr 1; omega)) (by rw [ob_N hM 6 1007 rfl rfl]; omega) (by rw [ob_N hM 6 1007 rfl rfl]; decide) dX7_cutAll_272 ?_
            refine V_iincU C dX7_cutAll_273 rfl (hn _ (by decide)) ?_
            refine V_goto C 17 dX7_cutAll_276 (by decide) ?_
            exact nx
          obtain ⟨I1, hI1⟩ : ∃ I1, I1 = up2 In 1006 Pr.length (nI k) := ⟨_, rfl⟩
          have a02 : ∀ i, i < n → I1 1002 i = t i := fun i hi => by rw [hI1]; exact e02 i hi
          have a03 : I1 1000 3 = nI n := by rw [hI1]; exact h6
          have fin2 : ∀ (s : Int32) (v : Int64) (x3 x4 : Option Value), s = nI x.1 → v = x.2.2.1 → V X P 0 0 265 [some (.ref 1000), some (.int (nI Pr.length)), some (.int (nI x.2.2.2)), x3, x4, some (.long v), none] [] S (up2 I1 1005 Pr.length s) Jn := fun s v x3 x4 g1 g2 => fin _ v x3 x4 (by rw [up2_row, hI1, g1]; rfl) (by rw [up2_ne _ _ _ (by decide), hI1, up2_row]) g2 (fun a q1 q2 => by rw [up2_ne _ _ _ q1, hI1, up2_ne _ _ _ q2])
          by_cases hL : isLt (t k)
          · have ex : x = (if lR t (n - k) k - k ≤ 8 then 1 else 4, k, hW t k (n - k) k 0, lR t (n - k) k) := by rw [hx, tok1, if_pos hL]
            have done : ∀ (v : Int64) (x3 : Option Value), v = hW t k (n - k) k 0 → V X P 0 0 129 [some (.ref 1000), some (.int (nI Pr.length)), some (.int (nI (lR t (n - k) k))), x3, some (.int (nI k)), some (.long v), none] [] S I1 Jn := by
              intro v x3 hv
              have e2 : x.2.2.2 = lR t (n - k) k := by rw [ex]
              have hg := lR_ge (t := t) (n - k) k
              have es : nI (lR t (n - k) k) - nI k = nI (lR t (n - k) k - k) := pk_sub hg.1
              have nx := fun s h x3 x4 => fin2 s v x3 x4 h (by rw [ex]; exact hv)
              rw [e2] at nx
              have ev : (if nI (lR t (n - k) k) - nI k ≤ nI 8 then nI 1 else nI 4) = nI x.1 := by
                rw [ex, es]
                dsimp only
                by_cases g : lR t (n - k) k - k ≤ 8
                · rw [if_pos g, if_pos ((nI_leI (by omega) (by omega)).mpr g)]
                · rw [if_neg g, if_neg (fun q => g ((nI_leI (by omega) (by omega)).mp q))]
              refine V_aload_n C dX7_cutAll_129 rfl ?_
              refine V_getR C fl_X7_24 (ob_K hM) (ob_R hM 4 1005 rfl rfl) rfl dX7_cutAll_130 ?_
              refine V_iload_n C dX7_cutAll_133 rfl ?_
              refine V_iload_n C dX7_cutAll_134 rfl ?_
              refine V_iload C dX7_cutAll_135 rfl ?_
              refine V_isub C dX7_cutAll_137 ?_
              refine V_bipush C (v := nI 8) dX7_cutAll_138 (by decide +kernel) ?_
              refine V_tern_icmp_le (vt := nI 1) (vf := nI 4) (pm := 148) C 147 dX7_cutAll_140 (by decide) (fun h140 k => ?_) (fun h140 k => ?_) ?_
              · refine V_iconst C (v := nI 1) dX7_cutAll_147 (by decide +kernel) ?_
                exact k
              · refine V_iconst C (v := nI 4) dX7_cutAll_143 (by decide +kernel) ?_
                refine V_goto C 148 dX7_cutAll_144 (by decide) ?_
                exact k
              refine V_iast C (Pr.length) (ob_A hM 4 1005 rfl rfl) (by first | rfl | (simp only [nI_add, pk_mul]; done) | (simp only [nI_add, pk_mul]; congr 1; omega)) (by rw [ob_N hM 4 1005 rfl rfl]; omega) (by rw [ob_N hM 4 1005 rfl rfl]; decide) dX7_cutAll_148 ?_
              refine V_goto C 265 dX7_cutAll_149 (by decide) ?_
              exact nx _ ev _ _
            have inner : ∀ (c2 k2 : Nat) (v : Int64) (x3 : Option Value), k2 + c2 = n → k ≤ k2 → lR t c2 k2 = lR t (n - k) k → hW t k c2 k2 v = hW t k (n - k) k 0 → V X P 0 0 70 [some (.ref 1000), some (.int (nI Pr.length)), some (.int (nI k2)), x3, some (.int (nI k)), some (.long v), none] [] S I1 Jn := by
              intro c2
              induction c2 with
              | zero =>
                intro k2 v x3 q1 q2 q3 q4
                have hk2 : k2 = n := q1
                rw [lR] at q3
                rw [hW] at q4
                have dn := done v x3 q4
                rw [← q3] at dn
                refine V_iload_n C dX7_cutAll_70 rfl ?_
                refine V_aload_n C dX7_cutAll_71 rfl ?_
                refine V_getI C fl_X7_197 (ob_K hM) rfl dX7_cutAll_72 ?_
                refine V_icmp_ge C 129 dX7_cutAll_75 (by decide) (fun h75 => ?_) (fun h75 => absurd (by rw [a03, hk2]; exact Int32.le_refl _) h75)
                exact dn
              | succ c2 ih2 =>
                intro k2 v x3 q1 q2 q3 q4
                have hk2 : k2 < n := by omega
                rw [lR] at q3
                rw [hW] at q4
                have es : nI k2 - nI k = nI (k2 - k) := pk_sub q2
                by_cases hg : isLt (t k2)
                · rw [if_pos hg] at q3 q4
                  by_cases h8' : 8 ≤ k2 - k
                  · rw [if_pos h8'] at q4
                    refine V_iload_n C dX7_cutAll_70 rfl ?_
                    refine V_aload_n C dX7_cutAll_71 rfl ?_
                    refine V_getI C fl_X7_197 (ob_K hM) rfl dX7_cutAll_72 ?_
                    refine V_icmp_ge C 129 dX7_cutAll_75 (by decide) (fun h75 => absurd h75 (by rw [a03]; exact nI_ge hk2 (by omega))) (fun h75 => ?_)
                    refine V_aload_n C dX7_cutAll_78 rfl ?_
                    refine V_getR C fl_X7_14 (ob_K hM) (ob_R hM 1 1002 rfl rfl) rfl dX7_cutAll_79 ?_
                    refine V_iload_n C dX7_cutAll_82 rfl ?_
                    refine V_iald C (k2) (ob_A hM 1 1002 rfl rfl) (by first | rfl | (simp only [nI_add, pk_mul]; done) | (simp only [nI_add, pk_mul]; congr 1; omega)) (by rw [ob_N hM 1 1002 rfl rfl]; omega) (by rw [ob_N hM 1 1002 rfl rfl]; decide) dX7_cutAll_83 ?_
                    rw [a02 k2 hk2]
                    refine V_callS (F := fun _ => True) C (m_isLetter _) ms_X7_isLetter ml_X7_193 rfl (by decide) (by decide) (Nat.le_of_ble_eq_true rfl) (fun _ _ => trivial) (fun v _ => clo_T v) rfl dX7_cutAll_84 ?_
                    rintro v S' I' J' ⟨hS, rfl, hI, hJ⟩
                    obtain rfl := hS.symm
                    obtain rfl := hI.symm
                    obtain rfl := hJ.symm
                    refine V_if_eq C 129 dX7_cutAll_87 (by decide) (fun h87 => absurd h87 (by rw [bI_0]; exact fun q => q hg)) (fun h87 => ?_)
                    refine V_iload_n C dX7_cutAll_90 rfl ?_
                    refine V_iload C dX7_cutAll_91 rfl ?_
                    refine V_isub C dX7_cutAll_93 ?_
                    refine V_bipush C (v := nI 8) dX7_cutAll_94 (by decide +kernel) ?_
                    refine V_icmp_ge C 119 dX7_cutAll_96 (by decide) (fun h96 => ?_) (fun h96 => absurd (by rw [es]; exact nI_le h8' (by omega)) h96)
                    refine V_lload C dX7_cutAll_119 rfl ?_
                    refine V_lstore C dX7_cutAll_121 (hn _ (by decide)) ?_
                    refine V_iincU C dX7_cutAll_123 rfl (hn _ (by decide)) ?_
                    refine V_goto C 70 dX7_cutAll_126 (by decide) ?_
                    exact ih2 (k2 + 1) v _ (by omega) (by omega) q3 q4
                  · rw [if_neg h8'] at q4
                    refine V_iload_n C dX7_cutAll_70 rfl ?_
                    refine V_aload_n C dX7_cutAll_71 rfl ?_
                    refine V_getI C fl_X7_197 (ob_K hM) rfl dX7_cutAll_72 ?_
                    refine V_icmp_ge C 129 dX7_cutAll_75 (by decide) (fun h75 => absurd h75 (by rw [a03]; exact nI_ge hk2 (by omega))) (fun h75 => ?_)
                    refine V_aload_n C dX7_cutAll_78 rfl ?_
                    refine V_getR C fl_X7_14 (ob_K hM) (ob_R hM 1 1002 rfl rfl) rfl dX7_cutAll_79 ?_
                    refine V_iload_n C dX7_cutAll_82 rfl ?_
                    refine V_iald C (k2) (ob_A hM 1 1002 rfl rfl) (by first | rfl | (simp only [nI_add, pk_mul]; done) | (simp only [nI_add, pk_mul]; congr 1; omega)) (by rw [ob_N hM 1 1002 rfl rfl]; omega) (by rw [ob_N hM 1 1002 rfl rfl]; decide) dX7_cutAll_83 ?_
                    rw [a02 k2 hk2]
                    refine V_callS (F := fun _ => True) C (m_isLetter _) ms_X7_isLetter ml_X7_193 rfl (by decide) (by decide) (Nat.le_of_ble_eq_true rfl) (fun _ _ => trivial) (fun v _ => clo_T v) rfl dX7_cutAll_84 ?_
                    rintro v S' I' J' ⟨hS, rfl, hI, hJ⟩
                    obtain rfl := hS.symm
                    obtain rfl := hI.symm
                    obtain rfl := hJ.symm
                    refine V_if_eq C 129 dX7_cutAll_87 (by decide) (fun h87 => absurd h87 (by rw [bI_0]; exact fun q => q hg)) (fun h87 => ?_)
                    refine V_iload_n C dX7_cutAll_90 rfl ?_
                    refine V_iload C dX7_cutAll_91 rfl ?_
                    refine V_isub C dX7_cutAll_93 ?_
                    refine V_bipush C (v := nI 8) dX7_cutAll_94 (by decide +kernel) ?_
                    refine V_icmp_ge C 119 dX7_cutAll_96 (by decide) (fun h96 => absurd h96 (by rw [es]; exact nI_ge (by omega) (by omega))) (fun h96 => ?_)
                    refine V_ldc2 C dX7_cutAll_99 kl_X7_200 ?_
                    refine V_lload C dX7_cutAll_102 rfl ?_
                    refine V_lmul C dX7_cutAll_104 ?_
                    refine V_aload_n C dX7_cutAll_105 rfl ?_
                    refine V_getR C fl_X7_14 (ob_K hM) (ob_R hM 1 1002 rfl rfl) rfl dX7_cutAll_106 ?_
                    refine V_iload_n C dX7_cutAll_109 rfl ?_
                    refine V_iald C (k2) (ob_A hM 1 1002 rfl rfl) (by first | rfl | (simp only [nI_add, pk_mul]; done) | (simp only [nI_add, pk_mul]; congr 1; omega)) (by rw [ob_N hM 1 1002 rfl rfl]; omega) (by rw [ob_N hM 1 1002 rfl rfl]; decide) dX7_cutAll_110 ?_
                    rw [a02 k2 hk2]
                    refine V_callS (F := fun _ => True) C (m_rank hg) ms_X7_rank ml_X7_202 rfl (by decide) (by decide) (Nat.le_of_ble_eq_true rfl) (fun _ _ => trivial) (fun v _ => clo_T v) rfl dX7_cutAll_111 ?_
                    rintro v S' I' J' ⟨hS, rfl, hI, hJ⟩
                    obtain rfl := hS.symm
                    obtain rfl := hI.symm
                    obtain rfl := hJ.symm
                    refine V_i2l C dX7_cutAll_114 ?_
                    refine V_ladd C dX7_cutAll_115 ?_
                    refine V_goto C 121 dX7_cutAll_116 (by decide) ?_
                    refine V_lstore C dX7_cutAll_121 (hn _ (by decide)) ?_
                    refine V_iincU C dX7_cutAll_123 rfl (hn _ (by decide)) ?_
                    refine V_goto C 70 dX7_cutAll_126 (by decide) ?_
                    exact ih2 (k2 + 1) _ _ (by omega) (by omega) q3 q4
                · rw [if_neg hg] at q3 q4
                  have dn := done v x3 q4
                  rw [← q3] at dn
                  refine V_iload_n C dX7_cutAll_70 rfl ?_
                  refine V_aload_n C dX7_cutAll_71 rfl ?_
                  refine V_getI C fl_X7_197 (ob_K hM) rfl dX7_cutAll_72 ?_
                  refine V_icmp_ge C 129 dX7_cutAll_75 (by decide) (fun h75 => absurd h75 (by rw [a03]; exact nI_ge hk2 (by omega))) (fun h75 => ?_)
                  refine V_aload_n C dX7_cutAll_78 rfl ?_
                  refine V_getR C fl_X7_14 (ob_K hM) (ob_R hM 1 1002 rfl rfl) rfl dX7_cutAll_79 ?_
                  refine V_iload_n C dX7_cutAll_82 rfl ?_
                  refine V_iald C (k2) (ob_A hM 1 1002 rfl rfl) (by first | rfl | (simp only [nI_add, pk_mul]; done) | (simp only [nI_add, pk_mul]; congr 1; omega)) (by rw [ob_N hM 1 1002 rfl rfl]; omega) (by rw [ob_N hM 1 1002 rfl rfl]; decide) dX7_cutAll_83 ?_
                  rw [a02 k2 hk2]
                  refine V_callS (F := fun _ => True) C (m_isLetter _) ms_X7_isLetter ml_X7_193 rfl (by decide) (by decide) (Nat.le_of_ble_eq_true rfl) (fun _ _ => trivial) (fun v _ => clo_T v) rfl dX7_cutAll_84 ?_
                  rintro v S' I' J' ⟨hS, rfl, hI, hJ⟩
                  obtain rfl := hS.symm
                  obtain rfl := hI.symm
                  obtain rfl := hJ.symm
                  refine V_if_eq C 129 dX7_cutAll_87 (by decide) (fun h87 => ?_) (fun h87 => absurd (by rw [bI_0]; exact hg) h87)
                  exact dn
            refine V_iload_n C dX7_cutAll_17 rfl ?_
            refine V_aload_n C dX7_cutAll_18 rfl ?_
            refine V_getI C fl_X7_197 (ob_K hM) rfl dX7_cutAll_19 ?_
            refine V_icmp_ge C 279 dX7_cutAll_22 (by decide) (fun h22 => absurd h22 (by rw [h6]; exact nI_ge hlt (by omega))) (fun h22 => ?_)
            refine V_aload_n C dX7_cutAll_25 rfl ?_
            refine V_getR C fl_X7_14 (ob_K hM) (ob_R hM 1 1002 rfl rfl) rfl dX7_cutAll_26 ?_
            refine V_iload_n C dX7_cutAll_29 rfl ?_
            refine V_iald C (k) (ob_A hM 1 1002 rfl rfl) (by first | rfl | (simp only [nI_add, pk_mul]; done) | (simp only [nI_add, pk_mul]; congr 1; omega)) (by rw [ob_N hM 1 1002 rfl rfl]; omega) (by rw [ob_N hM 1 1002 rfl rfl]; decide) dX7_cutAll_30 ?_
            rw [e02 k hlt]
            refine V_istore_n C dX7_cutAll_31 (hn _ (by decide)) ?_
            refine V_iload_n C dX7_cutAll_32 rfl ?_
            refine V_bipush C (v := nI 10) dX7_cutAll_33 (by decide +kernel) ?_
            refine V_icmp_eq C 44 dX7_cutAll_35 (by decide) (fun h35 => absurd h35 (fun q => hb (Or.inl q))) (fun h35 => ?_)
            refine V_iload_n C dX7_cutAll_38 rfl ?_
            refine V_bipush C (v := nI 32) dX7_cutAll_39 (by decide +kernel) ?_
            refine V_icmp_ne C 50 dX7_cutAll_41 (by decide) (fun h41 => ?_) (fun h41 => absurd h41 (fun q => hb (Or.inr q)))
            refine V_iload_n C dX7_cutAll_50 rfl ?_
            refine V_istore C dX7_cutAll_51 (hn _ (by decide)) ?_
            refine V_lconst C (v := 0) dX7_cutAll_53 (by decide +kernel) ?_
            refine V_lstore C dX7_cutAll_54 (hn _ (by decide)) ?_
            refine V_aload_n C dX7_cutAll_56 rfl ?_
            refine V_getR C fl_X7_27 (ob_K hM) (ob_R hM 5 1006 rfl rfl) rfl dX7_cutAll_57 ?_
            refine V_iload_n C dX7_cutAll_60 rfl ?_
            refine V_iload_n C dX7_cutAll_61 rfl ?_
            refine V_iast C (Pr.length) (ob_A hM 5 1006 rfl rfl) (by first | rfl | (simp only [nI_add, pk_mul]; done) | (simp only [nI_add, pk_mul]; congr 1; omega)) (by rw [ob_N hM 5 1006 rfl rfl]; omega) (by rw [ob_N hM 5 1006 rfl rfl]; decide) dX7_cutAll_62 ?_
            rw [← hI1]
            refine V_iload_n C dX7_cutAll_63 rfl ?_
            refine V_callS (F := fun _ => True) C (m_isLetter _) ms_X7_isLetter ml_X7_193 rfl (by decide) (by decide) (Nat.le_of_ble_eq_true rfl) (fun _ _ => trivial) (fun v _ => clo_T v) rfl dX7_cutAll_64 ?_
            rintro v S' I' J' ⟨hS, rfl, hI, hJ⟩
            obtain rfl := hS.symm
            obtain rfl := hI.symm
            obtain rfl := hJ.symm
            refine V_if_eq C 152 dX7_cutAll_67 (by decide) (fun h67 => absurd h67 (by rw [bI_0]; exact fun q => q hL)) (fun h67 => ?_)
            exact inner (n - k) k _ _ (by omega) (Nat.le_refl _) rfl rfl
          · by_cases hDg : isDg (t k)
            · have ex : x = (if dR t (n - k) k - k ≤ 5 then 2 else 4, k, dW t k (n - k) k 0, dR t (n - k) k) := by rw [hx, tok1, if_neg hL, if_pos hDg]
              have done : ∀ (v : Int64) (x3 : Option Value), v = dW t k (n - k) k 0 → V X P 0 0 218 [some (.ref 1000), some (.int (nI Pr.length)), some (.int (nI (dR t (n - k) k))), x3, some (.int (nI k)), some (.long v), none] [] S I1 Jn := by
                intro v x3 hv
                have e2 : x.2.2.2 = dR t (n - k) k := by rw [ex]
                have hg := dR_ge (t := t) (n - k) k
                have es : nI (dR t (n - k) k) - nI k = nI (dR t (n - k) k - k) := pk_sub hg.1
                have nx := fun s h x3 x4 => fin2 s v x3 x4 h (by rw [ex]; exact hv)
                rw [e2] at nx
                have ev : (if nI (dR t (n - k) k) - nI k ≤ nI 5 then nI 2 else nI 4) = nI x.1 := by
                  rw [ex, es]
                  dsimp only
                  by_cases g : dR t (n - k) k - k ≤ 5
                  · rw [if_pos g, if_pos ((nI_leI (by omega) (by omega)).mpr g)]
                  · rw [if_neg g, if_neg (fun q => g ((nI_leI (by omega) (by omega)).mp q))]
                refine V_aload_n C dX7_cutAll_218 rfl ?_
                refine V_getR C fl_X7_24 (ob_K hM) (ob_R hM 4 1005 rfl rfl) rfl dX7_cutAll_219 ?_
                refine V_iload_n C dX7_cutAll_222 rfl ?_
                refine V_iload_n C dX7_cutAll_223 rfl ?_
                refine V_iload C dX7_cutAll_224 rfl ?_
                refine V_isub C dX7_cutAll_226 ?_
                refine V_iconst C (v := nI 5) dX7_cutAll_227 (by decide +kernel) ?_
                refine V_tern_icmp_le (vt := nI 2) (vf := nI 4) (pm := 236) C 235 dX7_cutAll_228 (by decide) (fun h228 k => ?_) (fun h228 k => ?_) ?_
                · refine V_iconst C (v := nI 2) dX7_cutAll_235 (by decide +kernel) ?_
                  exact k
                · refine V_iconst C (v := nI 4) dX7_cutAll_231 (by decide +kernel) ?_
                  refine V_goto C 236 dX7_cutAll_232 (by decide) ?_
                  exact k
                refine V_iast C (Pr.length) (ob_A hM 4 1005 rfl rfl) (by first | rfl | (simp only [nI_add, pk_mul]; done) | (simp only [nI_add, pk_mul]; congr 1; omega)) (by rw [ob_N hM 4 1005 rfl rfl]; omega) (by rw [ob_N hM 4 1005 rfl rfl]; decide) dX7_cutAll_236 ?_
                refine V_goto C 265 dX7_cutAll_237 (by decide) ?_
                exact nx _ ev _ _
              have inner : ∀ (c2 k2 : Nat) (v : Int64) (x3 : Option Value), k2 + c2 = n → k ≤ k2 → dR t c2 k2 = dR t (n - k) k → dW t k c2 k2 v = dW t k (n - k) k 0 → V X P 0 0 159 [some (.ref 1000), some (.int (nI Pr.length)), some (.int (nI k2)), x3, some (.int (nI k)), some (.long v), none] [] S I1 Jn := by
                intro c2
                induction c2 with
                | zero =>
                  intro k2 v x3 q1 q2 q3 q4
                  have hk2 : k2 = n := q1
                  rw [dR] at q3
                  rw [dW] at q4
                  have dn := done v x3 q4
                  rw [← q3] at dn
                  refine V_iload_n C dX7_cutAll_159 rfl ?_
                  refine V_aload_n C dX7_cutAll_160 rfl ?_
                  refine V_getI C fl_X7_197 (ob_K hM) rfl dX7_cutAll_161 ?_
                  refine V_icmp_ge C 218 dX7_cutAll_164 (by decide) (fun h164 => ?_) (fun h164 => absurd (by rw [a03, hk2]; exact Int32.le_refl _) h164)
                  exact dn
                | succ c2 ih2 =>
                  intro k2 v x3 q1 q2 q3 q4
                  have hk2 : k2 < n := by omega
                  rw [dR] at q3
                  rw [dW] at q4
                  have es : nI k2 - nI k = nI (k2 - k) := pk_sub q2
                  by_cases hg : isDg (t k2)
                  · rw [if_pos hg] at q3 q4
                    by_cases h8' : 5 ≤ k2 - k
                    · rw [if_pos h8'] at q4
                      refine V_iload_n C dX7_cutAll_159 rfl ?_
                      refine V_aload_n C dX7_cutAll_160 rfl ?_
                      refine V_getI C fl_X7_197 (ob_K hM) rfl dX7_cutAll_161 ?_
                      refine V_icmp_ge C 218 dX7_cutAll_164 (by decide) (fun h164 => absurd h164 (by rw [a03]; exact nI_ge hk2 (by omega))) (fun h164 => ?_)
                      refine V_aload_n C dX7_cutAll_167 rfl ?_
                      refine V_getR C fl_X7_14 (ob_K hM) (ob_R hM 1 1002 rfl rfl) rfl dX7_cutAll_168 ?_
                      refine V_iload_n C dX7_cutAll_171 rfl ?_
                      refine V_iald C (k2) (ob_A hM 1 1002 rfl rfl) (by first | rfl | (simp only [nI_add, pk_mul]; done) | (simp only [nI_add, pk_mul]; congr 1; omega)) (by rw [ob_N hM 1 1002 rfl rfl]; omega) (by rw [ob_N hM 1 1002 rfl rfl]; decide) dX7_cutAll_172 ?_
                      rw [a02 k2 hk2]
                      refine V_callS (F := fun _ => True) C (m_isDigit _) ms_X7_isDigit ml_X7_206 rfl (by decide) (by decide) (Nat.le_of_ble_eq_true rfl) (fun _ _ => trivial) (fun v _ => clo_T v) rfl dX7_cutAll_173 ?_
                      rintro v S' I' J' ⟨hS, rfl, hI, hJ⟩
                      obtain rfl := hS.symm
                      obtain rfl := hI.symm
                      obtain rfl := hJ.symm
                      refine V_if_eq C 218 dX7_cutAll_176 (by decide) (fun h176 => absurd h176 (by rw [bI_0]; exact fun q => q hg)) (fun h176 => ?_)
                      refine V_iload_n C dX7_cutAll_179 rfl ?_
                      refine V_iload C dX7_cutAll_180 rfl ?_
                      refine V_isub C dX7_cutAll_182 ?_
                      refine V_iconst C (v := nI 5) dX7_cutAll_183 (by decide +kernel) ?_
                      refine V_icmp_ge C 208 dX7_cutAll_184 (by decide) (fun h184 => ?_) (fun h184 => absurd (by rw [es]; exact nI_le h8' (by omega)) h184)
                      refine V_lload C dX7_cutAll_208 rfl ?_
                      refine V_lstore C dX7_cutAll_210 (hn _ (by decide)) ?_
                      refine V_iincU C dX7_cutAll_212 rfl (hn _ (by decide)) ?_
                      refine V_goto C 159 dX7_cutAll_215 (by decide) ?_
                      exact ih2 (k2 + 1) v _ (by omega) (by omega) q3 q4
                    · rw [if_neg h8'] at q4
                      refine V_iload_n C dX7_cutAll_159 rfl ?_
                      refine V_aload_n C dX7_cutAll_160 rfl ?_
                      refine V_getI C fl_X7_197 (ob_K hM) rfl dX7_cutAll_161 ?_
                      refine V_icmp_ge C 218 dX7_cutAll_164 (by decide) (fun h164 => absurd h164 (by rw [a03]; exact nI_ge hk2 (by omega))) (fun h164 => ?_)
                      refine V_aload_n C dX7_cutAll_167 rfl ?_
                      refine V_getR C fl_X7_14 (ob_K hM) (ob_R hM 1 1002 rfl rfl) rfl dX7_cutAll_168 ?_
                      refine V_iload_n C dX7_cutAll_171 rfl ?_
                      refine V_iald C (k2) (ob_A hM 1 1002 rfl rfl) (by first | rfl | (simp only [nI_add, pk_mul]; done) | (simp only [nI_add, pk_mul]; congr 1; omega)) (by rw [ob_N hM 1 1002 rfl rfl]; omega) (by rw [ob_N hM 1 1002 rfl rfl]; decide) dX7_cutAll_172 ?_
                      rw [a02 k2 hk2]
                      refine V_callS (F := fun _ => True) C (m_isDigit _) ms_X7_isDigit ml_X7_206 rfl (by decide) (by decide) (Nat.le_of_ble_eq_true rfl) (fun _ _ => trivial) (fun v _ => clo_T v) rfl dX7_cutAll_173 ?_
                      rintro v S' I' J' ⟨hS, rfl, hI, hJ⟩
                      obtain rfl := hS.symm
                      obtain rfl := hI.symm
                      obtain rfl := hJ.symm
                      refine V_if_eq C 218 dX7_cutAll_176 (by decide) (fun h176 => absurd h176 (by rw [bI_0]; exact fun q => q hg)) (fun h176 => ?_)
                      refine V_iload_n C dX7_cutAll_179 rfl ?_
                      refine V_iload C dX7_cutAll_180 rfl ?_
                      refine V_isub C dX7_cutAll_182 ?_
                      refine V_iconst C (v := nI 5) dX7_cutAll_183 (by decide +kernel) ?_
                      refine V_icmp_ge C 208 dX7_cutAll_184 (by decide) (fun h184 => absurd h184 (by rw [es]; exact nI_ge (by omega) (by omega))) (fun h184 => ?_)
                      refine V_ldc2 C dX7_cutAll_187 kl_X7_209 ?_
                      refine V_lload C dX7_cutAll_190 rfl ?_
                      refine V_lmul C dX7_cutAll_192 ?_
                      refine V_aload_n C dX7_cutAll_193 rfl ?_
                      refine V_getR C fl_X7_14 (ob_K hM) (ob_R hM 1 1002 rfl rfl) rfl dX7_cutAll_194 ?_
                      refine V_iload_n C dX7_cutAll_197 rfl ?_
                      refine V_iald C (k2) (ob_A hM 1 1002 rfl rfl) (by first | rfl | (simp only [nI_add, pk_mul]; done) | (simp only [nI_add, pk_mul]; congr 1; omega)) (by rw [ob_N hM 1 1002 rfl rfl]; omega) (by rw [ob_N hM 1 1002 rfl rfl]; decide) dX7_cutAll_198 ?_
                      rw [a02 k2 hk2]
                      refine V_i2l C dX7_cutAll_199 ?_
                      refine V_ladd C dX7_cutAll_200 ?_
                      refine V_ldc2 C dX7_cutAll_201 kl_X7_211 ?_
                      refine V_lsub C dX7_cutAll_204 ?_
                      refine V_goto C 210 dX7_cutAll_205 (by decide) ?_
                      refine V_lstore C dX7_cutAll_210 (hn _ (by decide)) ?_
                      refine V_iincU C dX7_cutAll_212 rfl (hn _ (by decide)) ?_
                      refine V_goto C 159 dX7_cutAll_215 (by decide) ?_
                      exact ih2 (k2 + 1) _ _ (by omega) (by omega) q3 q4
                  · rw [if_neg hg] at q3 q4
                    have dn := done v x3 q4
                    rw [← q3] at dn
                    refine V_iload_n C dX7_cutAll_159 rfl ?_
                    refine V_aload_n C dX7_cutAll_160 rfl ?_
                    refine V_getI C fl_X7_197 (ob_K hM) rfl dX7_cutAll_161 ?_
                    refine V_icmp_ge C 218 dX7_cutAll_164 (by decide) (fun h164 => absurd h164 (by rw [a03]; exact nI_ge hk2 (by omega))) (fun h164 => ?_)
                    refine V_aload_n C dX7_cutAll_167 rfl ?_
                    refine V_getR C fl_X7_14 (ob_K hM) (ob_R hM 1 1002 rfl rfl) rfl dX7_cutAll_168 ?_
                    refine V_iload_n C dX7_cutAll_171 rfl ?_
                    refine V_iald C (k2) (ob_A hM 1 1002 rfl rfl) (by first | rfl | (simp only [nI_add, pk_mul]; done) | (simp only [nI_add, pk_mul]; congr 1; omega)) (by rw [ob_N hM 1 1002 rfl rfl]; omega) (by rw [ob_N hM 1 1002 rfl rfl]; decide) dX7_cutAll_172 ?_
                    rw [a02 k2 hk2]
                    refine V_callS (F := fun _ => True) C (m_isDigit _) ms_X7_isDigit ml_X7_206 rfl (by decide) (by decide) (Nat.le_of_ble_eq_true rfl) (fun _ _ => trivial) (fun v _ => clo_T v) rfl dX7_cutAll_173 ?_
                    rintro v S' I' J' ⟨hS, rfl, hI, hJ⟩
                    obtain rfl := hS.symm
                    obtain rfl := hI.symm
                    obtain rfl := hJ.symm
                    refine V_if_eq C 218 dX7_cutAll_176 (by decide) (fun h176 => ?_) (fun h176 => absurd (by rw [bI_0]; exact hg) h176)
                    exact dn
              refine V_iload_n C dX7_cutAll_17 rfl ?_
              refine V_aload_n C dX7_cutAll_18 rfl ?_
              refine V_getI C fl_X7_197 (ob_K hM) rfl dX7_cutAll_19 ?_
              refine V_icmp_ge C 279 dX7_cutAll_22 (by decide) (fun h22 => absurd h22 (by rw [h6]; exact nI_ge hlt (by omega))) (fun h22 => ?_)
              refine V_aload_n C dX7_cutAll_25 rfl ?_
              refine V_getR C fl_X7_14 (ob_K hM) (ob_R hM 1 1002 rfl rfl) rfl dX7_cutAll_26 ?_
              refine V_iload_n C dX7_cutAll_29 rfl ?_
              refine V_iald C (k) (ob_A hM 1 1002 rfl rfl) (by first | rfl | (simp only [nI_add, pk_mul]; done) | (simp only [nI_add, pk_mul]; congr 1; omega)) (by rw [ob_N hM 1 1002 rfl rfl]; omega) (by rw [ob_N hM 1 1002 rfl rfl]; decide) dX7_cutAll_30 ?_
              rw [e02 k hlt]
              refine V_istore_n C dX7_cutAll_31 (hn _ (by decide)) ?_
              refine V_iload_n C dX7_cutAll_32 rfl ?_
              refine V_bipush C (v := nI 10) dX7_cutAll_33 (by decide +kernel) ?_
              refine V_icmp_eq C 44 dX7_cutAll_35 (by decide) (fun h35 => absurd h35 (fun q => hb (Or.inl q))) (fun h35 => ?_)
              refine V_iload_n C dX7_cutAll_38 rfl ?_
              refine V_bipush C (v := nI 32) dX7_cutAll_39 (by decide +kernel) ?_
              refine V_icmp_ne C 50 dX7_cutAll_41 (by decide) (fun h41 => ?_) (fun h41 => absurd h41 (fun q => hb (Or.inr q)))
              refine V_iload_n C dX7_cutAll_50 rfl ?_
              refine V_istore C dX7_cutAll_51 (hn _ (by decide)) ?_
              refine V_lconst C (v := 0) dX7_cutAll_53 (by decide +kernel) ?_
              refine V_lstore C dX7_cutAll_54 (hn _ (by decide)) ?_
              refine V_aload_n C dX7_cutAll_56 rfl ?_
              refine V_getR C fl_X7_27 (ob_K hM) (ob_R hM 5 1006 rfl rfl) rfl dX7_cutAll_57 ?_
              refine V_iload_n C dX7_cutAll_60 rfl ?_
              refine V_iload_n C dX7_cutAll_61 rfl ?_
              refine V_iast C (Pr.length) (ob_A hM 5 1006 rfl rfl) (by first | rfl | (simp only [nI_add, pk_mul]; done) | (simp only [nI_add, pk_mul]; congr 1; omega)) (by rw [ob_N hM 5 1006 rfl rfl]; omega) (by rw [ob_N hM 5 1006 rfl rfl]; decide) dX7_cutAll_62 ?_
              rw [← hI1]
              refine V_iload_n C dX7_cutAll_63 rfl ?_
              refine V_callS (F := fun _ => True) C (m_isLetter _) ms_X7_isLetter ml_X7_193 rfl (by decide) (by decide) (Nat.le_of_ble_eq_true rfl) (fun _ _ => trivial) (fun v _ => clo_T v) rfl dX7_cutAll_64 ?_
              rintro v S' I' J' ⟨hS, rfl, hI, hJ⟩
              obtain rfl := hS.symm
              obtain rfl := hI.symm
              obtain rfl := hJ.symm
              refine V_if_eq C 152 dX7_cutAll_67 (by decide) (fun h67 => ?_) (fun h67 => absurd (by rw [bI_0]; exact hL) h67)
              refine V_iload_n C dX7_cutAll_152 rfl ?_
              refine V_callS (F := fun _ => True) C (m_isDigit _) ms_X7_isDigit ml_X7_206 rfl (by decide) (by decide) (Nat.le_of_ble_eq_true rfl) (fun _ _ => trivial) (fun v _ => clo_T v) rfl dX7_cutAll_153 ?_
              rintro v S' I' J' ⟨hS, rfl, hI, hJ⟩
              obtain rfl := hS.symm
              obtain rfl := hI.symm
              obtain rfl := hJ.symm
              refine V_if_eq C 240 dX7_cutAll_156 (by decide) (fun h156 => absurd h156 (by rw [bI_0]; exact fun q => q hDg)) (fun h156 => ?_)
              exact inner (n - k) k _ _ (by omega) (Nat.le_refl _) rfl rfl
            · have ex : x = (if isSg (t k) then 3 else 4, k, (t k).toInt64, k + 1) := by rw [hx, tok1, if_neg hL, if_neg hDg]
              have nx := fun s h x3 x4 => fin2 s (t k).toInt64 x3 x4 h (by rw [ex])
              have e2 : x.2.2.2 = k + 1 := by rw [ex]
              rw [e2] at nx
              have ev : (if bI (isSg (t k)) = 0 then nI 4 else nI 3) = nI x.1 := by
                rw [ex]
                dsimp only
                by_cases g : isSg (t k)
                · rw [if_pos g, if_neg (by rw [bI_0]; exact fun q => q g)]
                · rw [if_neg g, if_pos (bI_0.mpr g)]
              refine V_iload_n C dX7_cutAll_17 rfl ?_
              refine V_aload_n C dX7_cutAll_18 rfl ?_
              refine V_getI C fl_X7_197 (ob_K hM) rfl dX7_cutAll_19 ?_
              refine V_icmp_ge C 279 dX7_cutAll_22 (by decide) (fun h22 => absurd h22 (by rw [h6]; exact nI_ge hlt (by omega))) (fun h22 => ?_)
              refine V_aload_n C dX7_cutAll_25 rfl ?_
              refine V_getR C fl_X7_14 (ob_K hM) (ob_R hM 1 1002 rfl rfl) rfl dX7_cutAll_26 ?_
              refine V_iload_n C dX7_cutAll_29 rfl ?_
              refine V_iald C (k) (ob_A hM 1 1002 rfl rfl) (by first | rfl | (simp only [nI_add, pk_mul]; done) | (simp only [nI_add, pk_mul]; congr 1; omega)) (by rw [ob_N hM 1 1002 rfl rfl]; omega) (by rw [ob_N hM 1 1002 rfl rfl]; decide) dX7_cutAll_30 ?_
              rw [e02 k hlt]
              refine V_istore_n C dX7_cutAll_31 (hn _ (by decide)) ?_
              refine V_iload_n C dX7_cutAll_32 rfl ?_
              refine V_bipush C (v := nI 10) dX7_cutAll_33 (by decide +kernel) ?_
              refine V_icmp_eq C 44 dX7_cutAll_35 (by decide) (fun h35 => absurd h35 (fun q => hb (Or.inl q))) (fun h35 => ?_)
              refine V_iload_n C dX7_cutAll_38 rfl ?_
              refine V_bipush C (v := nI 32) dX7_cutAll_39 (by decide +kernel) ?_
              refine V_icmp_ne C 50 dX7_cutAll_41 (by decide) (fun h41 => ?_) (fun h41 => absurd h41 (fun q => hb (Or.inr q)))
              refine V_iload_n C dX7_cutAll_50 rfl ?_
              refine V_istore C dX7_cutAll_51 (hn _ (by decide)) ?_
              refine V_lconst C (v := 0) dX7_cutAll_53 (by decide +kernel) ?_
              refine V_lstore C dX7_cutAll_54 (hn _ (by decide)) ?_
              refine V_aload_n C dX7_cutAll_56 rfl ?_
              refine V_getR C fl_X7_27 (ob_K hM) (ob_R hM 5 1006 rfl rfl) rfl dX7_cutAll_57 ?_
              refine V_iload_n C dX7_cutAll_60 rfl ?_
              refine V_iload_n C dX7_cutAll_61 rfl ?_
              refine V_iast C (Pr.length) (ob_A hM 5 1006 rfl rfl) (by first | rfl | (simp only [nI_add, pk_mul]; done) | (simp only [nI_add, pk_mul]; congr 1; omega)) (by rw [ob_N hM 5 1006 rfl rfl]; omega) (by rw [ob_N hM 5 1006 rfl rfl]; decide) dX7_cutAll_62 ?_
              rw [← hI1]
              refine V_iload_n C dX7_cutAll_63 rfl ?_
              refine V_callS (F := fun _ => True) C (m_isLetter _) ms_X7_isLetter ml_X7_193 rfl (by decide) (by decide) (Nat.le_of_ble_eq_true rfl) (fun _ _ => trivial) (fun v _ => clo_T v) rfl dX7_cutAll_64 ?_
              rintro v S' I' J' ⟨hS, rfl, hI, hJ⟩
              obtain rfl := hS.symm
              obtain rfl := hI.symm
              obtain rfl := hJ.symm
              refine V_if_eq C 152 dX7_cutAll_67 (by decide) (fun h67 => ?_) (fun h67 => absurd (by rw [bI_0]; exact hL) h67)
              refine V_iload_n C dX7_cutAll_152 rfl ?_
              refine V_callS (F := fun _ => True) C (m_isDigit _) ms_X7_isDigit ml_X7_206 rfl (by decide) (by decide) (Nat.le_of_ble_eq_true rfl) (fun _ _ => trivial) (fun v _ => clo_T v) rfl dX7_cutAll_153 ?_
              rintro v S' I' J' ⟨hS, rfl, hI, hJ⟩
              obtain rfl := hS.symm
              obtain rfl := hI.symm
              obtain rfl := hJ.symm
              refine V_if_eq C 240 dX7_cutAll_156 (by decide) (fun h156 => ?_) (fun h156 => absurd (by rw [bI_0]; exact hDg) h156)
              refine V_iload_n C dX7_cutAll_240 rfl ?_
              refine V_i2l C dX7_cutAll_241 ?_
              refine V_lstore C dX7_cutAll_242 (hn _ (by decide)) ?_
              refine V_aload_n C dX7_cutAll_244 rfl ?_
              refine V_getR C fl_X7_24 (ob_K hM) (ob_R hM 4 1005 rfl rfl) rfl dX7_cutAll_245 ?_
              refine V_iload_n C dX7_cutAll_248 rfl ?_
              refine V_iload_n C dX7_cutAll_249 rfl ?_
              refine V_callS (F := fun _ => True) C (m_isSignOf _) ms_X7_isSignOf ml_X7_213 rfl (by decide) (by decide) (Nat.le_of_ble_eq_true rfl) (fun _ _ => trivial) (fun v _ => clo_T v) rfl dX7_cutAll_250 ?_
              rintro v S' I' J' ⟨hS, rfl, hI, hJ⟩
              obtain rfl := hS.symm
              obtain rfl := hI.symm
              obtain rfl := hJ.symm
              refine V_tern_if_eq (vt := nI 4) (vf := nI 3) (pm := 261) C 260 dX7_cutAll_253 (by decide) (fun h253 k => ?_) (fun h253 k => ?_) ?_
              · refine V_iconst C (v := nI 4) dX7_cutAll_260 (by decide +kernel) ?_
                exact k
              · refine V_iconst C (v := nI 3) dX7_cutAll_256 (by decide +kernel) ?_
                refine V_goto C 261 dX7_cutAll_257 (by decide) ?_
                exact k
              refine V_iast C (Pr.length) (ob_A hM 4 1005 rfl rfl) (by first | rfl | (simp only [nI_add, pk_mul]; done) | (simp only [nI_add, pk_mul]; congr 1; omega)) (by rw [ob_N hM 4 1005 rfl rfl]; omega) (by rw [ob_N hM 4 1005 rfl rfl]; decide) dX7_cutAll_261 ?_
              refine V_iincU C dX7_cutAll_262 rfl (hn _ (by decide)) ?_
              exact nx _ ev _ _
  obtain ⟨t1, t2⟩ := hT
  rw [← en] at t1
  refine V_aload_n C dX7_cutAll_0 rfl ?_
  refine V_aload_n C dX7_cutAll_1 rfl ?_
  refine V_getI C fl_X7_11 (ob_K hM) rfl dX7_cutAll_2 ?_
  refine V_putI C fl_X7_197 (ob_K hM) rfl rfl dX7_cutAll_5 ?_
  refine V_aload_n C dX7_cutAll_8 rfl ?_
  refine V_iconst C (v := nI 0) dX7_cutAll_9 (by decide +kernel) ?_
  refine V_putI C fl_X7_11 (ob_K hM) rfl rfl dX7_cutAll_10 ?_
  refine V_iconst C (v := nI 0) dX7_cutAll_13 (by decide +kernel) ?_
  refine V_istore_n C dX7_cutAll_14 (hn _ (by decide)) ?_
  refine V_iconst C (v := nI 0) dX7_cutAll_15 (by decide +kernel) ?_
  refine V_istore_n C dX7_cutAll_16 (hn _ (by decide)) ?_
  exact loop n 0 [] _ _ _ _ _ (by omega) (by omega) (Nat.le_refl _) rfl (fun i hi => absurd hi (Nat.not_lt_zero _)) (by rw [o_ne (by decide), o_at]; exact t1) o_at ⟨fun c g1 g2 g3 g4 => by rw [o_ne g1, o_ne g2], fun a g1 _ _ => by rw [up2_ne _ _ _ g1, up2_ne _ _ _ g1], fun _ _ => rfl⟩
end M24
