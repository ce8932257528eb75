/-! the class's laws under way: a law more -/
section C37
variable {l : Launch} {S : HS} {I I' I2 : HI} {J : HJ} {la : Nat} {T : List Int32}
/-- the last law of a kind -/
def lsA (k : Nat) : Nat → Int32 → List Law → Int32
  | _, acc, [] => acc
  | i, acc, w :: L => lsA k (i + 1) (if w.1 = k then nI i else acc) L
theorem lsA_app {k : Nat} {w : Law} : ∀ (L : List Law) (i : Nat) (acc : Int32), lsA k i acc (L ++ [w]) = if w.1 = k then nI (i + L.length) else lsA k i acc L := by
  intro L
  induction L with
  | nil => intro i acc; rfl
  | cons x L ih =>
    intro i acc
    show lsA k (i + 1) _ (L ++ [w]) = _
    rw [ih, List.length_cons, show i + 1 + L.length = i + (L.length + 1) by omega]
    rfl
theorem nxI_app {c : Nat} {w : Law} : ∀ (L : List Law) (i : Nat), i + L.length < 100 → nxI c i (L ++ [w]) = if nxI c i L = -1 then (if w.1 = c then nI (i + L.length) else -1) else nxI c i L := by
  intro L
  induction L with
  | nil => intro i _; rfl
  | cons x L ih =>
    intro i h
    rw [List.length_cons] at h
    show (if x.1 = c then nI i else nxI c (i + 1) (L ++ [w])) = if (if x.1 = c then nI i else nxI c (i + 1) L) = -1 then _ else (if x.1 = c then nI i else nxI c (i + 1) L)
    by_cases g : x.1 = c
    · rw [if_pos g, if_pos g, if_neg (fun q => absurd (show nI i < 0 by rw [q]; decide) (nI_pos (by omega)))]
    · rw [if_neg g, if_neg g, ih (i + 1) (by omega), List.length_cons, show i + 1 + L.length = i + (L.length + 1) by omega]
theorem lsA_n {k : Nat} : ∀ (L : List Law) (i : Nat) (acc : Int32), i + L.length < 100 → (nxI k i L = -1 ∧ lsA k i acc L = acc) ∨ (¬ nxI k i L = -1 ∧ ∃ y, i ≤ y ∧ y < i + L.length ∧ lsA k i acc L = nI y) := by
  intro L
  induction L with
  | nil => intro i acc _; exact Or.inl ⟨rfl, rfl⟩
  | cons x L ih =>
    intro i acc h
    rw [List.length_cons] at h
    have hr := ih (i + 1) (if x.1 = k then nI i else acc) (by omega)
    show ((if x.1 = k then nI i else nxI k (i + 1) L) = -1 ∧ lsA k (i + 1) (if x.1 = k then nI i else acc) L = acc) ∨ (¬ (if x.1 = k then nI i else nxI k (i + 1) L) = -1 ∧ ∃ y, i ≤ y ∧ y < i + (x :: L).length ∧ lsA k (i + 1) (if x.1 = k then nI i else acc) L = nI y)
    rw [List.length_cons]
    by_cases g : x.1 = k
    · rw [if_pos g] at hr ⊢
      rw [if_pos g]
      refine Or.inr ⟨fun q => absurd (show nI i < 0 by rw [q]; decide) (nI_pos (by omega)), ?_⟩
      rcases hr with ⟨-, h2⟩ | ⟨-, y, y1, y2, y3⟩
      · exact ⟨i, Nat.le_refl _, by omega, h2⟩
      · exact ⟨y, by omega, by omega, y3⟩
    · rw [if_neg g] at hr ⊢
      rw [if_neg g]
      rcases hr with ⟨h1, h2⟩ | ⟨h1, y, y1, y2, y3⟩
      · exact Or.inl ⟨h1, h2⟩
      · exact Or.inr ⟨h1, y, by omega, by omega, y3⟩
theorem cdN_app {w : Law} : ∀ (L : List Law), cdN (L ++ [w]) = cdN L + w.2.2.2.2.length := by
  intro L
  induction L with
  | nil => show w.2.2.2.2.length + 0 = 0 + _; omega
  | cons x L ih => show x.2.2.2.2.length + cdN (L ++ [w]) = x.2.2.2.2.length + cdN L + _; rw [ih]; omega
/-- a law more behind the last -/
theorem cLaws_app {k n : Nat} {w : Law} (hk : w.1 = k) : ∀ (L : List Law) (i p : Nat) (acc : Int32), n = i + L.length → n < 100 → (acc = -1 ∨ ∃ y, y < i ∧ acc = nI y) → cLaws I la i p L → (∀ x, x < n → I' (la + 4) x = I (la + 4) x ∧ I' (la + 5) x = I (la + 5) x ∧ I' (la + 6) x = I (la + 6) x) → (∀ x, x < n + 1 → 0 < n → I' (la + 7) x = I (la + 7) x) → (∀ x, x < p + cdN L → I' (la + 11) x = I (la + 11) x) → (∀ x, i ≤ x → x < n → I' (la + 8) x = if lsA k i acc L = nI x then nI n else I (la + 8) x) → cLaw I' la n (p + cdN L) w → I' (la + 8) n = -1 → cLaws I' la i p (L ++ [w]) := by
  intro L
  induction L with
  | nil =>
    intro i p acc hn _ _ _ _ _ _ _ hw h8
    have hn : n = i := hn
    subst hn
    exact ⟨hw, h8, trivial⟩
  | cons x L ih =>
    intro i p acc hn hn100 hacc hc r456 r7 r11 r8 hw h8
    rw [List.length_cons] at hn
    obtain ⟨⟨c1, c2, c3, c4, c5, c6⟩, c7, c8⟩ := hc
    have ecd : p + cdN (x :: L) = p + x.2.2.2.2.length + cdN L := by show p + (x.2.2.2.2.length + cdN L) = _; omega
    rw [ecd] at hw r11
    have el : lsA k i acc (x :: L) = lsA k (i + 1) (if x.1 = k then nI i else acc) L := rfl
    rw [el] at r8
    obtain ⟨g4, g5, g6⟩ := r456 i (by omega)
    have hacc' : (if x.1 = k then nI i else acc) = -1 ∨ ∃ y, y < i + 1 ∧ (if x.1 = k then nI i else acc) = nI y := by
      by_cases g : x.1 = k
      · rw [if_pos g]; exact Or.inr ⟨i, by omega, rfl⟩
      · rw [if_neg g]
        rcases hacc with h | ⟨y, y1, y2⟩
        · exact Or.inl h
        · exact Or.inr ⟨y, by omega, y2⟩
    refine ⟨⟨g4.trans c1, g5.trans c2, g6.trans c3, (r7 i (by omega) (by omega)).trans c4, (r7 (i + 1) (by omega) (by omega)).trans c5, cxC_kp _ _ (fun j _ j2 => r11 j (by omega)) c6⟩, ?_, ih (i + 1) (p + x.2.2.2.2.length) _ (by omega) hn100 hacc' c8 r456 r7 r11 (fun y y1 y2 => r8 y (by omega) y2) hw h8⟩
    rw [r8 i (Nat.le_refl _) (by omega), c7]
    show _ = nxI x.1 (i + 1) (L ++ [w])
    rw [nxI_app L (i + 1) (by omega), hk]
    have hls := lsA_n (k := k) L (i + 1) (if x.1 = k then nI i else acc) (by omega)
    by_cases g : x.1 = k
    · rw [if_pos g] at hls ⊢
      rw [g]
      rcases hls with ⟨h1, h2⟩ | ⟨h1, y, y1, y2, y3⟩
      · rw [h2, if_pos rfl, if_pos h1, if_pos rfl]; congr 1; omega
      · rw [y3, if_neg (fun q => by have := (nI_eq (by omega) (by omega)).mp q; omega), if_neg h1]
    · rw [if_neg g] at hls ⊢
      have hne : ¬ lsA k (i + 1) acc L = nI i := by
        rcases hls with ⟨-, h2⟩ | ⟨-, y, y1, y2, y3⟩
        · rw [h2]
          rcases hacc with h | ⟨y, y1, y2⟩
          · rw [h]; exact fun q => absurd (show nI i < 0 by rw [← q]; decide) (nI_pos (by omega))
          · rw [y2]; exact fun q => by have := (nI_eq (by omega) (by omega)).mp q; omega
        · rw [y3]; exact fun q => by have := (nI_eq (by omega) (by omega)).mp q; omega
      rw [if_neg hne]
      by_cases h1 : nxI x.1 (i + 1) L = -1
      · rw [if_pos h1, if_neg (fun q => g q.symm), h1]
      · rw [if_neg h1]
theorem nxI_kd {c k : Nat} {lo hi : Int32} {ob : Option Nat} {cs cs' : Cds} : ∀ (L : List Law) (i : Nat), nxI c i (L ++ [(k, lo, hi, ob, cs)]) = nxI c i (L ++ [(k, lo, hi, ob, cs')]) := by
  intro L
  induction L with
  | nil => intro i; rfl
  | cons x L ih => intro i; show (if x.1 = c then nI i else nxI c (i + 1) (L ++ _)) = if x.1 = c then nI i else nxI c (i + 1) (L ++ _); rw [ih]
/-- the codes of the last law come -/
theorem cLaws_set {n q : Nat} {k : Nat} {lo hi : Int32} {ob : Option Nat} {c : Cds} : ∀ (L : List Law) (i p : Nat), n = i + L.length → q = p + cdN L → cLaws I la i p (L ++ [(k, lo, hi, ob, [])]) → (∀ r, 4 ≤ r → r ≤ 8 → r ≠ 7 → I' (la + r) = I (la + r)) → (∀ x, x ≠ n + 1 → I' (la + 7) x = I (la + 7) x) → I' (la + 7) (n + 1) = nI (q + c.length) → (∀ x, x < q → I' (la + 11) x = I (la + 11) x) → cxC I' la c q → cLaws I' la i p (L ++ [(k, lo, hi, ob, c)]) := by
  intro L
  induction L with
  | nil =>
    intro i p hn hq hc r r7 r7' r11 hx
    have hn : n = i := hn
    have hq : q = p := hq
    subst hn
    subst hq
    obtain ⟨⟨c1, c2, c3, c4, c5, c6⟩, c7, c8⟩ := hc
    exact ⟨⟨by rw [r 4 (by decide) (by decide) (by decide)]; exact c1, by rw [r 5 (by decide) (by decide) (by decide)]; exact c2, by rw [r 6 (by decide) (by decide) (by decide)]; exact c3, (r7 n (by omega)).trans c4, r7', hx⟩, by rw [r 8 (by decide) (by decide) (by decide)]; exact c7, trivial⟩
  | cons x L ih =>
    intro i p hn hq hc r r7 r7' r11 hx
    rw [List.length_cons] at hn
    obtain ⟨⟨c1, c2, c3, c4, c5, c6⟩, c7, c8⟩ := hc
    have hq : q = p + (x.2.2.2.2.length + cdN L) := hq
    refine ⟨⟨by rw [r 4 (by decide) (by decide) (by decide)]; exact c1, by rw [r 5 (by decide) (by decide) (by decide)]; exact c2, by rw [r 6 (by decide) (by decide) (by decide)]; exact c3, (r7 i (by omega)).trans c4, (r7 (i + 1) (by omega)).trans c5, cxC_kp _ _ (fun j _ j2 => r11 j (by omega)) c6⟩, ?_, ih (i + 1) (p + x.2.2.2.2.length) (by omega) (by omega) c8 r r7 r7' r11 hx⟩
    rw [r 8 (by decide) (by decide) (by decide), c7]
    exact nxI_kd L (i + 1)
/-- laws under way -/
def BLw (I : HI) (la : Nat) (L : List Law) : Prop := (I la 0 = nI L.length ∧ I la 1 = nI (opN L) ∧ I la 2 = nI (cdN L) ∧ (0 < L.length → I (la + 7) L.length = nI (cdN L))) ∧ (∀ k, k < 9 → I (la + 9) k = nxI k 0 L ∧ I (la + 10) k = lsA k 0 (-1) L) ∧ cLaws I la 0 0 L
theorem BLw.app {k : Nat} {lo hi : Int32} {ob : Option Nat} {L : List Law} (h : BLw I la L) (h24 : L.length < 24) (hk : k < 9) (h0 : I' la 0 = nI (L.length + 1)) (h1 : I' la 1 = nI (opN L + obN ob)) (h2 : I' la 2 = nI (cdN L)) (r4 : I' (la + 4) = va_up (I (la + 4)) L.length lo) (r5 : I' (la + 5) = va_up (I (la + 5)) L.length hi) (r6 : I' (la + 6) = va_up (I (la + 6)) L.length (obV ob)) (r7 : ∀ x, x < L.length → I' (la + 7) x = I (la + 7) x) (r7a : I' (la + 7) L.length = nI (cdN L)) (r7b : I' (la + 7) (L.length + 1) = nI (cdN L)) (r8 : ∀ x, x < L.length → I' (la + 8) x = if lsA k 0 (-1) L = nI x then nI L.length else I (la + 8) x) (r8n : I' (la + 8) L.length = -1) (r9 : ∀ c, c < 9 → I' (la + 9) c = if c = k ∧ I (la + 9) k = -1 then nI L.length else I (la + 9) c) (r10 : ∀ c, c < 9 → I' (la + 10) c = if c = k then nI L.length else I (la + 10) c) (r11 : I' (la + 11) = I (la + 11)) : BLw I' la (L ++ [(k, lo, hi, ob, [])]) := by
  obtain ⟨⟨b0, b1, b2, b7⟩, b9, bc⟩ := h
  have hl : (L ++ [((k, lo, hi, ob, []) : Law)]).length = L.length + 1 := by rw [List.length_append]; rfl
  have hc : cdN (L ++ [((k, lo, hi, ob, []) : Law)]) = cdN L := by rw [cdN_app]; rfl
  refine ⟨⟨by rw [hl]; exact h0, by rw [opN_app]; exact h1, by rw [hc]; exact h2, fun _ => by rw [hl, hc]; exact r7b⟩, fun c hc9 => ⟨?_, ?_⟩, ?_⟩
  · rw [r9 c hc9, nxI_app L 0 (by omega), Nat.zero_add]
    show _ = if nxI c 0 L = -1 then (if k = c then nI L.length else -1) else nxI c 0 L
    rw [(b9 c hc9).1]
    by_cases e : c = k
    · subst e
      by_cases g : nxI c 0 L = -1
      · rw [if_pos ⟨rfl, (b9 c hc9).1.trans g⟩, if_pos g, if_pos rfl]
      · rw [if_neg (fun q => g ((b9 c hc9).1.symm.trans q.2)), if_neg g]
    · rw [if_neg (fun q => e q.1)]
      by_cases g : nxI c 0 L = -1
      · rw [if_pos g, if_neg (fun q => e q.symm), g]
      · rw [if_neg g]
  · rw [r10 c hc9, lsA_app, Nat.zero_add]
    show _ = if k = c then nI L.length else lsA c 0 (-1) L
    by_cases e : c = k
    · rw [if_pos e, if_pos e.symm]
    · rw [if_neg e, if_neg (fun q => e q.symm)]; exact (b9 c hc9).2
  · refine cLaws_app (I := I) (k := k) (n := L.length) rfl L 0 0 (-1) (by omega) (by omega) (Or.inl rfl) bc (fun x hx => ⟨by rw [r4, va_up_ne _ _ (by omega)], by rw [r5, va_up_ne _ _ (by omega)], by rw [r6, va_up_ne _ _ (by omega)]⟩) (fun x hx h0 => ?_) (fun x _ => by rw [r11]) (fun x _ hx => r8 x hx) ⟨by rw [r4, va_up_self], by rw [r5, va_up_self], by rw [r6, va_up_self], by rw [Nat.zero_add]; exact r7a, by rw [Nat.zero_add]; exact r7b, trivial⟩ r8n
    by_cases e : x = L.length
    · subst e; rw [r7a, b7 h0]
    · exact r7 x (by omega)
set_option maxRecDepth 100000 in
theorem c_isFullN (hL : Ob S 2 la) {n : Nat} (e0 : I la 0 = nI n) (h24 : n ≤ 24) : Mn l yX2_isFull cX2_isFull 1 (some .boolean) 0 [.ref la] S I J (fun v I' J' => v = some (.int (bI (n = 24))) ∧ I' = I ∧ J' = J) := by
  refine Mn.of (by decide) (fun ad => by simp [lg_sl, vv, Value.category]) (fun X P hP hn C => ?_)
  by_cases h : n = 24
  · refine V_aload_n C dX2_isFull_0 rfl ?_
    refine V_getI C fl_X2_42 (ob_K hL) rfl dX2_isFull_1 ?_
    refine V_bipush C (v := nI 24) dX2_isFull_4 (by decide +kernel) ?_
    refine V_icmp_lt C 13 dX2_isFull_6 (by decide) (fun h6 => absurd h6 (by rw [e0, h]; decide)) (fun h6 => ?_)
    refine V_iconst C (v := nI 1) dX2_isFull_9 (by decide +kernel) ?_
    refine V_goto C 14 dX2_isFull_10 (by decide) ?_
    exact V_zret C (by first | exact Or.inl rfl | exact Or.inr rfl | (simp only [bI]; split <;> first | exact Or.inl rfl | exact Or.inr rfl) | assumption) (Nat.zero_le _) (Nat.zero_le _) dX2_isFull_14 (hP _ _ _ ⟨by rw [bI_t h]; rfl, rfl, rfl⟩)
  · refine V_aload_n C dX2_isFull_0 rfl ?_
    refine V_getI C fl_X2_42 (ob_K hL) rfl dX2_isFull_1 ?_
    refine V_bipush C (v := nI 24) dX2_isFull_4 (by decide +kernel) ?_
    refine V_icmp_lt C 13 dX2_isFull_6 (by decide) (fun h6 => ?_) (fun h6 => absurd (by rw [e0]; exact nI_lt (by omega) (by omega)) h6)
    refine V_iconst C (v := nI 0) dX2_isFull_13 (by decide +kernel) ?_
    exact V_zret C (by first | exact Or.inl rfl | exact Or.inr rfl | (simp only [bI]; split <;> first | exact Or.inl rfl | exact Or.inr rfl) | assumption) (Nat.zero_le _) (Nat.zero_le _) dX2_isFull_14 (hP _ _ _ ⟨by rw [bI_f h]; rfl, rfl, rfl⟩)
theorem sh_1 : ∀ j, j < 4 → nI 1 <<< (nI j &&& 31) = nI (2 ^ j) := by decide +kernel
set_option maxRecDepth 100000 in
set_option maxHeartbeats 2000000 in
theorem c_addLaw (hL : Ob S 2 la) {L : List Law} (hB : BLw I la L) (h24 : L.length < 24) {k : Nat} (hk : k < 9) (lo hi : Int32) (hop : lo < hi → opN L < 4) : Mn l yX2_addLaw cX2_addLaw 4 none 1 [.ref la, .int (nI k), .int lo, .int hi] S I J (fun v I' J' => v = none ∧ BLw I' la (L ++ [(k, lo, hi, if lo < hi then some (opN L) else none, [])]) ∧ (∀ b, (b < la ∨ la + 10 < b) → I' b = I b) ∧ J' = J) := by
  refine Mn.of (by decide) (fun ad => by simp [lg_sl, vv, Value.category]) (fun X P hP hn C => ?_)
  obtain ⟨⟨b0, b1, b2, b7⟩, b9, bc⟩ := id hB
  obtain ⟨n, hn'⟩ : ∃ n, n = L.length := ⟨_, rfl⟩
  obtain ⟨q, hq⟩ : ∃ q, q = cdN L := ⟨_, rfl⟩
  obtain ⟨ob, hob⟩ : ∃ ob, ob = (if lo < hi then some (opN L) else none) := ⟨_, rfl⟩
  rw [← hob] at hP
  rw [← hn'] at b0 b7 h24
  rw [← hq] at b2 b7
  obtain ⟨k9, k10⟩ := b9 k hk
  have at67 : ∀ I4 : HI, (∀ b, b ≠ la → b ≠ la + 4 → b ≠ la + 5 → b ≠ la + 6 → I4 b = I b) → I4 la 0 = nI n → I4 la 1 = nI (opN L + obN ob) → I4 la 2 = nI q → I4 (la + 4) = va_up (I (la + 4)) n lo → I4 (la + 5) = va_up (I (la + 5)) n hi → I4 (la + 6) = va_up (I (la + 6)) n (obV ob) → V X P 0 0 67 [some (.ref la), some (.int (nI k)), some (.int lo), some (.int hi)] [] S I4 J := by
    intro I4 f e0 e1 e2 r4 r5 r6
    have g7 : I4 (la + 7) = I (la + 7) := f _ (by omega) (by omega) (by omega) (by omega)
    have g8 : I4 (la + 8) = I (la + 8) := f _ (by omega) (by omega) (by omega) (by omega)
    have g9 : I4 (la + 9) = I (la + 9) := f _ (by omega) (by omega) (by omega) (by omega)
    have g10 : I4 (la + 10) = I (la + 10) := f _ (by omega) (by omega) (by omega) (by omega)
    have g11 : I4 (la + 11) = I (la + 11) := f _ (by omega) (by omega) (by omega) (by omega)
    obtain ⟨I5, hI5⟩ : ∃ I5, I5 = up2 I4 (la + 7) n (nI q) := ⟨_, rfl⟩
    obtain ⟨I6, hI6⟩ : ∃ I6, I6 = up2 I5 (la + 8) n (-1) := ⟨_, rfl⟩
    have s5 : ∀ b, b ≠ la + 7 → I5 b = I4 b := fun b hb => by rw [hI5, up2_ne _ _ _ hb]
    have s6 : ∀ b, b ≠ la + 8 → I6 b = I5 b := fun b hb => by rw [hI6, up2_ne _ _ _ hb]
    have z5 : I5 la 0 = nI n := by rw [s5 la (by omega)]; exact e0
    have z6 : I6 la 0 = nI n := by rw [s6 la (by omega)]; exact z5
    have z69 : I6 (la + 9) = I (la + 9) := by rw [s6 _ (by omega), s5 _ (by omega), g9]
    have z610 : I6 (la + 10) = I (la + 10) := by rw [s6 _ (by omega), s5 _ (by omega), g10]
    have z68 : I6 (la + 8) = va_up (I (la + 8)) n (-1) := by rw [hI6, up2_row, s5 _ (by omega), g8]
    have z67 : I6 (la + 7) = va_up (I (la + 7)) n (nI q) := by rw [s6 _ (by omega), hI5, up2_row, g7]
    have z6b : ∀ b, b ≠ la + 7 → b ≠ la + 8 → I6 b = I4 b := fun b h1 h2 => by rw [s6 b h2, s5 b h1]
    have at128 : ∀ I7 : HI, (∀ b, b ≠ la + 8 → b ≠ la + 9 → I7 b = I6 b) → (∀ x, x < n → I7 (la + 8) x = if lsA k 0 (-1) L = nI x then nI n else I (la + 8) x) → I7 (la + 8) n = -1 → (∀ c, c < 9 → I7 (la + 9) c = if c = k ∧ I (la + 9) k = -1 then nI n else I (la + 9) c) → V X P 0 0 128 [some (.ref la), some (.int (nI k)), some (.int lo), some (.int hi)] [] S I7 J := by
      intro I7 f7 y8 y8n y9
      have w0 : I7 la 0 = nI n := by rw [f7 la (by omega) (by omega)]; exact z6
      obtain ⟨I8, hI8⟩ : ∃ I8, I8 = up2 I7 (la + 10) k (nI n) := ⟨_, rfl⟩
      obtain ⟨I9, hI9⟩ : ∃ I9, I9 = up2 I8 la 0 (nI (n + 1)) := ⟨_, rfl⟩
      obtain ⟨I10, hI10⟩ : ∃ I10, I10 = up2 I9 (la + 7) (n + 1) (nI q) := ⟨_, rfl⟩
      have s8 : ∀ b, b ≠ la + 10 → I8 b = I7 b := fun b hb => by rw [hI8, up2_ne _ _ _ hb]
      have s9 : ∀ b, b ≠ la → I9 b = I8 b := fun b hb => by rw [hI9, up2_ne _ _ _ hb]
      have s10 : ∀ b, b ≠ la + 7 → I10 b = I9 b := fun b hb => by rw [hI10, up2_ne _ _ _ hb]
      have e8 : I8 la 0 + nI 1 = nI (n + 1) := by rw [s8 la (by omega), w0, nI_add]
      have e90 : I9 la 0 = nI (n + 1) := by rw [hI9, up2_row, va_up_self]
      have l7 : ∀ x, I7 la x = I4 la x := fun x => by rw [f7 la (by omega) (by omega), z6b la (by omega) (by omega)]
      have e92 : I9 la 2 = nI q := by rw [hI9, up2_row, va_up_ne _ _ (by decide), s8 la (by omega), l7]; exact e2
      have e91 : I9 la 1 = nI (opN L + obN ob) := by rw [hI9, up2_row, va_up_ne _ _ (by decide), s8 la (by omega), l7]; exact e1
      have row : ∀ b, b ≠ la → b ≠ la + 7 → b ≠ la + 8 → b ≠ la + 9 → b ≠ la + 10 → I10 b = I4 b := fun b h1 h2 h3 h4 h5 => by rw [s10 b h2, s9 b h1, s8 b h5, f7 b h3 h4, z6b b h2 h3]
      have r7 : I10 (la + 7) = va_up (va_up (I (la + 7)) n (nI q)) (n + 1) (nI q) := by rw [hI10, up2_row, s9 _ (by omega), s8 _ (by omega), f7 _ (by omega) (by omega), z67]
      have fin : BLw I10 la (L ++ [(k, lo, hi, ob, [])]) := by
        refine BLw.app hB (by omega) hk (by rw [s10 la (by omega), ← hn']; exact e90) (by rw [s10 la (by omega)]; exact e91) (by rw [s10 la (by omega), ← hq]; exact e92) ?_ ?_ ?_ (fun x hx => ?_) ?_ ?_ (fun x hx => ?_) ?_ (fun c hc => ?_) (fun c hc => ?_) ?_
        · rw [row _ (by omega) (by omega) (by omega) (by omega) (by omega), r4, hn']
        · rw [row _ (by omega) (by omega) (by omega) (by omega) (by omega), r5, hn']
        · rw [row _ (by omega) (by omega) (by omega) (by omega) (by omega), r6, hn']
        · rw [r7, va_up_ne _ _ (by omega), va_up_ne _ _ (by omega)]
        · rw [r7, ← hn', va_up_ne _ _ (by omega), va_up_self, hq]
        · rw [r7, ← hn', va_up_self, hq]
        · rw [s10 _ (by omega), s9 _ (by omega), s8 _ (by omega), y8 x (by omega), hn']
        · rw [s10 _ (by omega), s9 _ (by omega), s8 _ (by omega), ← hn']; exact y8n
        · rw [s10 _ (by omega), s9 _ (by omega), s8 _ (by omega), y9 c hc, hn']
        · rw [s10 _ (by omega), s9 _ (by omega), hI8, up2_row, f7 _ (by omega) (by omega), z610, ← hn']
          by_cases e : c = k
          · rw [if_pos e, e, va_up_self]
          · rw [if_neg e, va_up_ne _ _ e]
        · rw [row _ (by omega) (by omega) (by omega) (by omega) (by omega), g11]
      have frm : ∀ b, (b < la ∨ la + 10 < b) → I10 b = I b := fun b hb => by rw [row b (by omega) (by omega) (by omega) (by omega) (by omega)]; exact f b (by omega) (by omega) (by omega) (by omega)
      refine V_aload_n C dX2_addLaw_128 rfl ?_
      refine V_getR C fl_X2_30 (ob_K hL) (ob_R hL 9 (la + 10) rfl rfl) rfl dX2_addLaw_129 ?_
      refine V_iload_n C dX2_addLaw_132 rfl ?_
      refine V_aload_n C dX2_addLaw_133 rfl ?_
      refine V_getI C fl_X2_42 (ob_K hL) rfl dX2_addLaw_134 ?_
      rw [w0]
      refine V_iast C (k) (ob_A hL 9 (la + 10) rfl rfl) (by first | rfl | (simp only [nI_add, pk_mul]; done) | (simp only [nI_add, pk_mul]; congr 1; omega)) (by rw [ob_N hL 9 (la + 10) rfl rfl]; omega) (by rw [ob_N hL 9 (la + 10) rfl rfl]; decide) dX2_addLaw_137 ?_
      rw [← hI8]
      refine V_aload_n C dX2_addLaw_138 rfl ?_
      refine V_dup C dX2_addLaw_139 rfl ?_
      refine V_getI C fl_X2_42 (ob_K hL) rfl dX2_addLaw_140 ?_
      refine V_iconst C (v := nI 1) dX2_addLaw_143 (by decide +kernel) ?_
      refine V_iadd C dX2_addLaw_144 ?_
      rw [e8]
      refine V_putI C fl_X2_42 (ob_K hL) rfl rfl dX2_addLaw_145 ?_
      rw [← hI9]
      refine V_aload_n C dX2_addLaw_148 rfl ?_
      refine V_getR C fl_X2_21 (ob_K hL) (ob_R hL 6 (la + 7) rfl rfl) rfl dX2_addLaw_149 ?_
      refine V_aload_n C dX2_addLaw_152 rfl ?_
      refine V_getI C fl_X2_42 (ob_K hL) rfl dX2_addLaw_153 ?_
      refine V_aload_n C dX2_addLaw_156 rfl ?_
      refine V_getI C fl_X2_49 (ob_K hL) rfl dX2_addLaw_157 ?_
      rw [e92]
      refine V_iast C (n + 1) (ob_A hL 6 (la + 7) rfl rfl) e90 (by rw [ob_N hL 6 (la + 7) rfl rfl]; omega) (by rw [ob_N hL 6 (la + 7) rfl rfl]; decide) dX2_addLaw_160 ?_
      rw [← hI10]
      exact V_vret C (Nat.zero_le _) (Nat.zero_le _) dX2_addLaw_161 (hP _ _ _ ⟨rfl, fin, frm, rfl⟩)
    by_cases hf : I (la + 9) k = -1
    · have hls : lsA k 0 (-1) L = -1 := by
        rcases lsA_n (k := k) L 0 (-1) (by omega) with ⟨-, h⟩ | ⟨h, -⟩
        · exact h
        · exact absurd (k9.symm.trans hf) h
      have st := at128 (up2 I6 (la + 9) k (nI n)) (fun b h1 h2 => up2_ne _ _ _ h2) (fun x hx => by rw [up2_ne _ _ _ (by omega), z68, va_up_ne _ _ (by omega), hls, if_neg (fun q => absurd (show nI x < 0 by rw [← q]; decide) (nI_pos (by omega)))]) (by rw [up2_ne _ _ _ (by omega), z68, va_up_self]) (fun c hc => by
        rw [up2_row, z69]
        by_cases e : c = k
        · rw [if_pos ⟨e, hf⟩, e, va_up_self]
        · rw [if_neg (fun q => e q.1), va_up_ne _ _ e])
      have z69k : I6 (la + 9) k = -1 := by rw [z69]; exact hf
      refine V_aload_n C dX2_addLaw_67 rfl ?_
      refine V_getR C fl_X2_21 (ob_K hL) (ob_R hL 6 (la + 7) rfl rfl) rfl dX2_addLaw_68 ?_
      refine V_aload_n C dX2_addLaw_71 rfl ?_
      refine V_getI C fl_X2_42 (ob_K hL) rfl dX2_addLaw_72 ?_
      refine V_aload_n C dX2_addLaw_75 rfl ?_
      refine V_getI C fl_X2_49 (ob_K hL) rfl dX2_addLaw_76 ?_
      rw [e2]
      refine V_iast C (n) (ob_A hL 6 (la + 7) rfl rfl) e0 (by rw [ob_N hL 6 (la + 7) rfl rfl]; omega) (by rw [ob_N hL 6 (la + 7) rfl rfl]; decide) dX2_addLaw_79 ?_
      rw [← hI5]
      refine V_aload_n C dX2_addLaw_80 rfl ?_
      refine V_getR C fl_X2_24 (ob_K hL) (ob_R hL 7 (la + 8) rfl rfl) rfl dX2_addLaw_81 ?_
      refine V_aload_n C dX2_addLaw_84 rfl ?_
      refine V_getI C fl_X2_42 (ob_K hL) rfl dX2_addLaw_85 ?_
      refine V_iconst C (v := (-1)) dX2_addLaw_88 (by decide +kernel) ?_
      refine V_iast C (n) (ob_A hL 7 (la + 8) rfl rfl) z5 (by rw [ob_N hL 7 (la + 8) rfl rfl]; omega) (by rw [ob_N hL 7 (la + 8) rfl rfl]; decide) dX2_addLaw_89 ?_
      rw [← hI6]
      refine V_aload_n C dX2_addLaw_90 rfl ?_
      refine V_getR C fl_X2_27 (ob_K hL) (ob_R hL 8 (la + 9) rfl rfl) rfl dX2_addLaw_91 ?_
      refine V_iload_n C dX2_addLaw_94 rfl ?_
      refine V_iald C (k) (ob_A hL 8 (la + 9) rfl rfl) (by first | rfl | (simp only [nI_add, pk_mul]; done) | (simp only [nI_add, pk_mul]; congr 1; omega)) (by rw [ob_N hL 8 (la + 9) rfl rfl]; omega) (by rw [ob_N hL 8 (la + 9) rfl rfl]; decide) dX2_addLaw_95 ?_
      refine V_iconst C (v := (-1)) dX2_addLaw_96 (by decide +kernel) ?_
      refine V_icmp_ne C 113 dX2_addLaw_97 (by decide) (fun h97 => absurd (z69k) h97) (fun h97 => ?_)
      refine V_aload_n C dX2_addLaw_100 rfl ?_
      refine V_getR C fl_X2_27 (ob_K hL) (ob_R hL 8 (la + 9) rfl rfl) rfl dX2_addLaw_101 ?_
      refine V_iload_n C dX2_addLaw_104 rfl ?_
      refine V_aload_n C dX2_addLaw_105 rfl ?_
      refine V_getI C fl_X2_42 (ob_K hL) rfl dX2_addLaw_106 ?_
      rw [z6]
      refine V_iast C (k) (ob_A hL 8 (la + 9) rfl rfl) (by first | rfl | (simp only [nI_add, pk_mul]; done) | (simp only [nI_add, pk_mul]; congr 1; omega)) (by rw [ob_N hL 8 (la + 9) rfl rfl]; omega) (by rw [ob_N hL 8 (la + 9) rfl rfl]; decide) dX2_addLaw_109 ?_
      refine V_goto C 128 dX2_addLaw_110 (by decide) ?_
      exact st
    · obtain ⟨j, hj, ej⟩ : ∃ j, j < n ∧ lsA k 0 (-1) L = nI j := by
        rcases lsA_n (k := k) L 0 (-1) (by omega) with ⟨h, -⟩ | ⟨-, y, -, y2, y3⟩
        · exact absurd (k9.trans h) hf
        · exact ⟨y, by omega, y3⟩
      have z610k : I6 (la + 10) k = nI j := by rw [z610, k10, ej]
      have st := at128 (up2 I6 (la + 8) j (nI n)) (fun b h1 h2 => up2_ne _ _ _ h1) (fun x hx => by
        rw [up2_row, z68, ej]
        by_cases e : x = j
        · rw [e, va_up_self, if_pos rfl]
        · rw [va_up_ne _ _ e, va_up_ne _ _ (by omega), if_neg (fun q => e ((nI_eq (by omega) (by omega)).mp q).symm)]) (by rw [up2_row, va_up_ne _ _ (by omega), z68, va_up_self]) (fun c hc => by
        rw [up2_ne _ _ _ (by omega), z69, if_neg (fun q => hf q.2)])
      have z69k : ¬ I6 (la + 9) k = -1 := by rw [z69]; exact hf
      refine V_aload_n C dX2_addLaw_67 rfl ?_
      refine V_getR C fl_X2_21 (ob_K hL) (ob_R hL 6 (la + 7) rfl rfl) rfl dX2_addLaw_68 ?_
      refine V_aload_n C dX2_addLaw_71 rfl ?_
      refine V_getI C fl_X2_42 (ob_K hL) rfl dX2_addLaw_72 ?_
      refine V_aload_n C dX2_addLaw_75 rfl ?_
      refine V_getI C fl_X2_49 (ob_K hL) rfl dX2_addLaw_76 ?_
      rw [e2]
      refine V_iast C (n) (ob_A hL 6 (la + 7) rfl rfl) e0 (by rw [ob_N hL 6 (la + 7) rfl rfl]; omega) (by rw [ob_N hL 6 (la + 7) rfl rfl]; decide) dX2_addLaw_79 ?_
      rw [← hI5]
      refine V_aload_n C dX2_addLaw_80 rfl ?_
      refine V_getR C fl_X2_24 (ob_K hL) (ob_R hL 7 (la + 8) rfl rfl) rfl dX2_addLaw_81 ?_
      refine V_aload_n C dX2_addLaw_84 rfl ?_
      refine V_getI C fl_X2_42 (ob_K hL) rfl dX2_addLaw_85 ?_
      refine V_iconst C (v := (-1)) dX2_addLaw_88 (by decide +kernel) ?_
      refine V_iast C (n) (ob_A hL 7 (la + 8) rfl rfl) z5 (by rw [ob_N hL 7 (la + 8) rfl rfl]; omega) (by rw [ob_N hL 7 (la + 8) rfl rfl]; decide) dX2_addLaw_89 ?_
      rw [← hI6]
      refine V_aload_n C dX2_addLaw_90 rfl ?_
      refine V_getR C fl_X2_27 (ob_K hL) (ob_R hL 8 (la + 9) rfl rfl) rfl dX2_addLaw_91 ?_
      refine V_iload_n C dX2_addLaw_94 rfl ?_
      refine V_iald C (k) (ob_A hL 8 (la + 9) rfl rfl) (by first | rfl | (simp only [nI_add, pk_mul]; done) | (simp only [nI_add, pk_mul]; congr 1; omega)) (by rw [ob_N hL 8 (la + 9) rfl rfl]; omega) (by rw [ob_N hL 8 (la + 9) rfl rfl]; decide) dX2_addLaw_95 ?_
      refine V_iconst C (v := (-1)) dX2_addLaw_96 (by decide +kernel) ?_
      refine V_icmp_ne C 113 dX2_addLaw_97 (by decide) (fun h97 => ?_) (fun h97 => absurd h97 (z69k))
      refine V_aload_n C dX2_addLaw_113 rfl ?_
      refine V_getR C fl_X2_24 (ob_K hL) (ob_R hL 7 (la + 8) rfl rfl) rfl dX2_addLaw_114 ?_
      refine V_aload_n C dX2_addLaw_117 rfl ?_
      refine V_getR C fl_X2_30 (ob_K hL) (ob_R hL 9 (la + 10) rfl rfl) rfl dX2_addLaw_118 ?_
      refine V_iload_n C dX2_addLaw_121 rfl ?_
      refine V_iald C (k) (ob_A hL 9 (la + 10) rfl rfl) (by first | rfl | (simp only [nI_add, pk_mul]; done) | (simp only [nI_add, pk_mul]; congr 1; omega)) (by rw [ob_N hL 9 (la + 10) rfl rfl]; omega) (by rw [ob_N hL 9 (la + 10) rfl rfl]; decide) dX2_addLaw_122 ?_
      refine V_aload_n C dX2_addLaw_123 rfl ?_
      refine V_getI C fl_X2_42 (ob_K hL) rfl dX2_addLaw_124 ?_
      rw [z6]
      refine V_iast C (j) (ob_A hL 7 (la + 8) rfl rfl) z610k (by rw [ob_N hL 7 (la + 8) rfl rfl]; omega) (by rw [ob_N hL 7 (la + 8) rfl rfl]; decide) dX2_addLaw_127 ?_
      exact st
  obtain ⟨I1, hI1⟩ : ∃ I1, I1 = up2 I (la + 4) n lo := ⟨_, rfl⟩
  obtain ⟨I2, hI2⟩ : ∃ I2, I2 = up2 I1 (la + 5) n hi := ⟨_, rfl⟩
  have s1 : ∀ b, b ≠ la + 4 → I1 b = I b := fun b hb => by rw [hI1, up2_ne _ _ _ hb]
  have s2 : ∀ b, b ≠ la + 5 → I2 b = I1 b := fun b hb => by rw [hI2, up2_ne _ _ _ hb]
  have z1 : I1 la 0 = nI n := by rw [s1 la (by omega)]; exact b0
  have z2 : ∀ x, I2 la x = I la x := fun x => by rw [s2 la (by omega), s1 la (by omega)]
  have z20 : I2 la 0 = nI n := (z2 0).trans b0
  have z21 : I2 la 1 = nI (opN L) := (z2 1).trans b1
  have hnf : bI (n = 24) = 0 := bI_f (by omega)
  by_cases hlt : lo < hi
  · rw [if_pos hlt] at hob
    have hj := hop hlt
    have e46 : nI 1 <<< (I2 la 1 &&& 31) = nI (2 ^ opN L) := by rw [z21]; exact sh_1 _ hj
    obtain ⟨I3, hI3⟩ : ∃ I3, I3 = up2 I2 (la + 6) n (nI (2 ^ opN L)) := ⟨_, rfl⟩
    have s3 : ∀ b, b ≠ la + 6 → I3 b = I2 b := fun b hb => by rw [hI3, up2_ne _ _ _ hb]
    have e64 : I3 la 1 + nI 1 = nI (opN L + 1) := by rw [s3 la (by omega), z21, nI_add]
    have st := at67 (up2 I3 la 1 (nI (opN L + 1))) (fun b h1 h2 h3 h4 => by rw [up2_ne _ _ _ h1, s3 b h4, s2 b h3, s1 b h2]) (by rw [up2_row, va_up_ne _ _ (by decide), s3 la (by omega)]; exact z20) (by rw [up2_row, va_up_self, hob]; rfl) (by rw [up2_row, va_up_ne _ _ (by decide), s3 la (by omega)]; exact (z2 2).trans b2) (by rw [up2_ne _ _ _ (by omega), s3 _ (by omega), s2 _ (by omega), hI1, up2_row]) (by rw [up2_ne _ _ _ (by omega), s3 _ (by omega), hI2, up2_row, s1 _ (by omega)]) (by rw [up2_ne _ _ _ (by omega), hI3, up2_row, s2 _ (by omega), s1 _ (by omega), hob]; rfl)
    refine V_aload_n C dX2_addLaw_0 rfl ?_
    refine V_callV (F := fun _ => True) C (c_isFullN hL b0 (by omega)) mi_X2_isFull ml_X2_52 rfl (ob_K hL) (by decide) (by decide) (by decide) (Nat.le_of_ble_eq_true rfl) (fun _ _ => trivial) (fun v _ => clo_T v) rfl dX2_addLaw_1 ?_
    rintro v S' I' J' ⟨hS9, rfl, hI9, hJ9⟩
    obtain rfl := hS9.symm
    obtain rfl := hI9.symm
    obtain rfl := hJ9.symm
    refine V_if_eq C 8 dX2_addLaw_4 (by decide) (fun h4 => ?_) (fun h4 => absurd (hnf) h4)
    refine V_aload_n C dX2_addLaw_8 rfl ?_
    refine V_getR C fl_X2_11 (ob_K hL) (ob_R hL 3 (la + 4) rfl rfl) rfl dX2_addLaw_9 ?_
    refine V_aload_n C dX2_addLaw_12 rfl ?_
    refine V_getI C fl_X2_42 (ob_K hL) rfl dX2_addLaw_13 ?_
    refine V_iload_n C dX2_addLaw_16 rfl ?_
    refine V_iast C (n) (ob_A hL 3 (la + 4) rfl rfl) b0 (by rw [ob_N hL 3 (la + 4) rfl rfl]; omega) (by rw [ob_N hL 3 (la + 4) rfl rfl]; decide) dX2_addLaw_17 ?_
    rw [← hI1]
    refine V_aload_n C dX2_addLaw_18 rfl ?_
    refine V_getR C fl_X2_15 (ob_K hL) (ob_R hL 4 (la + 5) rfl rfl) rfl dX2_addLaw_19 ?_
    refine V_aload_n C dX2_addLaw_22 rfl ?_
    refine V_getI C fl_X2_42 (ob_K hL) rfl dX2_addLaw_23 ?_
    refine V_iload_n C dX2_addLaw_26 rfl ?_
    refine V_iast C (n) (ob_A hL 4 (la + 5) rfl rfl) z1 (by rw [ob_N hL 4 (la + 5) rfl rfl]; omega) (by rw [ob_N hL 4 (la + 5) rfl rfl]; decide) dX2_addLaw_27 ?_
    rw [← hI2]
    refine V_aload_n C dX2_addLaw_28 rfl ?_
    refine V_getR C fl_X2_18 (ob_K hL) (ob_R hL 5 (la + 6) rfl rfl) rfl dX2_addLaw_29 ?_
    refine V_aload_n C dX2_addLaw_32 rfl ?_
    refine V_getI C fl_X2_42 (ob_K hL) rfl dX2_addLaw_33 ?_
    refine V_iload_n C dX2_addLaw_36 rfl ?_
    refine V_iload_n C dX2_addLaw_37 rfl ?_
    refine V_icmp_ge C 50 dX2_addLaw_38 (by decide) (fun h38 => absurd h38 (Int32.not_le.mpr hlt)) (fun h38 => ?_)
    refine V_iconst C (v := nI 1) dX2_addLaw_41 (by decide +kernel) ?_
    refine V_aload_n C dX2_addLaw_42 rfl ?_
    refine V_getI C fl_X2_46 (ob_K hL) rfl dX2_addLaw_43 ?_
    refine V_ishl C dX2_addLaw_46 ?_
    rw [e46]
    refine V_goto C 51 dX2_addLaw_47 (by decide) ?_
    refine V_iast C (n) (ob_A hL 5 (la + 6) rfl rfl) z20 (by rw [ob_N hL 5 (la + 6) rfl rfl]; omega) (by rw [ob_N hL 5 (la + 6) rfl rfl]; decide) dX2_addLaw_51 ?_
    rw [← hI3]
    refine V_iload_n C dX2_addLaw_52 rfl ?_
    refine V_iload_n C dX2_addLaw_53 rfl ?_
    refine V_icmp_ge C 67 dX2_addLaw_54 (by decide) (fun h54 => absurd h54 (Int32.not_le.mpr hlt)) (fun h54 => ?_)
    refine V_aload_n C dX2_addLaw_57 rfl ?_
    refine V_dup C dX2_addLaw_58 rfl ?_
    refine V_getI C fl_X2_46 (ob_K hL) rfl dX2_addLaw_59 ?_
    refine V_iconst C (v := nI 1) dX2_addLaw_62 (by decide +kernel) ?_
    refine V_iadd C dX2_addLaw_63 ?_
    rw [e64]
    refine V_putI C fl_X2_46 (ob_K hL) rfl rfl dX2_addLaw_64 ?_
    exact st
  · rw [if_neg hlt] at hob
    obtain ⟨I3, hI3⟩ : ∃ I3, I3 = up2 I2 (la + 6) n (nI 0) := ⟨_, rfl⟩
    have s3 : ∀ b, b ≠ la + 6 → I3 b = I2 b := fun b hb => by rw [hI3, up2_ne _ _ _ hb]
    have st := at67 I3 (fun b h1 h2 h3 h4 => by rw [s3 b h4, s2 b h3, s1 b h2]) (by rw [s3 la (by omega)]; exact z20) (by rw [s3 la (by omega), hob]; exact z21) (by rw [s3 la (by omega)]; exact (z2 2).trans b2) (by rw [s3 _ (by omega), s2 _ (by omega), hI1, up2_row]) (by rw [s3 _ (by omega), hI2, up2_row, s1 _ (by omega)]) (by rw [hI3, up2_row, s2 _ (by omega), s1 _ (by omega), hob]; rfl)
    refine V_aload_n C dX2_addLaw_0 rfl ?_
    refine V_callV (F := fun _ => True) C (c_isFullN hL b0 (by omega)) mi_X2_isFull ml_X2_52 rfl (ob_K hL) (by decide) (by decide) (by decide) (Nat.le_of_ble_eq_true rfl) (fun _ _ => trivial) (fun v _ => clo_T v) rfl dX2_addLaw_1 ?_
    rintro v S' I' J' ⟨hS9, rfl, hI9, hJ9⟩
    obtain rfl := hS9.symm
    obtain rfl := hI9.symm
    obtain rfl := hJ9.symm
    refine V_if_eq C 8 dX2_addLaw_4 (by decide) (fun h4 => ?_) (fun h4 => absurd (hnf) h4)
    refine V_aload_n C dX2_addLaw_8 rfl ?_
    refine V_getR C fl_X2_11 (ob_K hL) (ob_R hL 3 (la + 4) rfl rfl) rfl dX2_addLaw_9 ?_
    refine V_aload_n C dX2_addLaw_12 rfl ?_
    refine V_getI C fl_X2_42 (ob_K hL) rfl dX2_addLaw_13 ?_
    refine V_iload_n C dX2_addLaw_16 rfl ?_
    refine V_iast C (n) (ob_A hL 3 (la + 4) rfl rfl) b0 (by rw [ob_N hL 3 (la + 4) rfl rfl]; omega) (by rw [ob_N hL 3 (la + 4) rfl rfl]; decide) dX2_addLaw_17 ?_
    rw [← hI1]
    refine V_aload_n C dX2_addLaw_18 rfl ?_
    refine V_getR C fl_X2_15 (ob_K hL) (ob_R hL 4 (la + 5) rfl rfl) rfl dX2_addLaw_19 ?_
    refine V_aload_n C dX2_addLaw_22 rfl ?_
    refine V_getI C fl_X2_42 (ob_K hL) rfl dX2_addLaw_23 ?_
    refine V_iload_n C dX2_addLaw_26 rfl ?_
    refine V_iast C (n) (ob_A hL 4 (la + 5) rfl rfl) z1 (by rw [ob_N hL 4 (la + 5) rfl rfl]; omega) (by rw [ob_N hL 4 (la + 5) rfl rfl]; decide) dX2_addLaw_27 ?_
    rw [← hI2]
    refine V_aload_n C dX2_addLaw_28 rfl ?_
    refine V_getR C fl_X2_18 (ob_K hL) (ob_R hL 5 (la + 6) rfl rfl) rfl dX2_addLaw_29 ?_
    refine V_aload_n C dX2_addLaw_32 rfl ?_
    refine V_getI C fl_X2_42 (ob_K hL) rfl dX2_addLaw_33 ?_
    refine V_iload_n C dX2_addLaw_36 rfl ?_
    refine V_iload_n C dX2_addLaw_37 rfl ?_
    refine V_icmp_ge C 50 dX2_addLaw_38 (by decide) (fun h38 => ?_) (fun h38 => absurd (Int32.not_lt.mp hlt) h38)
    refine V_iconst C (v := nI 0) dX2_addLaw_50 (by decide +kernel) ?_
    refine V_iast C (n) (ob_A hL 5 (la + 6) rfl rfl) z20 (by rw [ob_N hL 5 (la + 6) rfl rfl]; omega) (by rw [ob_N hL 5 (la + 6) rfl rfl]; decide) dX2_addLaw_51 ?_
    rw [← hI3]
    refine V_iload_n C dX2_addLaw_52 rfl ?_
    refine V_iload_n C dX2_addLaw_53 rfl ?_
    refine V_icmp_ge C 67 dX2_addLaw_54 (by decide) (fun h54 => ?_) (fun h54 => absurd (Int32.not_lt.mp hlt) h54)
    exact st
end C37
