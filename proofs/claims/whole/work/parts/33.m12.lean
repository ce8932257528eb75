/-! the reference: meets. In the spec one pass by numbers goes over the lumps of a ring -/
section M12
variable {l : Launch} {S : HS} {I I' : HI} {J : HJ}
abbrev inR (D : DV) (r v : Nat) : Prop := D 5 v = 0 ∧ D 6 v = nI r
def win (D : DV) (f s : Nat) : Nat := if wD D s ≤ wD D f then f else s
def psN (share : Int32) (r : Nat) : Nat → Nat → Option Nat → DV × Int64 → DV × Int64
  | 0, _, _, q => q
  | c + 1, u, st, q => if inR q.1 r u then (match st with
    | none => psN share r c (u + 1) (some u) q
    | some f => psN share r c (u + 1) (some (win q.1 f u)) (mtAt share q f u)) else psN share r c (u + 1) st q
def msN (share : Int32) : Nat → Nat → DV × Int64 → DV × Int64
  | 0, _, q => q
  | c + 1, r, q => msN share c (r + 1) (psN share r (cmD q.1) 0 none q)
theorem psN_s {share : Int32} {r c u : Nat} {st : Option Nat} {q : DV × Int64} : psN share r (c + 1) u st q = if inR q.1 r u then (match st with
    | none => psN share r c (u + 1) (some u) q
    | some f => psN share r c (u + 1) (some (win q.1 f u)) (mtAt share q f u)) else psN share r c (u + 1) st q := rfl
theorem psN_kp {share : Int32} {r : Nat} : ∀ (c u : Nat) (st : Option Nat) (q : DV × Int64), kpD q.1 (psN share r c u st q).1 := by
  intro c
  induction c with
  | zero => intro u st q; exact kpD.re
  | succ c ih =>
    intro u st q
    unfold psN
    split
    · cases st with
      | none => exact ih _ _ _
      | some f => exact mtAt_kp.tr (ih _ _ _)
    · exact ih _ _ _
theorem msN_kp {share : Int32} : ∀ (c r : Nat) (q : DV × Int64), kpD q.1 (msN share c r q).1 := by
  intro c
  induction c with
  | zero => intro r q; exact kpD.re
  | succ c ih => intro r q; exact (psN_kp _ _ _ _).tr (ih _ _)
def enc (a : Option Nat) : Int32 := match a with
  | none => -1
  | some x => nI x
theorem enc_pos {a : Option Nat} (h : ∀ x, a = some x → x < 2 ^ 31) : 0 ≤ enc a ↔ a ≠ none := by
  cases a with
  | none => exact ⟨fun h => absurd h (by decide), fun h => absurd rfl h⟩
  | some x => exact ⟨fun _ => by simp, fun _ => nI_pos' (h x rfl)⟩
def f2 (D : DV) (r : Nat) : Nat → Int32 × Int32
  | 0 => (-1, -1)
  | v + 1 => if D 5 v = 0 then (if D 6 v = nI r then (if 0 ≤ (f2 D r v).2 then f2 D r v else (if 0 ≤ (f2 D r v).1 then (f2 D r v).1 else nI v, if 0 ≤ (f2 D r v).1 then nI v else -1)) else f2 D r v) else f2 D r v
/-- a is the first, b the second lump below n in the ring r -/
def f2P (D : DV) (r n : Nat) (a b : Option Nat) : Prop := match a with
  | none => b = none ∧ ∀ v, v < n → ¬ inR D r v
  | some x => x < n ∧ inR D r x ∧ (∀ v, v < x → ¬ inR D r v) ∧ (match b with
    | none => ∀ v, x < v → v < n → ¬ inR D r v
    | some y => x < y ∧ y < n ∧ inR D r y ∧ ∀ v, x < v → v < y → ¬ inR D r v)
theorem f2_eq (D : DV) (r : Nat) : ∀ n, n ≤ 30 → ∃ a b, f2 D r n = (enc a, enc b) ∧ f2P D r n a b := by
  intro n
  induction n with
  | zero => exact fun _ => ⟨none, none, rfl, rfl, fun v h => absurd h (Nat.not_lt_zero _)⟩
  | succ n ih =>
    intro hn
    obtain ⟨a, b, e, hp⟩ := ih (by omega)
    by_cases h5 : inR D r n
    · have e0 : f2 D r (n + 1) = if 0 ≤ (f2 D r n).2 then f2 D r n else (if 0 ≤ (f2 D r n).1 then (f2 D r n).1 else nI n, if 0 ≤ (f2 D r n).1 then nI n else -1) := by
        rw [f2, if_pos h5.1, if_pos h5.2]
      rw [e0, e]
      cases a with
      | none =>
        obtain ⟨rfl, h⟩ := hp
        refine ⟨some n, none, ?_, by omega, h5, h, fun v h1 h2 => by omega⟩
        rw [if_neg (by decide), if_neg (by decide), if_neg (by decide)]; rfl
      | some x =>
        obtain ⟨h1, h2, h3, h4⟩ := hp
        cases b with
        | none =>
          refine ⟨some x, some n, ?_, by omega, h2, h3, h1, by omega, h5, fun v g1 g2 => h4 v g1 g2⟩
          have hx : 0 ≤ enc (some x) := nI_pos' (by omega)
          rw [if_neg (show ¬ 0 ≤ (enc (some x), enc none).2 from (show ¬ (0 : Int32) ≤ -1 by decide)), if_pos (show 0 ≤ (enc (some x), enc none).1 from hx), if_pos (show 0 ≤ (enc (some x), enc none).1 from hx)]; rfl
        | some y =>
          obtain ⟨g1, g2, g3, g4⟩ := h4
          refine ⟨some x, some y, ?_, by omega, h2, h3, g1, by omega, g3, g4⟩
          rw [if_pos (show 0 ≤ enc (some y) from nI_pos' (by omega))]
    · have e0 : f2 D r (n + 1) = f2 D r n := by
        rw [f2]
        by_cases h : D 5 n = 0
        · rw [if_pos h, if_neg (fun q => h5 ⟨h, q⟩)]
        · rw [if_neg h]
      refine ⟨a, b, e0.trans e, ?_⟩
      cases a with
      | none =>
        obtain ⟨rfl, h⟩ := hp
        refine ⟨rfl, fun v hv => ?_⟩
        by_cases ev : v = n
        · subst ev; exact h5
        · exact h v (by omega)
      | some x =>
        obtain ⟨h1, h2, h3, h4⟩ := hp
        refine ⟨by omega, h2, h3, ?_⟩
        cases b with
        | none =>
          intro v g1 g2
          by_cases ev : v = n
          · subst ev; exact h5
          · exact h4 v g1 (by omega)
        | some y =>
          obtain ⟨g1, g2, g3, g4⟩ := h4
          exact ⟨g1, by omega, g3, g4⟩
/-- below u the one that stays is the only one -/
def stI (D : DV) (r u : Nat) (st : Option Nat) : Prop := (∀ f, st = some f → f < u) ∧ ∀ v, v < u → (inR D r v ↔ st = some v)
theorem ps_none {share : Int32} {r n : Nat} : ∀ (c u : Nat) (st : Option Nat) (q : DV × Int64), u + c = n → stI q.1 r u st → (∀ x y, x < n → y < n → inR q.1 r x → inR q.1 r y → x = y) → psN share r c u st q = q := by
  intro c
  induction c with
  | zero => intro u st q _ _ _; rfl
  | succ c ih =>
    intro u st q hu hI h1
    unfold psN
    split
    · rename_i hin
      cases st with
      | none =>
        refine ih _ _ _ (by omega) ⟨fun f hf => by cases hf; omega, fun v hv => ?_⟩ h1
        by_cases e : v = u
        · subst e; exact ⟨fun _ => rfl, fun _ => hin⟩
        · have := hI.2 v (by omega)
          exact ⟨fun h => absurd (this.mp h) (by simp), fun h => absurd (Option.some.inj h).symm e⟩
      | some f =>
        have hf := hI.1 f rfl
        have := h1 f u (by omega) (by omega) ((hI.2 f hf).mpr rfl) hin
        omega
    · rename_i hin
      refine ih _ _ _ (by omega) ⟨fun f hf => Nat.lt_succ_of_lt (hI.1 f hf), fun v hv => ?_⟩ h1
      by_cases e : v = u
      · subst e
        refine ⟨fun h => absurd h hin, fun h => ?_⟩
        have := hI.1 v h
        omega
      · exact hI.2 v (by omega)
theorem ps_two {share : Int32} {r n x y : Nat} {q : DV × Int64} (hxy : x < y) (hy : y < n) (hx : inR q.1 r x) (hyr : inR q.1 r y) (hlt : ∀ v, v < y → v ≠ x → ¬ inR q.1 r v) : ∀ (c u : Nat) (st : Option Nat), u + c = n → u ≤ y → stI q.1 r u st → psN share r c u st q = psN share r (n - (y + 1)) (y + 1) (some (win q.1 x y)) (mtAt share q x y) := by
  intro c
  induction c with
  | zero => intro u st hu hle _; omega
  | succ c ih =>
    intro u st hu hle hI
    by_cases eu : u = y
    · subst eu
      have est : st = some x := (hI.2 x hxy).mp hx
      subst est
      rw [psN_s, if_pos hyr, show n - (u + 1) = c by omega]
    · rw [psN_s]
      by_cases ex : u = x
      · subst ex
        rw [if_pos hx]
        cases st with
        | some f =>
          have hf := hI.1 f rfl
          exact absurd ((hI.2 f hf).mpr rfl) (hlt f (by omega) (by omega))
        | none =>
          refine ih _ _ (by omega) (by omega) ⟨fun f hf => by cases hf; omega, fun v hv => ?_⟩
          by_cases e : v = u
          · subst e; exact ⟨fun _ => rfl, fun _ => hx⟩
          · have := hI.2 v (by omega)
            exact ⟨fun h => absurd (this.mp h) (by simp), fun h => absurd (Option.some.inj h).symm e⟩
      · have hin := hlt u (by omega) ex
        rw [if_neg hin]
        refine ih _ _ (by omega) (by omega) ⟨fun f hf => Nat.lt_succ_of_lt (hI.1 f hf), fun v hv => ?_⟩
        by_cases e : v = u
        · subst e
          refine ⟨fun h => absurd h hin, fun h => ?_⟩
          have := hI.1 v h
          omega
        · exact hI.2 v (by omega)
theorem mdR_56 {s o : Nat} : ∀ (c q : Nat) (D : DV), mdR s o c q D 5 = D 5 ∧ mdR s o c q D 6 = D 6
  | 0, _, _ => ⟨rfl, rfl⟩
  | c + 1, q, D => mdR_56 c (q + 1) _
theorem mtD_56 {share : Int32} {q : DV × Int64} {s o : Nat} : (∃ z : Int32, ¬ z = 0 ∧ (mtD share q s o).1 5 = va_up (q.1 5) o z) ∧ (mtD share q s o).1 6 = q.1 6 := by
  unfold mtD
  split
  · exact ⟨⟨nI 1, by decide, (mdR_56 _ _ _).1⟩, (mdR_56 _ _ _).2⟩
  · split
    · exact ⟨⟨nI 1, by decide, (mdR_56 _ _ _).1⟩, (mdR_56 _ _ _).2⟩
    · exact ⟨⟨nI 3, by decide, rfl⟩, rfl⟩
/-- who is in the ring behind a meeting -/
theorem mt_in {share : Int32} {q : DV × Int64} {r x y : Nat} (hxy : x < y) (hx : inR q.1 r x) (hy : inR q.1 r y) (hlt : ∀ v, v < y → v ≠ x → ¬ inR q.1 r v) : stI (mtAt share q x y).1 r (y + 1) (some (win q.1 x y)) := by
  have key : ∀ s o, mtAt share q x y = mtD share q s o → win q.1 x y = s → (s = x ∧ o = y ∨ s = y ∧ o = x) → stI (mtAt share q x y).1 r (y + 1) (some (win q.1 x y)) := by
    intro s o e1 e2 e3
    rw [e1, e2]
    obtain ⟨⟨z, hz, h5⟩, h6⟩ := mtD_56 (share := share) (q := q) (s := s) (o := o)
    refine ⟨fun f hf => by cases hf; omega, fun v hv => ?_⟩
    unfold inR
    rw [h5, h6]
    by_cases ev : v = o
    · subst ev
      rw [va_up_self]
      refine ⟨fun h => absurd h.1 hz, fun h => ?_⟩
      have := Option.some.inj h
      omega
    · rw [va_up_ne _ _ ev]
      by_cases es : v = s
      · subst es
        refine ⟨fun _ => rfl, fun _ => ?_⟩
        rcases e3 with ⟨rfl, -⟩ | ⟨rfl, -⟩
        · exact hx
        · exact hy
      · refine ⟨fun h => absurd h (hlt v (by omega) (by omega)), fun h => absurd (Option.some.inj h).symm es⟩
  unfold mtAt win at *
  by_cases h : wD q.1 y ≤ wD q.1 x
  · rw [if_pos h, if_pos h] at *
    exact key x y rfl rfl (Or.inl ⟨rfl, rfl⟩)
  · rw [if_neg h, if_neg h] at *
    exact key y x rfl rfl (Or.inr ⟨rfl, rfl⟩)
set_option maxRecDepth 100000 in
set_option maxHeartbeats 8000000 in
theorem m_meets (hM : Ob S 7 1000) {b : Nat} (hb : b < 8) (hC : cAll I J) (hD : rOk (refD I J b)) : Mn l yX7_meets cX7_meets 7 none 3 [.ref 1000, .int (nI b)] S I J (fun v I' J' => v = none ∧ (refD I' J' b, J' 1036 b) = msN (I 1000 45) (rgD (refD I J b)) 0 (refD I J b, J 1036 b) ∧ J' 1035 b = J 1035 b ∧ Fr b I J I' J') := by
  refine Mn.of (by decide) (fun ad => by simp [lg_sl, vv, Value.category]) (fun X P hP hn C => ?_)
  generalize hsh : I 1000 45 = share at hP
  generalize hnn : rgD (refD I J b) = n at hP
  have hn0 : refD I J b 0 0 = nI n := by rw [← hnn]; exact hD.1
  have hn12 : n ≤ 12 := by rw [← hnn]; exact hD.2.2.1
  generalize hcm : cmD (refD I J b) = cm
  have hm0 : refD I J b 0 6 = nI cm := by rw [← hcm]; exact r_cm hD
  have hm30 : cm ≤ 30 := by rw [← hcm]; exact hD.2.2.2.2.1
  have scan : ∀ (r : Nat) (Ic : HI) (Jc : HJ), r < 12 → kpD (refD I J b) (refD Ic Jc b) → V X P 0 0 102 [some (.ref 1000), some (.int (nI b)), some (.int (nI r)), some (.int (nI 1)), some (.int (f2 (refD Ic Jc b) r cm).1), some (.int (f2 (refD Ic Jc b) r cm).2), some (.int (nI cm))] [] S Ic Jc → ∀ (c v : Nat), v + c = cm → V X P 0 0 27 [some (.ref 1000), some (.int (nI b)), some (.int (nI r)), some (.int (nI 1)), some (.int (f2 (refD Ic Jc b) r v).1), some (.int (f2 (refD Ic Jc b) r v).2), some (.int (nI v))] [] S Ic Jc := by
    intro r Ic Jc hr hk hK c
    have hDc := hk.ok hD
    have hcc : cmD (refD Ic Jc b) = cm := hk.cm.trans hcm
    have e37 : Ic 1037 b = nI cm := hk.2.1.trans hm0
    induction c with
    | zero =>
      intro v hv
      have hv : v = cm := hv
      subst hv
      have c35 : Ic 1037 b ≤ nI v := by rw [e37]; exact Int32.le_refl _
      refine V_iload C dX7_meets_27 rfl ?_
      refine V_aload_n C dX7_meets_29 rfl ?_
      refine V_getR C fl_X7_146 (ob_K hM) (ob_R hM 36 1037 rfl rfl) rfl dX7_meets_30 ?_
      refine V_iload_n C dX7_meets_33 rfl ?_
      refine V_iald C (b) (ob_A hM 36 1037 rfl rfl) (by first | rfl | (simp only [nI_add, pk_mul]; done) | (simp only [nI_add, pk_mul]; congr 1; omega)) (by rw [ob_N hM 36 1037 rfl rfl]; omega) (by rw [ob_N hM 36 1037 rfl rfl]; decide) dX7_meets_34 ?_
      refine V_icmp_ge C 102 dX7_meets_35 (by decide) (fun h35 => ?_) (fun h35 => absurd (c35) h35)
      exact hK
    | succ c ih =>
      intro v hv
      have c35 : ¬ Ic 1037 b ≤ nI v := by rw [e37]; exact nI_ge (by omega) (by omega)
      have hvc : v < cmD (refD Ic Jc b) := by rw [hcc]; omega
      have e39 := (r_lump hDc hvc).2.1
      have fin : ∀ a d : Int32, (a, d) = f2 (refD Ic Jc b) r (v + 1) → V X P 0 0 27 [some (.ref 1000), some (.int (nI b)), some (.int (nI r)), some (.int (nI 1)), some (.int a), some (.int d), some (.int (nI (v + 1)))] [] S Ic Jc := by
        intro a d e
        have h := ih (v + 1) (by omega)
        rw [← e] at h
        exact h
      by_cases h5 : refD Ic Jc b 5 v = 0
      · have b1 : ¬ bI (refD Ic Jc b 5 v = 0) = 0 := by rw [bI_0]; exact fun h => h h5
        refine V_iload C dX7_meets_27 rfl ?_
        refine V_aload_n C dX7_meets_29 rfl ?_
        refine V_getR C fl_X7_146 (ob_K hM) (ob_R hM 36 1037 rfl rfl) rfl dX7_meets_30 ?_
        refine V_iload_n C dX7_meets_33 rfl ?_
        refine V_iald C (b) (ob_A hM 36 1037 rfl rfl) (by first | rfl | (simp only [nI_add, pk_mul]; done) | (simp only [nI_add, pk_mul]; congr 1; omega)) (by rw [ob_N hM 36 1037 rfl rfl]; omega) (by rw [ob_N hM 36 1037 rfl rfl]; decide) dX7_meets_34 ?_
        refine V_icmp_ge C 102 dX7_meets_35 (by decide) (fun h35 => absurd h35 (c35)) (fun h35 => ?_)
        refine V_aload_n C dX7_meets_38 rfl ?_
        refine V_iload_n C dX7_meets_39 rfl ?_
        refine V_iload C dX7_meets_40 rfl ?_
        refine V_callV (F := fun _ => True) C (m_isThere hM hb hDc hvc) mi_X7_isThere ml_X7_372 rfl (ob_K hM) (by decide) (by decide) (by decide) (Nat.le_of_ble_eq_true rfl) (fun _ _ => trivial) (fun v _ => clo_T v) rfl dX7_meets_42 ?_
        rintro v S' I' J' ⟨hS, rfl, hI, hJ⟩
        obtain rfl := hS.symm
        obtain rfl := hI.symm
        obtain rfl := hJ.symm
        refine V_if_eq C 96 dX7_meets_45 (by decide) (fun h45 => absurd h45 (b1)) (fun h45 => ?_)
        refine V_aload_n C dX7_meets_48 rfl ?_
        refine V_getR C fl_X7_152 (ob_K hM) (ob_R hM 38 1039 rfl rfl) rfl dX7_meets_49 ?_
        refine V_bipush C (v := nI 30) dX7_meets_52 (by decide +kernel) ?_
        refine V_iload_n C dX7_meets_54 rfl ?_
        refine V_imul C dX7_meets_55 ?_
        refine V_iload C dX7_meets_56 rfl ?_
        refine V_iadd C dX7_meets_58 ?_
        refine V_iald C (30 * b + v) (ob_A hM 38 1039 rfl rfl) (by first | rfl | (simp only [nI_add, pk_mul]; done) | (simp only [nI_add, pk_mul]; congr 1; omega)) (by rw [ob_N hM 38 1039 rfl rfl]; omega) (by rw [ob_N hM 38 1039 rfl rfl]; decide) dX7_meets_59 ?_
        rw [← e39]
        refine V_iload_n C dX7_meets_60 rfl ?_
        refine V_icmp_ne C 96 dX7_meets_61 (by decide) (fun h61 => ?_) (fun h61 => ?_)
        · refine V_iincU C dX7_meets_96 rfl (hn _ (by decide)) ?_
          refine V_goto C 27 dX7_meets_99 (by decide) ?_
          first
            | exact fin _ _ (by rw [f2, if_pos h5, if_neg h61])
            | exact fin _ _ (by rw [f2, if_pos h5, if_pos h61, if_pos h66])
            | exact fin _ _ (by rw [f2, if_pos h5, if_pos h61, if_neg h66])
        · refine V_iload C dX7_meets_64 rfl ?_
          refine V_if_ge C 96 dX7_meets_66 (by decide) (fun h66 => ?_) (fun h66 => ?_)
          · refine V_iincU C dX7_meets_96 rfl (hn _ (by decide)) ?_
            refine V_goto C 27 dX7_meets_99 (by decide) ?_
            first
              | exact fin _ _ (by rw [f2, if_pos h5, if_neg h61])
              | exact fin _ _ (by rw [f2, if_pos h5, if_pos h61, if_pos h66])
              | exact fin _ _ (by rw [f2, if_pos h5, if_pos h61, if_neg h66])
          · refine V_iload C dX7_meets_69 rfl ?_
            refine V_tern_if_ge (vt := nI v) (vf := -1) (pm := 80) C 78 dX7_meets_71 (by decide) (fun h71 k => ?_) (fun h71 k => ?_) ?_
            · refine V_iload C dX7_meets_78 rfl ?_
              exact k
            · refine V_iconst C (v := (-1)) dX7_meets_74 (by decide +kernel) ?_
              refine V_goto C 80 dX7_meets_75 (by decide) ?_
              exact k
            refine V_istore C dX7_meets_80 (hn _ (by decide)) ?_
            refine V_iload C dX7_meets_82 rfl ?_
            refine V_tern_if_ge (vt := (f2 (refD Ic Jc b) r v).1) (vf := nI v) (pm := 94) C 92 dX7_meets_84 (by decide) (fun h84 k => ?_) (fun h84 k => ?_) ?_
            · refine V_iload C dX7_meets_92 rfl ?_
              exact k
            · refine V_iload C dX7_meets_87 rfl ?_
              refine V_goto C 94 dX7_meets_89 (by decide) ?_
              exact k
            refine V_istore C dX7_meets_94 (hn _ (by decide)) ?_
            refine V_iincU C dX7_meets_96 rfl (hn _ (by decide)) ?_
            refine V_goto C 27 dX7_meets_99 (by decide) ?_
            first
              | exact fin _ _ (by rw [f2, if_pos h5, if_neg h61])
              | exact fin _ _ (by rw [f2, if_pos h5, if_pos h61, if_pos h66])
              | exact fin _ _ (by rw [f2, if_pos h5, if_pos h61, if_neg h66])
      · have b1 : bI (refD Ic Jc b 5 v = 0) = 0 := by rw [bI_0]; exact h5
        refine V_iload C dX7_meets_27 rfl ?_
        refine V_aload_n C dX7_meets_29 rfl ?_
        refine V_getR C fl_X7_146 (ob_K hM) (ob_R hM 36 1037 rfl rfl) rfl dX7_meets_30 ?_
        refine V_iload_n C dX7_meets_33 rfl ?_
        refine V_iald C (b) (ob_A hM 36 1037 rfl rfl) (by first | rfl | (simp only [nI_add, pk_mul]; done) | (simp only [nI_add, pk_mul]; congr 1; omega)) (by rw [ob_N hM 36 1037 rfl rfl]; omega) (by rw [ob_N hM 36 1037 rfl rfl]; decide) dX7_meets_34 ?_
        refine V_icmp_ge C 102 dX7_meets_35 (by decide) (fun h35 => absurd h35 (c35)) (fun h35 => ?_)
        refine V_aload_n C dX7_meets_38 rfl ?_
        refine V_iload_n C dX7_meets_39 rfl ?_
        refine V_iload C dX7_meets_40 rfl ?_
        refine V_callV (F := fun _ => True) C (m_isThere hM hb hDc hvc) mi_X7_isThere ml_X7_372 rfl (ob_K hM) (by decide) (by decide) (by decide) (Nat.le_of_ble_eq_true rfl) (fun _ _ => trivial) (fun v _ => clo_T v) rfl dX7_meets_42 ?_
        rintro v S' I' J' ⟨hS, rfl, hI, hJ⟩
        obtain rfl := hS.symm
        obtain rfl := hI.symm
        obtain rfl := hJ.symm
        refine V_if_eq C 96 dX7_meets_45 (by decide) (fun h45 => ?_) (fun h45 => absurd (b1) h45)
        refine V_iincU C dX7_meets_96 rfl (hn _ (by decide)) ?_
        refine V_goto C 27 dX7_meets_99 (by decide) ?_
        exact fin _ _ (by rw [f2, if_neg h5])
  have outer : ∀ (c r : Nat) (Ic : HI) (Jc : HJ) (x3 x4 x5 x6 : Option Value), r + c = n → Fr b I J Ic Jc → kpD (refD I J b) (refD Ic Jc b) → Jc 1035 b = J 1035 b → msN share c r (refD Ic Jc b, Jc 1036 b) = msN share n 0 (refD I J b, J 1036 b) → V X P 0 0 2 [some (.ref 1000), some (.int (nI b)), some (.int (nI r)), x3, x4, x5, x6] [] S Ic Jc := by
    intro c
    induction c with
    | zero =>
      intro r Ic Jc x3 x4 x5 x6 hr hF hk hj he
      have hr : r = n := hr
      subst hr
      have c9 : Ic 1027 b ≤ nI r := by rw [show Ic 1027 b = nI r from hk.1.trans hn0]; exact Int32.le_refl _
      refine V_iload_n C dX7_meets_2 rfl ?_
      refine V_aload_n C dX7_meets_3 rfl ?_
      refine V_getR C fl_X7_116 (ob_K hM) (ob_R hM 26 1027 rfl rfl) rfl dX7_meets_4 ?_
      refine V_iload_n C dX7_meets_7 rfl ?_
      refine V_iald C (b) (ob_A hM 26 1027 rfl rfl) (by first | rfl | (simp only [nI_add, pk_mul]; done) | (simp only [nI_add, pk_mul]; congr 1; omega)) (by rw [ob_N hM 26 1027 rfl rfl]; omega) (by rw [ob_N hM 26 1027 rfl rfl]; decide) dX7_meets_8 ?_
      refine V_icmp_ge C 135 dX7_meets_9 (by decide) (fun h9 => ?_) (fun h9 => absurd (c9) h9)
      exact V_vret C (Nat.zero_le _) (Nat.zero_le _) dX7_meets_135 (hP _ _ _ ⟨rfl, he, hj, hF⟩)
    | succ c ih =>
      intro r Ic Jc x3 x4 x5 x6 hr hF hk hj he
      have c9 : ¬ Ic 1027 b ≤ nI r := by rw [show Ic 1027 b = nI n from hk.1.trans hn0]; exact nI_ge (by omega) (by omega)
      have loop : ∀ (k u : Nat) (st : Option Nat) (Ic : HI) (Jc : HJ) (x4 x5 x6 : Option Value), cm - u < k → u ≤ cm → Fr b I J Ic Jc → kpD (refD I J b) (refD Ic Jc b) → Jc 1035 b = J 1035 b → stI (refD Ic Jc b) r u st → msN share c (r + 1) (psN share r (cm - u) u st (refD Ic Jc b, Jc 1036 b)) = msN share n 0 (refD I J b, J 1036 b) → V X P 0 0 14 [some (.ref 1000), some (.int (nI b)), some (.int (nI r)), some (.int (nI 1)), x4, x5, x6] [] S Ic Jc := by
        intro k
        induction k with
        | zero => intro u st Ic Jc x4 x5 x6 h; omega
        | succ k ih2 =>
          intro u st Ic Jc x4 x5 x6 hku huc hF hk hj hI he
          have hDc := hk.ok hD
          have hcc : cmD (refD Ic Jc b) = cm := hk.cm.trans hcm
          have hCc := hF.cm hC (by rw [hcc]; exact hm30)
          obtain ⟨a, d, ef, hp⟩ := f2_eq (refD Ic Jc b) r cm hm30
          have hsc := scan r Ic Jc (by omega) hk
          rw [ef] at hsc
          refine V_iload_n C dX7_meets_14 rfl ?_
          refine V_if_eq C 129 dX7_meets_15 (by decide) (fun h15 => absurd h15 (by decide)) (fun h15 => ?_)
          refine V_iconst C (v := (-1)) dX7_meets_18 (by decide +kernel) ?_
          refine V_istore C dX7_meets_19 (hn _ (by decide)) ?_
          refine V_iconst C (v := (-1)) dX7_meets_21 (by decide +kernel) ?_
          refine V_istore C dX7_meets_22 (hn _ (by decide)) ?_
          refine V_iconst C (v := nI 0) dX7_meets_24 (by decide +kernel) ?_
          refine V_istore C dX7_meets_25 (hn _ (by decide)) ?_
          refine hsc ?_ cm 0 (by omega)
          cases d with
          | none =>
            have hps : psN share r (cm - u) u st (refD Ic Jc b, Jc 1036 b) = (refD Ic Jc b, Jc 1036 b) := by
              refine ps_none (n := cm) _ _ _ _ (by omega) hI (fun x y h1 h2 h3 h4 => ?_)
              cases a with
              | none => exact absurd h3 (hp.2 x h1)
              | some z =>
                obtain ⟨-, -, g1, g2⟩ := hp
                have hz : ∀ v, v < cm → inR (refD Ic Jc b) r v → v = z := fun v hv hin => by
                  rcases Nat.lt_trichotomy v z with h | h | h
                  · exact absurd hin (g1 v h)
                  · exact h
                  · exact absurd hin (g2 v h hv)
                rw [hz x h1 h3, hz y h2 h4]
            rw [hps] at he
            refine V_iload C dX7_meets_102 rfl ?_
            refine V_if_lt C 111 dX7_meets_104 (by decide) (fun h104 => ?_) (fun h104 => absurd (show (-1 : Int32) < 0 by decide) h104)
            refine V_iconst C (v := nI 0) dX7_meets_111 (by decide +kernel) ?_
            refine V_istore_n C dX7_meets_112 (hn _ (by decide)) ?_
            refine V_iload_n C dX7_meets_113 rfl ?_
            refine V_if_eq C 126 dX7_meets_114 (by decide) (fun h114 => ?_) (fun h114 => absurd (rfl) h114)
            refine V_goto C 14 dX7_meets_126 (by decide) ?_
            refine V_iload_n C dX7_meets_14 rfl ?_
            refine V_if_eq C 129 dX7_meets_15 (by decide) (fun h15 => ?_) (fun h15 => absurd (rfl) h15)
            refine V_iincU C dX7_meets_129 rfl (hn _ (by decide)) ?_
            refine V_goto C 2 dX7_meets_132 (by decide) ?_
            exact ih (r + 1) Ic Jc _ _ _ _ (by omega) hF hk hj he
          | some y =>
            cases a with
            | none => exact absurd hp.1 (by simp)
            | some x =>
              obtain ⟨g0, g1, g2, g3, g4, g5, g6⟩ := hp
              have hlt : ∀ v, v < y → v ≠ x → ¬ inR (refD Ic Jc b) r v := fun v hv hne => by
                rcases Nat.lt_or_gt_of_ne hne with h | h
                · exact g2 v h
                · exact g6 v h hv
              have huy : u ≤ y := Nat.le_of_not_lt (fun h => by
                have e1 := (hI.2 y h).mp g5
                have e2 := (hI.2 x (by omega)).mp g1
                have := Option.some.inj (e1.symm.trans e2)
                omega)
              have hps := ps_two (share := share) (q := (refD Ic Jc b, Jc 1036 b)) g3 g4 g1 g5 hlt (cm - u) u st (by omega) huy hI
              rw [hps] at he
              have hin := mt_in (share := share) (q := (refD Ic Jc b, Jc 1036 b)) g3 g1 g5 hlt
              have e45 : Ic 1000 45 = share := by rw [hF.1 1000 (by omega)]; exact hsh
              refine V_iload C dX7_meets_102 rfl ?_
              refine V_if_lt C 111 dX7_meets_104 (by decide) (fun h104 => absurd h104 (nI_pos (by omega))) (fun h104 => ?_)
              refine V_iconst C (v := nI 1) dX7_meets_107 (by decide +kernel) ?_
              refine V_goto C 112 dX7_meets_108 (by decide) ?_
              refine V_istore_n C dX7_meets_112 (hn _ (by decide)) ?_
              refine V_iload_n C dX7_meets_113 rfl ?_
              refine V_if_eq C 126 dX7_meets_114 (by decide) (fun h114 => absurd h114 (by decide)) (fun h114 => ?_)
              refine V_aload_n C dX7_meets_117 rfl ?_
              refine V_iload_n C dX7_meets_118 rfl ?_
              refine V_iload C dX7_meets_119 rfl ?_
              refine V_iload C dX7_meets_121 rfl ?_
              refine V_callV (F := fun _ => True) C (m_meet hM hb hCc hDc (by rw [hcc]; omega) (by rw [hcc]; omega) (by omega)) mi_X7_meet ml_X7_391 rfl (ob_K hM) (by decide) (by decide) (by decide) (Nat.le_of_ble_eq_true rfl) (fun _ _ => trivial) (fun v _ => clo_T v) rfl dX7_meets_123 ?_
              rintro v S' I3 J3 ⟨hS, rfl, hmt, hj3, hF3⟩
              obtain rfl := hS.symm
              rw [e45] at hmt
              refine V_goto C 14 dX7_meets_126 (by decide) ?_
              refine ih2 (y + 1) (some (win (refD Ic Jc b) x y)) _ _ _ _ _ (by omega) (by omega) (hF.tr hF3) (hk.tr ?_) (hj3.trans hj) ?_ ?_
              · have h := mtAt_kp (share := share) (q := (refD Ic Jc b, Jc 1036 b)) (f := x) (s := y)
                rw [← hmt] at h
                exact h
              · rw [← hmt] at hin
                exact hin
              · rw [hmt]; exact he
      refine V_iload_n C dX7_meets_2 rfl ?_
      refine V_aload_n C dX7_meets_3 rfl ?_
      refine V_getR C fl_X7_116 (ob_K hM) (ob_R hM 26 1027 rfl rfl) rfl dX7_meets_4 ?_
      refine V_iload_n C dX7_meets_7 rfl ?_
      refine V_iald C (b) (ob_A hM 26 1027 rfl rfl) (by first | rfl | (simp only [nI_add, pk_mul]; done) | (simp only [nI_add, pk_mul]; congr 1; omega)) (by rw [ob_N hM 26 1027 rfl rfl]; omega) (by rw [ob_N hM 26 1027 rfl rfl]; decide) dX7_meets_8 ?_
      refine V_icmp_ge C 135 dX7_meets_9 (by decide) (fun h9 => absurd h9 (c9)) (fun h9 => ?_)
      refine V_iconst C (v := nI 1) dX7_meets_12 (by decide +kernel) ?_
      refine V_istore_n C dX7_meets_13 (hn _ (by decide)) ?_
      exact loop (cm + 1) 0 none Ic Jc _ _ _ (by omega) (by omega) hF hk hj ⟨fun f h => (by cases h), fun v h => absurd h (Nat.not_lt_zero _)⟩ (by rw [← he, msN, show cmD (refD Ic Jc b, Jc 1036 b).1 = cm from hk.cm.trans hcm]; rfl)
  refine V_iconst C (v := nI 0) dX7_meets_0 (by decide +kernel) ?_
  refine V_istore_n C dX7_meets_1 (hn _ (by decide)) ?_
  exact outer n 0 I J _ _ _ _ (by omega) Fr.re kpD.re rfl rfl
end M12
