/-! the law's start: the worlds' classes, the fixed addresses -/
section SR
variable {s : State} {args : Array Value}
theorem gtb_of (hts : ∀ w ∈ lw_tbl, w.before args s = true) : ∀ w ∈ gtb, w.before args s = true := fun w hw => hts w (List.mem_filter.mp hw).1
theorem cl_len : vwCl.length = 8 := by decide
theorem st_a {ty : FieldType} (h : (Cond.arrayClass ty).before args s = true) : ∃ cA, ArrOfT s cA ty ∧ s.vm.findClass ("[" ++ ty.toString) = some cA := by
  obtain ⟨cA, kA, comp, h1, h2, h3⟩ := Cond.arrayClass_spec h
  exact ⟨cA, fun n z => ⟨fun k h => (by cases h), kA, h2, comp, h3⟩, h1⟩
theorem st_o {C : String} (h : (Cond.arrayOver (.object C)).before args s = true) : ∃ cA, ArrOfT s cA (.object C) ∧ va_RA s cA (.object C) := by
  obtain ⟨comp, cA, kA, h1, h2, h3, h4, h5⟩ := Cond.arrayOver_spec h
  exact ⟨cA, fun n z => ⟨fun k h => (by cases h), kA, h3, comp, h4⟩, kA, comp, h3, h4, h1, h5⟩
theorem st_K (hts : ∀ w ∈ lw_tbl, w.before args s = true) : ∃ (D : va_G) (cy : Nat → ClassId), va_K D vwCl (tys cy) s := by
  have hg := gtb_of hts
  have h0 : ∀ ci : Nat, ∃ p : ClassId × (Nat → Nat), ci < 8 → u_Kn s (Rc ci) (Tc ci) (nf ci) p.1 p.2 := by
    intro ci
    by_cases h : ci < 8
    · obtain ⟨c1, c2, -⟩ := cl_ok ci h
      obtain ⟨cC, iS, hk⟩ := u_known (C := Rc ci) (T := Tc ci) (N := nf ci) (n := nf ci) hg c2 (hts _ (pr_i ci h))
      exact ⟨(cC, iS), fun _ => hk⟩
    · exact ⟨(0, fun _ => 0), fun q => absurd q h⟩
  obtain ⟨f, hf⟩ := Classical.axiomOfChoice h0
  obtain ⟨c0, a0, b0⟩ := st_a (hts _ pr_a.1)
  obtain ⟨c1, a1, b1⟩ := st_a (hts _ pr_a.2.1)
  obtain ⟨c2, a2, b2⟩ := st_a (hts _ pr_a.2.2.1)
  obtain ⟨c3, a3, b3⟩ := st_a (hts _ pr_a.2.2.2)
  obtain ⟨c4, a4, b4⟩ := st_o (hts _ pr_n.2.1.2)
  obtain ⟨c5, a5, b5⟩ := st_o (hts _ pr_n.2.1.1)
  refine ⟨(fun c => (f c).1, fun c => (f c).2), fun k => match k with | 0 => c0 | 1 => c1 | 2 => c2 | 3 => c3 | 4 => c4 | _ => c5, fun c q hq => ?_, fun k q hq => ?_⟩
  · have hlt : c < 8 := by have := (List.getElem?_eq_some_iff.mp hq).1; rw [cl_len] at this; exact this
    obtain ⟨g1, -⟩ := cl_ok c hlt
    rw [g1] at hq
    cases hq
    exact hf c hlt
  · have hlt : k < 6 := (List.getElem?_eq_some_iff.mp hq).1
    match k, hlt, hq with
    | 0, _, hq => cases hq; exact ⟨a0, b0⟩
    | 1, _, hq => cases hq; exact ⟨a1, b1⟩
    | 2, _, hq => cases hq; exact ⟨a2, b2⟩
    | 3, _, hq => cases hq; exact ⟨a3, b3⟩
    | 4, _, hq => cases hq; exact ⟨a4, b4⟩
    | 5, _, hq => cases hq; exact ⟨a5, b5⟩
theorem vk_ext {N : Nat} {len : List Nat} {byt : List (List Int32)} {adK adV adK' adV' : Nat → Nat} {A : Nat → Prop} {U : State} {H : Heap} (h : vk_S N len byt adK adV A U H) (hK : ∀ i, i < N → adK' i = adK i) (hV : ∀ i, i < N → adV' i = adV i) : vk_S N len byt adK' adV' A U H :=
  ⟨fun i hi => by rw [hK i hi, hV i hi]; exact h.1 i hi, fun i j hi hj e => h.2 i j hi hj (by rw [← hK i hi, ← hK j hj]; exact e)⟩
def adS (adK adV : Nat → Nat) (tL tM tF b : Nat) : Nat → Nat := fun k => if k = 5200 then b else if k = 5110 then tF else if k = 5101 then tM else if k = 5100 then tL else if 5020 ≤ k then adV (k - 5020) else adK (k - 5000)
theorem st_X (hts : ∀ w ∈ lw_tbl, w.before args s = true) (hgv : (Jvm.Cond.and given_1 narrow_1).before args s = true) (b : Nat) : ∃ ad : Nat → Nat, ad 5200 = b ∧ Xt ad (fun q => s.heap.size ≤ q) s := by
  have hA : ∀ a : Nat, a < s.heap.size → ¬ (fun q => s.heap.size ≤ q) a := fun a h => Nat.not_le.mpr h
  have hfl := flat_of_before _ hgv
  have hat : ∀ (k : Nat) (c : Cond), flN[k]? = some c → c.before args s = true := fun k c h => hfl c (List.mem_of_getElem? h)
  obtain ⟨adK, adV, hS, hev⟩ := vk_Sof (args := args) (s := s) (N := 13) (tm := tmS) (len := sLe) (byt := sBy) (A := fun q => s.heap.size ≤ q) (fun i hi => by have := (sL_lt i hi).2.1; omega) (fun i hi => hat _ _ (pr_ex i hi).1) (fun i hi => hat _ _ (pr_ex i hi).2.1) (fun i hi => hat _ _ (pr_ex i hi).2.2.1) (fun i hi => hat _ _ (pr_ex i hi).2.2.2) (fun i hi j hj => hat _ _ (pr_el i hi j hj)) (fun i j hi hj hne => by
    rcases Nat.lt_trichotomy i j with g | g | g
    · exact Or.inl (hat _ _ (pr_ne j hj i g))
    · exact absurd g hne
    · exact Or.inr (hat _ _ (pr_ne i hi j g))) hA
  obtain ⟨tL, eL, hL⟩ := va_Tof (args := args) (s := s) (tm := tmL) (ty := .int) (N := 9) (f := fun j => .int (nLeast.getD j 0)) (A := fun q => s.heap.size ≤ q) (by decide) (hfl _ pr_st.1.1) (va_eqt (hfl _ pr_st.1.2.1)) (fun j hj => va_eqt (hfl _ (pr_st.1.2.2 j hj))) hA
  obtain ⟨tM, eM, hM⟩ := va_Tof (args := args) (s := s) (tm := tmM) (ty := .int) (N := 9) (f := fun j => .int (nMost.getD j 0)) (A := fun q => s.heap.size ≤ q) (by decide) (hfl _ pr_st.2.1) (va_eqt (hfl _ pr_st.2.2.1)) (fun j hj => va_eqt (hfl _ (pr_st.2.2.2 j hj))) hA
  have zF := va_Zqof (A := fun q => s.heap.size ≤ q) (hts _ pr_t.2.2.1.1) (hts _ pr_t.2.2.1.2) (hfl _ pr_z.2.1) hA
  obtain ⟨tF, zF⟩ : ∃ tF : Nat, va_Z "jdk/internal/util/Preconditions" "SIOOBE_FORMATTER" "Ljava/util/function/BiFunction;" .null (fun q => s.heap.size ≤ q) s s.heap ∨ va_Z "jdk/internal/util/Preconditions" "SIOOBE_FORMATTER" "Ljava/util/function/BiFunction;" (.ref tF) (fun q => s.heap.size ≤ q) s s.heap := by
    rcases zF with h | ⟨t, h⟩
    · exact ⟨0, Or.inl h⟩
    · exact ⟨t, Or.inr h⟩
  have e1 : ∀ i, i < 13 → adS adK adV tL tM tF b (5000 + i) = adK i := fun i hi => by
    unfold adS
    rw [if_neg (by omega), if_neg (by omega), if_neg (by omega), if_neg (by omega), if_neg (by omega)]
    rw [Nat.add_sub_cancel_left]
  have e2 : ∀ i, i < 13 → adS adK adV tL tM tF b (5020 + i) = adV i := fun i hi => by
    unfold adS
    rw [if_neg (by omega), if_neg (by omega), if_neg (by omega), if_neg (by omega), if_pos (by omega)]
    rw [Nat.add_sub_cancel_left]
  refine ⟨adS adK adV tL tM tF b, rfl, ⟨va_Nw.of rfl (hts _ pr_n.1.1), va_Nw.of rfl (hts _ pr_n.1.2.1), va_Nw.of rfl (hts _ pr_n.1.2.2), va_AO.of (hts _ pr_n.2.1.1), va_AO.of (hts _ pr_n.2.1.2)⟩, ⟨vk_ext hS e1 e2, fun i hi => by rw [e1 i hi]; exact vk_R.of (hts _ (pr_n.2.2.2 i hi)) (hev i hi)⟩, va_Zref (hts _ pr_t.1.1) (hts _ pr_t.1.2.2) eL hA, hL, va_Zref (hts _ pr_t.1.2.1) (hts _ pr_t.1.2.2) eM hA, hM, va_Zof (hts _ pr_t.2.1.1) (hts _ pr_t.2.1.2) (va_eqt (hfl _ pr_z.1)) hA, zF⟩
theorem st_Z (hts : ∀ w ∈ lw_tbl, w.before args s = true) (hgv : (Jvm.Cond.and given_1 narrow_1).before args s = true) : Zx (fun q => s.heap.size ≤ q) s := by
  have hA : ∀ a : Nat, a < s.heap.size → ¬ (fun q => s.heap.size ≤ q) a := fun a h => Nat.not_le.mpr h
  have hfl := flat_of_before _ hgv
  exact ⟨vx_Zqof (hts _ pr_t.2.2.2.1) (hts _ pr_t.2.2.2.2.2) (hfl _ pr_z.2.2.1) hA, vx_Zqof (hts _ pr_t.2.2.2.2.1) (hts _ pr_t.2.2.2.2.2) (hfl _ pr_z.2.2.2) hA, va_Nw.of rfl (hts _ pr_n.2.2.1.1), va_Nw.of rfl (hts _ pr_n.2.2.1.2.1), va_Nw.of rfl (hts _ pr_n.2.2.1.2.2.1), va_Nw.of rfl (hts _ pr_n.2.2.1.2.2.2)⟩
end SR
