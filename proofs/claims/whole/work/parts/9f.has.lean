/-! has, where it throws; the law's own method that catches it -/
abbrev nse : String := "java/util/NoSuchElementException"
abbrev nsN : List String := ["java/lang/RuntimeException", "java/lang/Exception"]
abbrev dcR : MethodName := ⟨"java/lang/RuntimeException", "<init>", "()V"⟩
abbrev dcE : MethodName := ⟨"java/lang/Exception", "<init>", "()V"⟩
abbrev dcT : MethodName := ⟨"java/lang/Throwable", "<init>", "()V"⟩
set_option maxRecDepth 100000 in
theorem xh_at : ∀ w ∈ vx_at0 RX6 135 nse nsN, w ∈ gtb ∨ w ∈ [Cond.declares dcR, Cond.declares dcE, Cond.declares dcT, Cond.castable nse nse] := by decide +kernel
set_option maxRecDepth 100000 in
theorem xh_ot : ∀ w ∈ Cond.classLink RX6 133 nse :: Cond.initialized nse :: vx_at0 RX6 135 nse nsN, vx_ot w = true := by decide +kernel
theorem xh_k : Cond.classLink RX6 133 nse ∈ gtb ∧ Cond.initialized nse ∈ gtb := by decide +kernel
theorem xh_f : Bundle.fit nse = true ∧ ∀ n ∈ nsN, Bundle.fit n = true := by decide +kernel
theorem lh_w : Cond.codeWith yL_has cL_has 5 (some .int) [(0, 10, 13, 13)] ∈ gtb ∧ Cond.static yL_has ∈ gtb ∧ Cond.initialized yL_has.cls ∈ gtb ∧ Cond.classLink RL 13 nse ∈ gtb := by decide +kernel
section HX
/-- what a throw needs of the world beside the tables -/
def Zx (B : Nat → Prop) (U : State) : Prop := vx_Zq Bundle.tN "UNASSIGNED_STACK" Bundle.steD B U U.heap ∧ vx_Zq Bundle.tN "SUPPRESSED_SENTINEL" Bundle.listD B U U.heap ∧ va_Nw (.declares dcR) U ∧ va_Nw (.declares dcE) U ∧ va_Nw (.declares dcT) U ∧ va_Nw (.castable nse nse) U
theorem Zx.mv {B : Nat → Prop} {u U : State} (h : Zx B u) (hW : u.WarmedH U.vm) (hq : ∀ q : Nat, q < u.heap.size → ¬ B q → U.heap[q]? = u.heap[q]?) : Zx B U := by
  obtain ⟨h1, h2, h3, h4, h5, h6⟩ := h
  exact ⟨(h1.moved hW.alike).kept hq, (h2.moved hW.alike).kept hq, h3.warmD hW, h4.warmD hW, h5.warmD hW, h6.warmC hW⟩
theorem Zx.nar {A B : Nat → Prop} {U : State} (h : Zx A U) (hAB : ∀ q, B q → A q) : Zx B U := by
  obtain ⟨h1, h2, h3⟩ := h
  exact ⟨h1.narrow hAB, h2.narrow hAB, h3⟩
variable {l : Launch} {S : HS} {I : HI} {J : HJ} {z : SV}
theorem rl_kept {D : va_G} {cy : Nat → ClassId} {B : Nat → Prop} {ad : Nat → Nat} {H H' : Heap} (h : Rl D cy B ad S I J H) (hq : ∀ q : Nat, q < H.size → H'[q]? = H[q]?) : Rl D cy B ad S I J H' := by
  obtain ⟨L, n1, n2, hP, hD⟩ := h
  exact ⟨L, n1, n2, hP.kept (fun k q hk => hq q.1 (hP k q hk).lt), hD⟩
set_option maxRecDepth 100000 in
set_option maxHeartbeats 1000000 in
theorem x_has (htr : l.stackTraces = false) (hR : ClsR z S I J) (hO : OkC z) {r s : Int32} (no : ¬ okHas z r s) (D : va_G) (cy : Nat → ClassId) (B0 : Nat → Prop) (ad : Nat → Nat) : vx_Met l yX6_has (Cond.code yX6_has cX6_has 3 (some .int) :: gtb) (rmc 7 1 6) (fun a U => a = (([.ref 1100, .int r, .int s] : List Value).map (vv ad)).toArray ∧ Pw D cy B0 ad S I J U ∧ Zx B0 U) (fun _ _ _ _ => False) (fun E st t => E = nse ∧ Rl D cy B0 ad S I J t.heap ∧ va_F B0 st t) 1 6 B0 := by
  refine vx_ofW (cc := cX6_has) (maxL := 3) (ret := some .int) (by decide) rfl ?_
  intro p e s0 m args below meth c s₁ B hml hex hv
  obtain ⟨rfl, ⟨hRl, hK, hB, hX⟩, hZ⟩ := hv
  have hts := atoms_spec (ws := Cond.code yX6_has cX6_has 3 (some .int) :: gtb) B.pre
  have hown : s0.vm.findClass yX6_has.cls = some m.cls := findClass_of_methodNamed B.named
  have hin : meth.name = yX6_has.name := (name_of_methodNamed B.named B.method).1
  obtain ⟨QQ, hQQ⟩ : ∃ QQ, QQ = vx_MQ below (fun _ _ _ _ => False) (fun E st t => E = nse ∧ Rl D cy B0 ad S I J t.heap ∧ va_F B0 st t) (([.ref 1100, .int r, .int s] : List Value).map (vv ad)).toArray s0 1 6 B0 := ⟨_, rfl⟩
  obtain ⟨X, hXX⟩ : ∃ X : VX, X = ((p, l, e, (headSpec (Cond.code yX6_has cX6_has 3 (some .int) :: gtb) (rmc 7 1 6)).room, s0, m, (([.ref 1100, .int r, .int s] : List Value).map (vv ad)).toArray, below, meth, c), D, cy, B0, ad, (fun _ => True), 1, 6, 3, some QQ) := ⟨_, rfl⟩
  have C : Cx X cX6_has yX6_has (some .short) (rmc 7 1 6) := by
    rw [hXX]
    exact ⟨B.exec, B.bytes, hml, hown, fun w hw => hts w (List.mem_cons_of_mem _ hw), Or.inr rfl, B.notSynchronized, hK, hB, hX, rfl, hin, rfl, rfl, fun _ _ => trivial⟩
  have hn : ∀ k, k < 3 → k < xn X := by rw [hXX]; exact fun k hk => hk
  have thr : ∀ lv, V X (fun _ _ _ _ => False) 0 0 21 lv [] S I J := by
    intro lv ad' H locs ls h1 h2 h3 h4
    have ea : ad' = ad := by
      funext k
      have := h2 k (by rw [hXX]; trivial)
      rw [this, hXX]
    subst ea
    rw [hXX] at h1 h3 h4 ⊢
    show W p l e (rmc 7 1 6) s0 m _ below meth c H locs 0 0 QQ (F0 m 21 ls [])
    rw [hQQ]
    have hg : ∀ w ∈ gtb, w.before (([.ref 1100, .int r, .int s] : List Value).map (vv ad')).toArray s0 = true := fun w hw => hts w (List.mem_cons_of_mem _ hw)
    obtain ⟨z1, z2, z3, z4, z5, z6⟩ := hZ
    refine vx_throw0 (names := nsN) (A := B0) B.exec B.bytes htr hown xh_f.1 xh_f.2 (hg _ xh_k.1) (hg _ xh_k.2) (fun w hw => ?_) xh_ot z1 z2 h3 (h4.1.trans hml.symm) dX6_has_21 dX6_has_24 dX6_has_25 dX6_has_28 (fun x hx => (hex x hx).elim) (by decide) (by decide) (by decide) (by decide) B.notSynchronized (fun t _ f1 f2 => ⟨rfl, rl_kept h1 f2, Nat.le_trans h3.1 f1, fun q g1 g2 => (f2 q (Nat.lt_of_lt_of_le g1 h3.1)).trans (h3.2.1 q g1 g2)⟩) h3.2.2 (by decide) (by decide)
    rcases xh_at w hw with h | h
    · exact hg w h
    · simp only [List.mem_cons, List.not_mem_nil, or_false] at h
      rcases h with rfl | rfl | rfl | rfl
      · exact z3.use rfl
      · exact z4.use rfl
      · exact z5.use rfl
      · exact z6.use rfl
  have body : V X (fun _ _ _ _ => False) 0 0 0 (lvs 3 [.ref 1100, .int r, .int s]) [] S I J := by
    obtain ⟨la, lb, hS, hC⟩ := hR
    obtain ⟨h1, ⟨r0, r1, r3, r4, r5, r6, r7⟩, hF, -, -, -, -, -, h9, h10, -⟩ := id hS
    have hK1 := h9.1
    have hxl : xl X = l := by rw [hXX]
    by_cases g1 : isR z.1.1 r
    · have g2 : ¬ wi s (nI 0) (nI 7) := fun h => no ⟨g1, h⟩
      refine V_aload_n C dX6_has_0 rfl ?_
      refine V_getR C fl_X6_10 (ob_K h1) r0 rfl dX6_has_1 ?_
      refine V_iload_n C dX6_has_4 rfl ?_
      refine V_callV (F := fun _ => True) C (c_isRing h9 hC.1.1 hO.1.1.1 r) mi_X1_isRing ml_X6_79 rfl (ob_K hK1) (by decide) (by decide) (by decide) (Nat.le_of_ble_eq_true rfl) (fun _ _ => trivial) (fun v _ => clo_T v) rfl dX6_has_5 ?_
      rintro v S' I' J' ⟨hS9, rfl, hI9, hJ9⟩
      obtain rfl := hS9.symm
      obtain rfl := hI9.symm
      obtain rfl := hJ9.symm
      refine V_if_eq C 21 dX6_has_8 (by decide) (fun h8 => absurd h8 (by rw [bI_0]; exact fun q => q g1)) (fun h8 => ?_)
      refine V_iload_n C dX6_has_11 rfl ?_
      refine V_iconst C (v := nI 0) dX6_has_12 (by decide +kernel) ?_
      refine V_bipush C (v := nI 7) dX6_has_13 (by decide +kernel) ?_
      refine V_callS (F := fun _ => True) C (m_isW _ _ _) ms_X6_isWithin ml_X6_71 rfl (by decide) (by decide) (Nat.le_of_ble_eq_true rfl) (fun _ _ => trivial) (fun v _ => clo_T v) rfl dX6_has_15 ?_
      rintro v S' I' J' ⟨hS9, rfl, hI9, hJ9⟩
      obtain rfl := hS9.symm
      obtain rfl := hI9.symm
      obtain rfl := hJ9.symm
      refine V_if_ne C 29 dX6_has_18 (by decide) (fun h18 => absurd (bI_f g2) h18) (fun h18 => ?_)
      exact thr _
    · refine V_aload_n C dX6_has_0 rfl ?_
      refine V_getR C fl_X6_10 (ob_K h1) r0 rfl dX6_has_1 ?_
      refine V_iload_n C dX6_has_4 rfl ?_
      refine V_callV (F := fun _ => True) C (c_isRing h9 hC.1.1 hO.1.1.1 r) mi_X1_isRing ml_X6_79 rfl (ob_K hK1) (by decide) (by decide) (by decide) (Nat.le_of_ble_eq_true rfl) (fun _ _ => trivial) (fun v _ => clo_T v) rfl dX6_has_5 ?_
      rintro v S' I' J' ⟨hS9, rfl, hI9, hJ9⟩
      obtain rfl := hS9.symm
      obtain rfl := hI9.symm
      obtain rfl := hJ9.symm
      refine V_if_eq C 21 dX6_has_8 (by decide) (fun h8 => ?_) (fun h8 => absurd (bI_f g1) h8)
      exact thr _
  have hl0 := lv_entry (([.ref 1100, .int r, .int s] : List Value).map (vv ad)) (n := 3) (by simp [lg_sl, vv, Value.category])
  rw [lg_entry_eq]
  have fin := body ad s0.heap [] _ (by rw [hXX]; exact hRl) (by rw [hXX]; exact fun _ _ => rfl) (by rw [hXX]; exact va_S.rf) (by rw [hXX]; exact ⟨hl0.1, hl0.2.1, fun i v hi => hl0.2.2 (i, vv ad v) (lvs_args ad hi)⟩)
  rw [hXX] at fin
  rw [← hQQ]
  exact fin
end HX
