/-! the law's own method that calls has and catches what it throws -/
section LH
theorem Met_WH {l : Launch} {y : MethodName} {ws ws' : List Cond} {rm : Room} {Pc : Array Value → State → Prop} {Qc : Array Value → State → Outcome → State → Prop} {mc ms : Nat} {free : Addr → Prop} {cc : ByteArray} {maxL : Nat} {ret : Option FieldType} {hh : List (Nat × Nat × Nat × Nat)}
    (hy : plainName y.cls = true) (hw : ws = Cond.codeWith y cc maxL ret hh :: ws')
    (body : ∀ p e s m args below meth c s₁, BodyLoose p l y (headSpec ws rm) cc maxL ret e s m args below meth c s₁ → c.maxLocals = maxL → Pc args s →
      W p l e (headSpec ws rm).room s m args below meth c s.heap [] 0 0 (MQ below Qc args s mc ms free) (entryFrame m args maxL)) : Met l y ws rm Pc Qc mc ms free := by
  refine MetFree.of_bodyS (code := cc) (maxLocals := maxL) (ret := ret) hy ?_ ?_
  · intro args s m h hn
    obtain ⟨m9, meth, c, hn9, h1, h2, h3, h4, -, h5, h6, -⟩ := Cond.codeWith_spec (atoms_spec (ws := ws) h _ (by rw [hw]; exact List.mem_cons_self))
    cases hn.symm.trans hn9
    exact ⟨meth, c, h1, h2, h3, h4, h5, h6⟩
  · intro p e s m args below meth c s₁ B hml hP _
    have hh0 : s₁.heap = s.heap := by rw [B.state]; rfl
    obtain ⟨t, a1, o, b1, b2, b3⟩ := body p e s m args below meth c s₁ B hml hP s₁ hh0 (Stand.of_body B)
    exact ⟨t, o, a1, b1, b2, ⟨b3.1, b3.2⟩⟩
/-- the class's world and the row of one long -/
def HO (D : va_G) (cy : Nat → ClassId) (B : Nat → Prop) (a0 : Nat → Nat) (xa oa : Nat) (z : SV) (o : Nat → Int64) (H : Heap) : Prop := ∃ wc, CWd cy a0 xa z wc ∧ va_P D vwCl (wc ++ [ouW cy oa o]) H ∧ va_D B (wc ++ [ouW cy oa o])
def HP (D : va_G) (cy : Nat → ClassId) (B : Nat → Prop) (a0 : Nat → Nat) (xa oa : Nat) (z : SV) (o : Nat → Int64) (U : State) : Prop := HO D cy B a0 xa oa z o U.heap ∧ va_K D vwCl (tys cy) U ∧ (∀ q, U.heap.size ≤ q → B q) ∧ Xt a0 B U ∧ Zx B U
def hsO (z : SV) (r s : Int32) (o : Nat → Int64) : Nat → Int64 := if okHas z r s then vp_updL o 0 (hasV z.1.1 r s).toInt64 else o
theorem HP_blind {D : va_G} {cy : Nat → ClassId} {B : Nat → Prop} {a0 : Nat → Nat} {xa oa : Nat} {z : SV} {o : Nat → Int64} {as : Array Value} : FrameBlind (fun a U => a = as ∧ HP D cy B a0 xa oa z o U) := by
  intro a U g mk h
  obtain ⟨h0, h1, h2, h3, h4, h5⟩ := h
  exact ⟨h0, h1, va_K.moved (u := U) (U := U.calling g mk a) (Vm.Alike.refl U.vm) h2, h3, Xt_moved (u := U) (U := U.calling g mk a) (State.WarmedH.refl U) (fun _ _ _ => rfl) h4, Zx.mv (u := U) (U := U.calling g mk a) h5 (State.WarmedH.refl U) (fun _ _ _ => rfl)⟩
theorem xhas_blind {D : va_G} {cy : Nat → ClassId} {B0 : Nat → Prop} {ad : Nat → Nat} {S : HS} {I : HI} {J : HJ} {as : Array Value} : FrameBlind (fun a U => a = as ∧ Pw D cy B0 ad S I J U ∧ Zx B0 U) := by
  intro a U g mk h
  obtain ⟨h0, h1, h5⟩ := h
  exact ⟨h0, (Pw_blind (as := as) a U g mk ⟨h0, h1⟩).2, Zx.mv (u := U) (U := U.calling g mk a) h5 (State.WarmedH.refl U) (fun _ _ _ => rfl)⟩
variable {l : Launch} {z : SV}
set_option maxRecDepth 100000 in
set_option maxHeartbeats 1000000 in
theorem l_has (htr : l.stackTraces = false) (hO : OkC z) (r s : Int32) (D : va_G) (cy : Nat → ClassId) (B0 : Nat → Prop) (a0 : Nat → Nat) (xa oa : Nat) (o : Nat → Int64) : Met l yL_has (Cond.codeWith yL_has cL_has 5 (some .int) [(0, 10, 13, 13)] :: gtb) (rmc 8 1 6) (fun a U => a = #[.ref xa, .int r, .int s, .ref oa] ∧ HP D cy B0 a0 xa oa z o U) (fun _ st oc t => (oc = .returned (some (.int (if okHas z r s then nI 0 else nI 1))) ∧ HO D cy B0 a0 xa oa z (hsO z r s o) t.heap) ∧ va_F B0 st t) 1 6 B0 := by
  refine Met_WH (cc := cL_has) (maxL := 5) (ret := some .int) (by decide) rfl ?_
  intro p e s0 m args below meth c s₁ B hml hv
  obtain ⟨rfl, hO0, hK, hB, hX, hZ⟩ := hv
  have hts := atoms_spec (ws := Cond.codeWith yL_has cL_has 5 (some .int) [(0, 10, 13, 13)] :: gtb) B.pre
  have htab : c.exceptionTable.toList = [⟨0, 10, 13, 13⟩] := vx_table (x := yL_has) B (hts _ List.mem_cons_self)
  have hown : s0.vm.findClass yL_has.cls = some m.cls := findClass_of_methodNamed B.named
  have hin : meth.name = yL_has.name := (name_of_methodNamed B.named B.method).1
  have hg : ∀ w ∈ gtb, w.before #[.ref xa, .int r, .int s, .ref oa] s0 = true := fun w hw => hts w (List.mem_cons_of_mem _ hw)
  obtain ⟨QQ, hQQ⟩ : ∃ QQ, QQ = MQ below (fun _ st oc t => (oc = .returned (some (.int (if okHas z r s then nI 0 else nI 1))) ∧ HO D cy B0 a0 xa oa z (hsO z r s o) t.heap) ∧ va_F B0 st t) #[.ref xa, .int r, .int s, .ref oa] s0 1 6 B0 := ⟨_, rfl⟩
  obtain ⟨X, hXX⟩ : ∃ X : VX, X = ((p, l, e, (headSpec (Cond.codeWith yL_has cL_has 5 (some .int) [(0, 10, 13, 13)] :: gtb) (rmc 8 1 6)).room, s0, m, #[.ref xa, .int r, .int s, .ref oa], below, meth, c), D, cy, B0, a0, (fun k => 5000 ≤ k), 1, 6, 5, some QQ) := ⟨_, rfl⟩
  have C : Cx X cL_has yL_has (some .short) (rmc 8 1 6) := by
    rw [hXX]
    exact ⟨B.exec, B.bytes, hml, hown, hg, Or.inr rfl, B.notSynchronized, hK, hB, hX, rfl, hin, rfl, rfl, fun _ h => h⟩
  have hn : ∀ k, k < 5 → k < xn X := by rw [hXX]; exact fun k hk => hk
  have hxl : xl X = l := by rw [hXX]
  have hxD : xD X = D := by rw [hXX]
  have hxy : xy X = cy := by rw [hXX]
  have hxB : xB X = B0 := by rw [hXX]
  have hxa : xad X = a0 := by rw [hXX]
  have retW : ∀ (v : Int32) (pc nc ns : Nat) (lv : List (Option Value)), nc ≤ 1 → ns ≤ 6 → decode cL_has pc = .ok (.ireturn, 1) → v = (if okHas z r s then nI 0 else nI 1) → VL X (HO D cy B0 a0 xa oa z (hsO z r s o)) nc ns pc lv [.int v] := by
    intro v pc nc ns lv h1 h2 hd ev H locs ls hH h3 h4
    rw [hXX] at h3 ⊢
    show W p l e (rmc 8 1 6) s0 m _ below meth c H locs nc ns QQ (F0 m pc ls [.int v])
    rw [hQQ]
    refine W.widen h1 h2 ?_
    exact W.iret B.exec B.bytes B.returns (fun t ht _ => ⟨⟨by rw [ev], by rw [ht]; exact hH⟩, h3.F ht⟩) h3.2.2 hd (hlocks := B.notSynchronized)
  have at5 : VL X (HO D cy B0 a0 xa oa z o) 0 0 5 [some (.ref xa), some (.int r), some (.int s), some (.ref oa), none] [.int s, .int r, .ref xa, .int (nI 0), .ref oa] := by
    intro H locs ls hH h3 h4
    obtain ⟨wc, ⟨ad, S, I, J, w1, w2, w3, w4⟩, hP, hD⟩ := hH
    have hob : Ob S 6 1100 := by obtain ⟨la, lb, hS, -⟩ := id w2; exact hS.1
    rw [← hxD] at hP
    rw [← hxB] at hD
    rw [← hxy] at w1 hP hD
    rw [← hxa] at w4
    by_cases ok : okHas z r s
    · have key := L_callV (nc := 0) (ns := 0) (rest := [.int (nI 0), .ref oa]) (ad := ad) C (f_has (l := xl X) w2 hO ok) mi_X6_has ml_L_7 rfl hob.1 ⟨by decide, rfl⟩ (by decide) (by decide) (Nat.le_of_ble_eq_true rfl) dL_has_5 w4 w1 hP hD h3 h4 (fun v S' I' J' ad' w1' H' locs' hp hF' hw' hP' hD' hS' => by
        obtain ⟨rfl, hcl⟩ := hp
        have hH' : HO D cy B0 a0 xa oa z o H' := ⟨w1', ⟨ad', S', I', J', by rw [← hxy]; exact hw', hcl, (hF' 1100 trivial).trans w3, fun q hq => by rw [← hxa]; exact (hF' q trivial).trans (w4 q hq)⟩, by rw [← hxD, ← hxy]; exact hP', by rw [← hxB, ← hxy]; exact hD'⟩
        have kk : VL X (HO D cy B0 a0 xa oa z o) 0 0 8 [some (.ref xa), some (.int r), some (.int s), some (.ref oa), none] [.int (hasV z.1.1 r s), .int (nI 0), .ref oa] := by
          refine L_i2l C dL_has_8 ?_
          intro H2 locs2 ls2 hH2 h3' h4'
          obtain ⟨wc2, hcw2, hP2, hD2⟩ := hH2
          rw [← hxD] at hP2
          rw [← hxB] at hD2
          have hix : (wc2 ++ [ouW cy oa o])[wc2.length]? = some (oa, .inl (cy 2, 1, .inr (.inl o))) := by rw [List.getElem?_append_right (Nat.le_refl _), Nat.sub_self]; rfl
          refine va_last C.1 C.2.1 C.2.2.2.2.2.2.2.1 hP2 hD2 h3' wc2.length 2 hix (by rw [hxy]; rfl) (i := nI 0) (vp_in_nI (by decide) (by decide)) dL_has_9 (fun H3 locs3 hP3 hD3 hS3 => ?_)
          have eset : (wc2 ++ [ouW cy oa o]).set wc2.length (oa, .inl (cy 2, 1, .inr (.inl (vp_updL o (nI 0).toNatClampNeg (hasV z.1.1 r s).toInt64)))) = wc2 ++ [ouW cy oa (hsO z r s o)] := by
            rw [List.set_append_right _ _ (Nat.le_refl _), Nat.sub_self]
            unfold hsO
            rw [if_pos ok]
            rfl
          rw [eset] at hP3 hD3
          have k2 : VL X (HO D cy B0 a0 xa oa z (hsO z r s o)) 0 0 10 [some (.ref xa), some (.int r), some (.int s), some (.ref oa), none] [] := by
            refine L_goto C 17 dL_has_10 (by decide) ?_
            refine L_iconst C (v := nI 0) dL_has_17 (by decide +kernel) ?_
            exact retW _ 18 0 0 _ (by decide) (by decide) dL_has_18 (by rw [if_pos ok])
          exact k2 H3 locs3 ls2 ⟨wc2, hcw2, by rw [← hxD]; exact hP3, by rw [← hxB]; exact hD3⟩ hS3 h4'
        have := kk H' locs' ls hH' hS' h4
        exact this)
      rw [w3] at key
      exact key
    · have hts := C.2.2.2.2.1
      have hRR := C.2.2.2.2.2.2.2.2.2.2.1
      obtain ⟨hP1, hP2⟩ := vaP_app.mp hP
      obtain ⟨hD1, hD2, hd12⟩ := vaD_app.mp hD
      obtain ⟨L, n1, n2, ew⟩ := id w1
      obtain ⟨q0, -, hq⟩ := wsl_get (cy := xy X) (ad := ad) (S := S) (I := I) (J := J) ((n2 1100).mpr (by rw [hob.1]; omega))
      rw [cel_o hob.1 (by decide)] at hq
      obtain ⟨c1, -⟩ := cl_ok 6 (by decide)
      have hrecv := va_recv C.2.2.2.2.2.2.2.1 (ew ▸ hP1) c1 hq
      rw [show ((Rc 6, Tc 6, nf 6) : vw_C).1 = yX6_has.cls from rfl] at hrecv
      have hr := vx_runV (e := xe X) (below := xb X) (meth := xh X) (Ts := gtb) (C := yX6_has.cls) (b := ad 1100) (As := [.int r, .int s]) (rest := [.int (nI 0), .ref oa]) (n := 2) (g := F0 (xm X) 5 ls [.int s, .int r, .ref (ad 1100), .int (nI 0), .ref oa]) (locs := locs) (cells := 0) (slots := 0) ⟨C.1, C.2.1, C.2.2.1, C.2.2.2.1, hts⟩ (x_has (l := xl X) (by rw [hxl]; exact htr) w2 hO ok (xD X) (xy X) (Bx (xB X) [ouW (xy X) oa o]) ad)
        ⟨callB_of (R := xR X) 2 hts (gtb_code mi_X6_has.2.2.2.1) rfl rfl rfl (hts _ mi_X6_has.2.2.1) (hts _ ml_L_7) mi_X6_has.2.2.2.2 (by rw [hRR]; decide), hts _ mi_X6_has.1, hts _ mi_X6_has.2.1⟩
        ⟨xhas_blind, hrecv, fun U hU hW => ⟨rfl, Pw_2 C w4 w1 hP hD h3 U hU hW, (Zx.mv (u := xs X) (B := xB X) (by rw [hXX]; exact hZ) hW (fun q hq hn => by rw [hU]; exact h3.2.1 q hq hn)).nar (fun q h => h.1)⟩⟩ rfl rfl h4.1 rfl (lv_room (Nat.le_of_ble_eq_true rfl)) dL_has_5 (by rw [hRR]; decide)
      rw [map_id_vv, ← w3]
      intro T hT X0
      rcases hr T hT X0 with ⟨v, st₀, t, T', L2, h0, X', hL, e1, e2, hF, -⟩ | ⟨q, st₀, t, T', L2, E, ce, h0, X', hL, e1, e2, ⟨rfl, hRl, hz, hk⟩, hce, hcv, hcl, st⟩
      · exact hF.elim
      · rw [h0] at hz hk
        obtain ⟨w1', hw1', hP1', hD1'⟩ := hRl.wd
        have hP2' : va_P (xD X) vwCl [ouW (xy X) oa o] t.heap := hP2.kept (fun j q hq => hk q.1 (hP2 j q hq).lt (fun b => b.2 q (List.mem_of_getElem? hq) rfl))
        have hH' : HO D cy B0 a0 xa oa z (hsO z r s o) T'.heap := by
          unfold hsO
          rw [if_neg ok, e1]
          refine ⟨w1', ⟨ad, S, I, J, by rw [← hxy]; exact hw1', w2, w3, fun q hq => by rw [← hxa]; exact w4 q hq⟩, by rw [← hxD, ← hxy]; exact vaP_app.mpr ⟨hP1', hP2'⟩, by rw [← hxB, ← hxy]; exact vaD_app.mpr ⟨hD1'.weaken (fun _ _ _ h => h.1), hD2, fun p hp q hq e => ((vaD_m.mp hD1').2 p hp).2 q hq e.symm⟩⟩
        have hS' : va_S (xB X) (xs X).heap T'.heap (locs ++ L2) := ⟨Nat.le_trans h3.1 (by rw [e1]; exact hz), fun q g1 g2 => by rw [e1, hk q (Nat.lt_of_lt_of_le g1 h3.1) (fun b => g2 b.1)]; exact h3.2.1 q g1 g2, fun q hq => by
          rcases List.mem_append.mp hq with h | h
          · exact h3.2.2 q h
          · exact (hL q h).1⟩
        have kv : VL X (HO D cy B0 a0 xa oa z (hsO z r s o)) 1 6 13 [some (.ref xa), some (.int r), some (.int s), some (.ref oa), none] [.ref q] := by
          refine L_astore C dL_has_13 (hn _ (by decide)) ?_
          refine L_iconst C (v := nI 1) dL_has_15 (by decide +kernel) ?_
          exact retW _ 16 1 6 _ (by decide) (by decide) dL_has_16 (by rw [if_neg ok])
        have kk := kv T'.heap (locs ++ L2) ls hH' hS' h4
        obtain ⟨t2, a1, b1⟩ := cx_catch (x := ⟨0, 10, 13, 13⟩) (rest := [.int (nI 0), .ref oa]) (pc := 5) (own := RL) (name := nse) (E := nse) C.2.2.2.1 (by rw [hXX]; exact htab) (by decide) (by decide) (hts _ lh_w.2.2.2) (by rw [hXX]; exact hZ.2.2.2.2.2.use rfl) (by rw [e1]; exact hce) hcv hcl kk T' rfl X'
        exact ⟨t2, st.trans a1, b1⟩
  have body : VL X (HO D cy B0 a0 xa oa z o) 0 0 0 (lvs 5 [.ref xa, .int r, .int s, .ref oa]) [] := by
    refine L_aload_n C dL_has_0 rfl ?_
    refine L_iconst C (v := nI 0) dL_has_1 (by decide +kernel) ?_
    refine L_aload_n C dL_has_2 rfl ?_
    refine L_iload_n C dL_has_3 rfl ?_
    refine L_iload_n C dL_has_4 rfl ?_
    exact at5
  have hl0 := lv_entry ([.ref xa, .int r, .int s, .ref oa] : List Value) (n := 5) (by simp [lg_sl, Value.category])
  rw [show (#[Value.ref xa, .int r, .int s, .ref oa] : Array Value) = ([.ref xa, .int r, .int s, .ref oa] : List Value).toArray from rfl, lg_entry_eq]
  have fin := body s0.heap [] _ hO0 (by rw [hXX]; exact va_S.rf) (by rw [hXX]; exact ⟨hl0.1, hl0.2.1, fun i v hi => by
    have := hl0.2.2 (i, vv id v) (by have h := lvs_args id hi; rw [map_id_vv] at h; exact h)
    exact this⟩)
  rw [hXX] at fin
  rw [hQQ] at fin
  exact fin
end LH
