/-! the law's calls of has and thrown; its row of one long -/
section LS
def nrvL : List Value → Prop
  | [] => True
  | v :: l => nrv v ∧ nrvL l
theorem nrv_a : ∀ {l : List Value}, nrvL l → ∀ v ∈ l, nrv v := by
  intro l
  induction l with
  | nil => intro _ v hv; cases hv
  | cons a l ih =>
    intro h v hv
    rcases List.mem_cons.mp hv with rfl | hv
    · exact h.1
    · exact ih h.2 v hv
variable {X : VX} {cc : ByteArray} {y : MethodName} {ret : Option FieldType} {rm : Room} {nc ns pc : Nat} {lv : List (Option Value)} {st : List Value}
theorem lh_good : GoodIn gtb (va_wsS RL 63 yL_has (Cond.codeWith yL_has cL_has 5 (some .int) [(0, 10, 13, 13)] :: gtb)) := by
  intro w hw
  unfold va_wsS at hw
  simp only [List.cons_append, List.nil_append, List.mem_cons] at hw
  rcases hw with rfl | rfl | rfl | rfl | hw
  · exact gtb_good _ ml_L_63
  · exact gtb_good _ lh_w.2.1
  · exact gtb_good _ lh_w.2.2.1
  · exact gtb_good _ lh_w.1
  · exact gtb_good _ hw
set_option maxRecDepth 100000 in
theorem L_hs (C : Cx X cc y ret rm) (hyc : y.cls = RL) (htr : (xl X).stackTraces = false) {xa ma oa : Nat} {z zr : SV} {f : HI → Prop} {o : Nat → Int64} {r s : Int32} {rest : List Value} (hO : OkC z) (hZ : Zx (xB X) (xs X)) (hr : (rmc 8 1 6).frames + 1 ≤ rm.frames ∧ 8 + (5 + 11) + (rmc 8 1 6).locals ≤ rm.locals) (hc : nc + 1 ≤ rm.cells ∧ ns + 6 ≤ rm.slots) (hw : (rest.map fun v => v.category).sum ≤ 8) (hst : st = .ref oa :: .int s :: .int r :: .ref xa :: rest) (hd : decode cc pc = .ok (.invokestatic 63, 3))
    (k : VL X (PW X xa ma oa z zr f (hsO z r s o)) (nc + 1) (ns + 6) (pc + 3) lv (.int (if okHas z r s then nI 0 else nI 1) :: rest)) : VL X (PW X xa ma oa z zr f o) nc ns pc lv st := by
  intro H locs ls hPW h3 h4
  obtain ⟨wc, wr, hCw, hRw, hP, hD⟩ := hPW
  have hts := C.2.2.2.2.1
  have hRR := C.2.2.2.2.2.2.2.2.2.2.1
  have hP' := vaP_cm hP
  have hD' := vaD_cm hD
  obtain ⟨hPr, hPc⟩ := vaP_app.mp hP'
  obtain ⟨hDr, hDc, hdis⟩ := vaD_app.mp hD'
  have hpre : ∀ U : State, U.heap = H → (xs X).WarmedH U.vm → HP (xD X) (xy X) (Bx (xB X) wr) (xad X) xa oa z o U := by
    intro U hU hW
    refine ⟨⟨wc, hCw, by rw [hU]; exact hPc, hDc.weaken (fun j q hq h => ⟨h, fun p hp e => hdis p hp q (List.mem_of_getElem? hq) e⟩)⟩, va_K.moved hW.alike C.2.2.2.2.2.2.2.1, fun q hq => ⟨C.2.2.2.2.2.2.2.2.1 q (Nat.le_trans h3.1 (by rw [hU] at hq; exact hq)), fun p hp e => ?_⟩, ?_, ?_⟩
    · obtain ⟨j, hj⟩ := List.getElem?_of_mem hp
      have := (hPr j p hj).lt
      rw [hU] at hq
      omega
    · exact Xt_nar (Xt_moved hW (fun q hq hn => by rw [hU]; exact h3.2.1 q hq hn) C.2.2.2.2.2.2.2.2.2.1) (fun q h => h.1)
    · exact (Zx.mv hZ hW (fun q hq hn => by rw [hU]; exact h3.2.1 q hq hn)).nar (fun q h => h.1)
  have hrun := vx_runSW (e := xe X) (below := xb X) (meth := xh X) (Ts := gtb) (As := [.ref xa, .int r, .int s, .ref oa]) (rest := rest) (n := 4) (g := F0 (xm X) pc ls (.ref oa :: .int s :: .int r :: .ref xa :: rest)) (H := H) (locs := locs) (cells := nc) (slots := ns) ⟨C.1, C.2.1, C.2.2.1, C.2.2.2.1, hts⟩ (l_has (l := xl X) htr hO r s (xD X) (xy X) (Bx (xB X) wr) (xad X) xa oa o)
    (vx_cwSW (R := xR X) (own := y.cls) (index := 63) 4 hts (by rw [hyc]; exact lh_good) rfl rfl rfl (by decide +kernel) (by rw [hRR]; exact hr)) ⟨HP_blind, fun U hU hW => ⟨rfl, hpre U hU hW⟩⟩ rfl rfl h4.1 rfl (lv_room hw) hd (by rw [hRR]; exact hc)
  rw [map_id_vv, hst]
  intro T hT X0
  obtain ⟨v, st₀, t, T', L, h0, X', hL, e1, e2, ⟨⟨hv, wc', hcw', hPc', hDc'⟩, hz, hk⟩, hgo⟩ := hrun T hT X0
  cases hv
  rw [h0] at hz hk
  have hPr' : va_P (xD X) vwCl wr t.heap := hPr.kept (fun j q hq => hk q.1 (hPr j q hq).lt (fun b => b.2 q (List.mem_of_getElem? hq) rfl))
  have kk := k T'.heap (locs ++ L) ls ⟨wc', wr, hcw', hRw, by rw [e1]; exact vaP_cm (vaP_app.mpr ⟨hPr', hPc'⟩), vaD_cm (vaD_app.mpr ⟨hDr, hDc'.weaken (fun _ _ _ h => h.1), fun p hp q hq => ((vaD_m.mp hDc').2 q hq).2 p hp⟩)⟩
    ⟨Nat.le_trans h3.1 (by rw [e1]; exact hz), fun q g1 g2 => by rw [e1, hk q (Nat.lt_of_lt_of_le g1 h3.1) (fun b => g2 b.1)]; exact h3.2.1 q g1 g2, fun q hq => by
      rcases List.mem_append.mp hq with h | h
      · exact h3.2.2 q h
      · exact (hL q h).1⟩ h4
  rw [map_id_vv] at kk
  obtain ⟨t2, a1, b1⟩ := kk T' rfl X'
  exact ⟨t2, hgo t2 a1, b1⟩
theorem L_rh (C : Cx X cc y ret rm) {ix xa ma oa : Nat} {zc zr : SV} {r s : Int32} {o : Nat → Int64} {rest : List Value} (hO : OkR zr) (hl : Cond.methodLink y.cls ix yX7_has ∈ gtb) (hr : (rmk 1).frames + 1 ≤ rm.frames ∧ 8 + (3 + 11) + (rmk 1).locals ≤ rm.locals) (hc : nc ≤ rm.cells ∧ ns ≤ rm.slots) (hw : (rest.map fun v => v.category).sum ≤ 8) (hst : st = .int s :: .int r :: .ref ma :: rest) (hd : decode cc pc = .ok (.invokevirtual ix, 3))
    (k : ∀ x, (okHas zr r s → x = hasV zr.1.1 r s) → VL X (PW X xa ma oa zc zr (fun I => I 1000 0 = bI (¬ okHas zr r s)) o) nc ns (pc + 3) lv (.int x :: rest)) : VL X (PW X xa ma oa zc zr (fun _ => True) o) nc ns pc lv st := by
  intro H locs ls hPW h3 h4
  obtain ⟨wc, wr, hCw, ⟨ad, S, I, J, w1, ⟨w2, w5, w6⟩, w3, w4⟩, hP, hD⟩ := hPW
  have key := L_callV (nc := nc) (ns := ns) (rest := rest) C (m_has (l := xl X) w2 w5 hO r s) mi_X7_has hl rfl w2.1 ⟨by decide, rfl⟩ hr hc hw hd w4 w1 (vaP_cm hP) (vaD_cm hD) h3 h4 (fun v S' I' J' ad' w1' H' locs' hp hF' hw' hP' hD' hS' => by
    obtain ⟨rfl, ⟨x, rfl, hx⟩, h0, hrf⟩ := hp
    have kk := k x hx H' locs' ls ⟨wc, w1', hCw, ⟨ad', S', I', J', hw', ⟨w2, hrf, h0⟩, (hF' 1000 trivial).trans w3, fun q hq => (hF' q trivial).trans (w4 q hq)⟩, vaP_cm hP', vaD_cm hD'⟩ hS' h4
    rw [map_id_vv] at kk
    exact kk)
  rw [w3] at key
  rw [map_id_vv, hst]
  exact key
theorem L_rt (C : Cx X cc y ret rm) {ix xa ma oa : Nat} {zc zr : SV} {t : Int32} {o : Nat → Int64} {rest : List Value} (hl : Cond.methodLink y.cls ix yX7_thrown ∈ gtb) (hr : (rmk 0).frames + 1 ≤ rm.frames ∧ 8 + (1 + 11) + (rmk 0).locals ≤ rm.locals) (hc : nc ≤ rm.cells ∧ ns ≤ rm.slots) (hw : (rest.map fun v => v.category).sum ≤ 8) (hst : st = .ref ma :: rest) (hd : decode cc pc = .ok (.invokevirtual ix, 3))
    (k : VL X (PW X xa ma oa zc zr (fun _ => True) o) nc ns (pc + 3) lv (.int t :: rest)) : VL X (PW X xa ma oa zc zr (fun I => I 1000 0 = t) o) nc ns pc lv st := by
  intro H locs ls hPW h3 h4
  obtain ⟨wc, wr, hCw, ⟨ad, S, I, J, w1, ⟨w2, w5, w6⟩, w3, w4⟩, hP, hD⟩ := hPW
  have key := L_callV (nc := nc) (ns := ns) (rest := rest) C (m_thrown (l := xl X) (I := I) (J := J) w2) mi_X7_thrown hl rfl w2.1 ⟨by decide, rfl⟩ hr hc hw hd w4 w1 (vaP_cm hP) (vaD_cm hD) h3 h4 (fun v S' I' J' ad' w1' H' locs' hp hF' hw' hP' hD' hS' => by
    obtain ⟨rfl, rfl, rfl, rfl⟩ := hp
    have kk := k H' locs' ls ⟨wc, w1', hCw, ⟨ad', S', I', J', hw', ⟨w2, w5, trivial⟩, (hF' 1000 trivial).trans w3, fun q hq => (hF' q trivial).trans (w4 q hq)⟩, vaP_cm hP', vaD_cm hD'⟩ hS' h4
    rw [map_id_vv, ← w6] at kk
    exact kk)
  rw [w3] at key
  rw [map_id_vv, hst]
  exact key
theorem L_lald (C : Cx X cc y ret rm) {xa ma oa : Nat} {zc zr : SV} {f : HI → Prop} {o : Nat → Int64} (hd : decode cc pc = .ok (.laload, 1)) (k : VL X (PW X xa ma oa zc zr f o) nc ns (pc + 1) lv (.long (o 0) :: st)) : VL X (PW X xa ma oa zc zr f o) nc ns pc lv (.int (nI 0) :: .ref oa :: st) := by
  intro H locs ls hPW h3 h4
  have kk := k H locs ls hPW h3 h4
  obtain ⟨wc, wr, hCw, hRw, hP, hD⟩ := hPW
  obtain ⟨q0, hq0⟩ := List.getElem?_of_mem (show ouW (xy X) oa o ∈ wc ++ (wr ++ [ouW (xy X) oa o]) from List.mem_append.mpr (Or.inr (List.mem_append.mpr (Or.inr (List.mem_singleton.mpr rfl)))))
  exact va_lald C.1 C.2.1 C.2.2.2.2.2.2.2.1 hP q0 2 hq0 rfl (i := nI 0) (vp_in_nI (by decide) (by decide)) hd kk
end LS
