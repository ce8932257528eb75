/-! the law's worlds: the class's, the reference's, a row of one long; calls of either -/
section PWs
/-- a row of one long -/
def ouW (cy : Nat → ClassId) (oa : Nat) (o : Nat → Int64) : Nat × va_E := (oa, .inl (cy 2, 1, .inr (.inl o)))
def CWd (cy : Nat → ClassId) (a0 : Nat → Nat) (xa : Nat) (z : SV) (w : va_W) : Prop := ∃ (ad : Nat → Nat) (S : HS) (I : HI) (J : HJ), Wd cy ad S I J w ∧ ClsR z S I J ∧ ad 1100 = xa ∧ ∀ k, 5000 ≤ k → ad k = a0 k
abbrev CW (X : VX) (xa : Nat) (z : SV) (w : va_W) : Prop := CWd (xy X) (xad X) xa z w
def RW (X : VX) (ma : Nat) (z : SV) (f : HI → Prop) (w : va_W) : Prop := ∃ (ad : Nat → Nat) (S : HS) (I : HI) (J : HJ), Wd (xy X) ad S I J w ∧ (Ob S 7 1000 ∧ RefR z I J ∧ f I) ∧ ad 1000 = ma ∧ ∀ k, 5000 ≤ k → ad k = xad X k
def PW (X : VX) (xa ma oa : Nat) (zc zr : SV) (f : HI → Prop) (o : Nat → Int64) (H : Heap) : Prop := ∃ wc wr : va_W, CW X xa zc wc ∧ RW X ma zr f wr ∧ va_P (xD X) vwCl (wc ++ (wr ++ [ouW (xy X) oa o])) H ∧ va_D (xB X) (wc ++ (wr ++ [ouW (xy X) oa o]))
variable {X : VX} {cc : ByteArray} {y : MethodName} {ret : Option FieldType} {rm : Room} {nc ns pc : Nat} {lv : List (Option Value)} {st : List Value} {PH : Heap → Prop}
/-- a value that is no reference -/
def nrv (v : Value) : Prop := ∀ ad, vv ad v = v
theorem nrv_l {l : List Value} (h : ∀ v ∈ l, nrv v) (ad : Nat → Nat) : l.map (vv ad) = l := by
  induction l with
  | nil => rfl
  | cons a l ih => rw [List.map_cons, ih (fun v hv => h v (List.mem_cons_of_mem _ hv)), h a List.mem_cons_self]
theorem L_cls {F : Nat → Prop} (C : Cx X cc y ret rm) {ix nL' n xa ma oa : Nat} {y' : MethodName} {cc' : ByteArray} {ret' : Option FieldType} {rm' : Room} {As rest : List Value} {r : Value} {zc zc' zr : SV} {f : HI → Prop} {o : Nat → Int64}
    (hM : ∀ S I J, ClsR zc S I J → Mt (xl X) y' cc' nL' ret' rm' F (.ref 1100 :: As) S I J (fun v S' I' J' => v = some r ∧ ClsR zc' S' I' J')) (hF : F 1100 ∧ ∀ k, 5000 ≤ k → F k) (hrv : nrv r) (hAs : ∀ v ∈ As, nrv v) (hy : MI y' cc' nL' ret' n) (hl : Cond.methodLink y.cls ix y' ∈ gtb) (hn : As.length = n) (hci : Rc 6 = y'.cls) (hr : rm'.frames + 1 ≤ rm.frames ∧ 8 + (nL' + 11) + rm'.locals ≤ rm.locals) (hc : nc + rm'.cells ≤ rm.cells ∧ ns + rm'.slots ≤ rm.slots) (hw : (rest.map fun v => v.category).sum ≤ 8) (hst : st = As.reverse ++ .ref xa :: rest) (hd : decode cc pc = .ok (.invokevirtual ix, 3))
    (k : VL X (PW X xa ma oa zc' zr f o) (nc + rm'.cells) (ns + rm'.slots) (pc + 3) lv (r :: rest)) : VL X (PW X xa ma oa zc zr f o) nc ns pc lv st := by
  intro H locs ls hPW h3 h4
  obtain ⟨wc, wr, ⟨ad, S, I, J, w1, w2, w3, w4⟩, hRw, hP, hD⟩ := hPW
  have hob : Ob S 6 1100 := by obtain ⟨la, lb, hS, -⟩ := w2; exact hS.1
  have key := L_callV (nc := nc) (ns := ns) (rest := rest) C (hM S I J w2) hy hl hn hob.1 ⟨by decide, hci⟩ hr hc hw hd w4 w1 hP hD h3 h4 (fun v S' I' J' ad' w1' H' locs' hp hF' hw' hP' hD' hS' => by
    obtain ⟨rfl, hcl⟩ := hp
    have kk := k H' locs' ls ⟨w1', wr, ⟨ad', S', I', J', hw', hcl, (hF' 1100 hF.1).trans w3, fun q hq => (hF' q (hF.2 q hq)).trans (w4 q hq)⟩, hRw, hP', hD'⟩ hS' h4
    rw [map_id_vv] at kk
    show W _ _ _ _ _ _ _ _ _ _ _ _ _ _ _ (F0 _ _ _ (vv ad' r :: rest))
    rw [hrv ad']
    exact kk)
  rw [nrv_l hAs, w3] at key
  rw [map_id_vv, hst]
  exact key
theorem L_ref (C : Cx X cc y ret rm) {ix nL' n n' xa ma oa : Nat} {y' : MethodName} {cc' : ByteArray} {ret' : Option FieldType} {As rest : List Value} {zc zr zr' : SV} {f : HI → Prop} {q : Value → HI → Prop} {o : Nat → Int64}
    (hM : ∀ S I J, Ob S 7 1000 → RefR zr I J → f I → Mn (xl X) y' cc' nL' ret' n' (.ref 1000 :: As) S I J (fun v I' J' => ∃ r, (v = some r ∧ nrv r ∧ q r I') ∧ RefR zr' I' J')) (hAs : ∀ v ∈ As, nrv v) (hy : MI y' cc' nL' ret' n) (hl : Cond.methodLink y.cls ix y' ∈ gtb) (hn : As.length = n) (hci : Rc 7 = y'.cls) (hr : (rmk n').frames + 1 ≤ rm.frames ∧ 8 + (nL' + 11) + (rmk n').locals ≤ rm.locals) (hc : nc ≤ rm.cells ∧ ns ≤ rm.slots) (hw : (rest.map fun v => v.category).sum ≤ 8) (hst : st = As.reverse ++ .ref ma :: rest) (hd : decode cc pc = .ok (.invokevirtual ix, 3))
    (k : ∀ r, nrv r → VL X (PW X xa ma oa zc zr' (q r) o) nc ns (pc + 3) lv (r :: rest)) : VL X (PW X xa ma oa zc zr f o) nc ns pc lv st := by
  intro H locs ls hPW h3 h4
  obtain ⟨wc, wr, hCw, ⟨ad, S, I, J, w1, ⟨w2, w5, w6⟩, w3, w4⟩, hP, hD⟩ := hPW
  have key := L_callV (nc := nc) (ns := ns) (rest := rest) C (hM S I J w2 w5 w6) hy hl hn w2.1 ⟨by decide, hci⟩ hr hc hw hd w4 w1 (vaP_cm hP) (vaD_cm hD) h3 h4 (fun v S' I' J' ad' w1' H' locs' hp hF' hw' hP' hD' hS' => by
    obtain ⟨rfl, r, ⟨rfl, hrv, hq⟩, hrf⟩ := hp
    have kk := k r hrv H' locs' ls ⟨wc, w1', hCw, ⟨ad', S', I', J', hw', ⟨w2, hrf, hq⟩, (hF' 1000 trivial).trans w3, fun q hq => (hF' q trivial).trans (w4 q hq)⟩, vaP_cm hP', vaD_cm hD'⟩ hS' h4
    rw [map_id_vv] at kk
    show W _ _ _ _ _ _ _ _ _ _ _ _ _ _ _ (F0 _ _ _ (vv ad' r :: rest))
    rw [hrv ad']
    exact kk)
  rw [nrv_l hAs, w3] at key
  rw [map_id_vv, hst]
  exact key
/-- most of the reference's calls -/
theorem L_rf (C : Cx X cc y ret rm) {ix nL' n n' xa ma oa : Nat} {y' : MethodName} {cc' : ByteArray} {ret' : Option FieldType} {As rest : List Value} {zc zr zr' : SV} {r : Value} {o : Nat → Int64}
    (hM : ∀ S I J, Ob S 7 1000 → RefR zr I J → Mn (xl X) y' cc' nL' ret' n' (.ref 1000 :: As) S I J (fun v I' J' => v = some r ∧ RefR zr' I' J')) (hrv : nrv r) (hAs : ∀ v ∈ As, nrv v) (hy : MI y' cc' nL' ret' n) (hl : Cond.methodLink y.cls ix y' ∈ gtb) (hn : As.length = n) (hci : Rc 7 = y'.cls) (hr : (rmk n').frames + 1 ≤ rm.frames ∧ 8 + (nL' + 11) + (rmk n').locals ≤ rm.locals) (hc : nc ≤ rm.cells ∧ ns ≤ rm.slots) (hw : (rest.map fun v => v.category).sum ≤ 8) (hst : st = As.reverse ++ .ref ma :: rest) (hd : decode cc pc = .ok (.invokevirtual ix, 3))
    (k : VL X (PW X xa ma oa zc zr' (fun _ => True) o) nc ns (pc + 3) lv (r :: rest)) : VL X (PW X xa ma oa zc zr (fun _ => True) o) nc ns pc lv st := by
  intro H locs ls hPW h3 h4
  obtain ⟨wc, wr, hCw, ⟨ad, S, I, J, w1, ⟨w2, w5, w6⟩, w3, w4⟩, hP, hD⟩ := hPW
  have key := L_callV (nc := nc) (ns := ns) (rest := rest) C (hM S I J w2 w5) hy hl hn w2.1 ⟨by decide, hci⟩ hr hc hw hd w4 w1 (vaP_cm hP) (vaD_cm hD) h3 h4 (fun v S' I' J' ad' w1' H' locs' hp hF' hw' hP' hD' hS' => by
    obtain ⟨rfl, rfl, hrf⟩ := hp
    have kk := k H' locs' ls ⟨wc, w1', hCw, ⟨ad', S', I', J', hw', ⟨w2, hrf, trivial⟩, (hF' 1000 trivial).trans w3, fun q hq => (hF' q trivial).trans (w4 q hq)⟩, vaP_cm hP', vaD_cm hD'⟩ hS' h4
    rw [map_id_vv] at kk
    show W _ _ _ _ _ _ _ _ _ _ _ _ _ _ _ (F0 _ _ _ (vv ad' r :: rest))
    rw [hrv ad']
    exact kk)
  rw [nrv_l hAs, w3] at key
  rw [map_id_vv, hst]
  exact key
theorem L_slen (C : Cx X cc y ret rm) {b L : Nat} {xs' : Nat → Int32} (hX : va_X b L xs' (xs X) (xs X).heap) (hbl : b < (xs X).heap.size) (hbA : ¬ xB X b) (hd : decode cc pc = .ok (.arraylength, 1)) (k : VL X PH nc ns (pc + 1) lv (.int (nI L) :: st)) : VL X PH nc ns pc lv (.ref b :: st) := fun H locs ls h1 h3 h4 => va_slen C.1 C.2.1 hX hbl hbA h3 hd (k H locs ls h1 h3 h4)
theorem L_sld (C : Cx X cc y ret rm) {b L : Nat} {xs' : Nat → Int32} (hX : va_X b L xs' (xs X) (xs X).heap) (hbl : b < (xs X).heap.size) (hbA : ¬ xB X b) {x : Int32} (j : Nat) (hx : x = nI j) (hj : j < L) (hL : L < 2 ^ 31) (hd : decode cc pc = .ok (.iaload, 1)) (k : VL X PH nc ns (pc + 1) lv (.int (xs' j) :: st)) : VL X PH nc ns pc lv (.int x :: .ref b :: st) := fun H locs ls h1 h3 h4 => by
  subst hx
  have kk := k H locs ls h1 h3 h4
  have e : xs' j = xs' (nI j).toNatClampNeg := by rw [nI_clamp (by omega)]
  rw [e] at kk
  exact va_sld C.1 C.2.1 hX hbl hbA h3 (vp_in_nI hj hL) hd kk
end PWs
