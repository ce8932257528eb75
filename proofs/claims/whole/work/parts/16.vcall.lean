/-! rules of V: calls, new cells -/
section VC
/-- what the tables say of a method that is called: instance, static -/
def MI (y : MethodName) (cc : ByteArray) (nL : Nat) (ret : Option FieldType) (n : Nat) : Prop := Cond.instanceMethod y ∈ gtb ∧ Cond.selects y.cls y y ∈ gtb ∧ Cond.initialized y.cls ∈ gtb ∧ Cond.code y cc nL ret ∈ gtb ∧ y.cls ≠ "java/lang/invoke/MethodHandle" ∧ y.cls ≠ "java/lang/invoke/VarHandle" ∧ (parseMethodDescriptor y.desc).map (fun d => d.parameters.length) = some n
def MS (y : MethodName) (cc : ByteArray) (nL : Nat) (ret : Option FieldType) (n : Nat) : Prop := Cond.static y ∈ gtb ∧ Cond.initialized y.cls ∈ gtb ∧ Cond.code y cc nL ret ∈ gtb ∧ y.cls ≠ "java/lang/invoke/MethodHandle" ∧ y.cls ≠ "java/lang/invoke/VarHandle" ∧ (parseMethodDescriptor y.desc).map (fun d => d.parameters.length) = some n
/-- a constructor -/
def MC (y : MethodName) (cc : ByteArray) (nL : Nat) (n : Nat) : Prop := Cond.instanceMethod y ∈ gtb ∧ Cond.initialized y.cls ∈ gtb ∧ Cond.code y cc nL none ∈ gtb ∧ y.name = "<init>" ∧ y.cls ≠ "java/lang/invoke/MethodHandle" ∧ y.cls ≠ "java/lang/invoke/VarHandle" ∧ (parseMethodDescriptor y.desc).map (fun d => d.parameters.length) = some n
def clo (F : Nat → Prop) (v : Value) : Prop := match v with
  | .ref k => F k
  | _ => True
theorem clo_eq {F : Nat → Prop} {ad ad' : Nat → Nat} (h : ∀ k, F k → ad' k = ad k) {v : Value} (hv : clo F v) : vv ad' v = vv ad v := by
  cases v <;> simp [vv]
  exact h _ hv
theorem clo_T (v : Value) : clo (fun _ => True) v := by cases v <;> trivial
theorem Pw_blind {D : va_G} {cy : Nat → ClassId} {B0 : Nat → Prop} {ad : Nat → Nat} {S : HS} {I : HI} {J : HJ} {as : Array Value} : FrameBlind (fun a U => a = as ∧ Pw D cy B0 ad S I J U) := by
  intro a U g mk h
  obtain ⟨h0, h1, h2, h3, h4⟩ := h
  exact ⟨h0, h1, va_K.moved (u := U) (U := U.calling g mk a) (Vm.Alike.refl U.vm) h2, h3, Xt_moved (u := U) (U := U.calling g mk a) (State.WarmedH.refl U) (fun _ _ _ => rfl) h4⟩
variable {X : VX} {cc : ByteArray} {y : MethodName} {ret : Option FieldType} {rm : Room} {post : Option Value → HS → HI → HJ → Prop} {nc ns pc : Nat} {lv : List (Option Value)} {st : List Value} {S : HS} {I : HI} {J : HJ}
theorem Pw_now (C : Cx X cc y ret rm) {ad : Nat → Nat} {H : Heap} {locs : List Loc} {as : Array Value} (h1 : Rl (xD X) (xy X) (xB X) ad S I J H) (h2 : ∀ k, xF X k → ad k = xad X k) (h3 : va_S (xB X) (xs X).heap H locs) : ∀ U : State, U.heap = H → (xs X).WarmedH U.vm → (as = as ∧ Pw (xD X) (xy X) (xB X) ad S I J U) := by
  intro U hU hW
  refine ⟨rfl, by rw [hU]; exact h1, va_K.moved hW.alike C.2.2.2.2.2.2.2.1, ?_, ?_⟩
  · intro q hq; rw [hU] at hq; exact C.2.2.2.2.2.2.2.2.1 q (Nat.le_trans h3.1 hq)
  · exact Xt_ad (fun k hk => h2 k (C.2.2.2.2.2.2.2.2.2.2.2.2.2.2 k hk)) (Xt_moved hW (fun q hq hn => by rw [hU]; exact h3.2.1 q hq hn) C.2.2.2.2.2.2.2.2.2.1)
theorem V_run {F : Nat → Prop} {post' : Option Value → HS → HI → HJ → Prop} {mc ms : Nat} {rest : List Value} (hFX : ∀ k, xF X k → F k) (hcl : ∀ v, (some v ∈ lv ∨ v ∈ rest) → clo F v)
    (hrun : ∀ (ad : Nat → Nat) (H : Heap) (locs : List Loc) (ls : Array Slot), Rl (xD X) (xy X) (xB X) ad S I J H → (∀ k, xF X k → ad k = xad X k) → va_S (xB X) (xs X).heap H locs → LvR ad ls (xn X) lv → ∃ as : Array Value, va_Run (xp X) (xl X) (xe X) (xR X) (xs X) (xm X) (xa X) (xb X) (xh X) (xc X) H locs nc ns mc ms (F0 (xm X) pc ls (st.map (vv ad))) (rest.map (vv ad)) (Qw (xD X) (xy X) (xB X) ad F post' as) (xB X))
    (k : ∀ v S' I' J', post' v S' I' J' → V X post (nc + mc) (ns + ms) (pc + 3) lv (v.toList ++ rest) S' I' J') : V X post nc ns pc lv st S I J := fun ad H locs ls h1 h2 h3 h4 => by
  obtain ⟨as, hr⟩ := hrun ad H locs ls h1 h2 h3 h4
  intro T hT X0
  obtain ⟨v, st₀, t, T', L, h0, X', hL, e1, e2, ⟨⟨v', S', I', J', ad', hv, hp, hF, hR⟩, hz, hk⟩, hgo⟩ := hr T hT X0
  cases hv
  rw [h0] at hz hk
  have hK := k v' S' I' J' hp ad' T'.heap (locs ++ L) ls (by rw [e1]; exact hR) (fun q hq => (hF q (hFX q hq)).trans (h2 q hq))
    ⟨Nat.le_trans h3.1 (by rw [e1]; exact hz), fun q g1 g2 => by rw [e1, hk q (Nat.lt_of_lt_of_le g1 h3.1) g2]; exact h3.2.1 q g1 g2, fun q hq => by
      rcases List.mem_append.mp hq with h | h
      · exact h3.2.2 q h
      · exact hL q h⟩
    ⟨h4.1, h4.2.1, fun i w hw => by rw [clo_eq hF (hcl w (Or.inl (List.mem_of_getElem? hw)))]; exact h4.2.2 i w hw⟩
  have e : (v'.toList ++ rest).map (vv ad') = (v'.map (vv ad')).toList ++ rest.map (vv ad) := by
    rw [List.map_append]
    have e3 : rest.map (vv ad') = rest.map (vv ad) := List.map_congr_left (fun w hw => clo_eq hF (hcl w (Or.inr hw)))
    rw [e3]
    cases v' <;> rfl
  rw [e] at hK
  obtain ⟨t2, a1, b1⟩ := hK T' rfl X'
  exact ⟨t2, hgo t2 a1, b1⟩
theorem cat_vv (ad : Nat → Nat) (l : List Value) : ((l.map (vv ad)).map fun v => v.category) = l.map fun v => v.category := by
  rw [List.map_map]
  exact List.map_congr_left (fun v _ => vv_cat ad v)
theorem V_callV {F : Nat → Prop} (C : Cx X cc y ret rm) {ix ci a nL' n : Nat} {y' : MethodName} {cc' : ByteArray} {ret' : Option FieldType} {rm' : Room} {As rest : List Value} {post' : Option Value → HS → HI → HJ → Prop} (hM : Mt (xl X) y' cc' nL' ret' rm' F (.ref a :: As) S I J post') (hy : MI y' cc' nL' ret' n) (hl : Cond.methodLink y.cls ix y' ∈ gtb) (hn : As.length = n) (hK : S.1 a = ci + 1) (hci : ci < 8 ∧ Rc ci = y'.cls) (hr : rm'.frames + 1 ≤ rm.frames ∧ 8 + (nL' + 11) + rm'.locals ≤ rm.locals) (hc : nc + rm'.cells ≤ rm.cells ∧ ns + rm'.slots ≤ rm.slots) (hw : (rest.map fun v => v.category).sum ≤ 8) (hFX : ∀ k, xF X k → F k) (hcl : ∀ v, (some v ∈ lv ∨ v ∈ rest) → clo F v) (hst : st = As.reverse ++ .ref a :: rest) (hd : decode cc pc = .ok (.invokevirtual ix, 3))
    (k : ∀ v S' I' J', post' v S' I' J' → V X post (nc + rm'.cells) (ns + rm'.slots) (pc + 3) lv (v.toList ++ rest) S' I' J') : V X post nc ns pc lv st S I J := by
  refine V_run hFX hcl (fun ad H locs ls h1 h2 h3 h4 => ?_) k
  obtain ⟨L, n1, n2, hP, hD⟩ := id h1
  obtain ⟨q0, -, hq⟩ := wsl_get (cy := xy X) (ad := ad) (S := S) (I := I) (J := J) ((n2 a).mpr (by rw [hK]; omega))
  rw [cel_o hK hci.1] at hq
  obtain ⟨c1, -⟩ := cl_ok ci hci.1
  have hrecv := va_recv C.2.2.2.2.2.2.2.1 hP c1 hq
  rw [show ((Rc ci, Tc ci, nf ci) : vw_C).1 = y'.cls from hci.2] at hrecv
  have hts := C.2.2.2.2.1
  have hRR := C.2.2.2.2.2.2.2.2.2.2.1
  refine ⟨_, va_runV (Ts := gtb) (C := y'.cls) (b := ad a) (As := As.map (vv ad)) ⟨C.1, C.2.1, C.2.2.1, C.2.2.2.1, hts⟩ (hM (xD X) (xy X) (xB X) ad)
    ⟨callB_of (R := xR X) n hts (gtb_code hy.2.2.2.1) rfl rfl rfl (hts _ hy.2.2.1) (hts _ hl) hy.2.2.2.2 (by rw [hRR]; exact hr), hts _ hy.1, hts _ hy.2.1⟩
    ⟨Pw_blind, hrecv, Pw_now C h1 h2 h3⟩ rfl (by rw [List.length_map]; exact hn) h4.1 ?_ ?_ hd (by rw [hRR]; exact hc)⟩
  · show st.map (vv ad) = _
    rw [hst, List.map_append, List.map_reverse]
    rfl
  · refine lv_room ?_
    rw [cat_vv]
    exact hw
theorem V_callS {F : Nat → Prop} (C : Cx X cc y ret rm) {ix nL' n : Nat} {y' : MethodName} {cc' : ByteArray} {ret' : Option FieldType} {rm' : Room} {As rest : List Value} {post' : Option Value → HS → HI → HJ → Prop} (hM : Mt (xl X) y' cc' nL' ret' rm' F As S I J post') (hy : MS y' cc' nL' ret' n) (hl : Cond.methodLink y.cls ix y' ∈ gtb) (hn : As.length = n) (hr : rm'.frames + 1 ≤ rm.frames ∧ 8 + (nL' + 11) + rm'.locals ≤ rm.locals) (hc : nc + rm'.cells ≤ rm.cells ∧ ns + rm'.slots ≤ rm.slots) (hw : (rest.map fun v => v.category).sum ≤ 8) (hFX : ∀ k, xF X k → F k) (hcl : ∀ v, (some v ∈ lv ∨ v ∈ rest) → clo F v) (hst : st = As.reverse ++ rest) (hd : decode cc pc = .ok (.invokestatic ix, 3))
    (k : ∀ v S' I' J', post' v S' I' J' → V X post (nc + rm'.cells) (ns + rm'.slots) (pc + 3) lv (v.toList ++ rest) S' I' J') : V X post nc ns pc lv st S I J := by
  refine V_run hFX hcl (fun ad H locs ls h1 h2 h3 h4 => ?_) k
  have hts := C.2.2.2.2.1
  have hRR := C.2.2.2.2.2.2.2.2.2.2.1
  refine ⟨_, va_runS (Ts := gtb) (As := As.map (vv ad)) ⟨C.1, C.2.1, C.2.2.1, C.2.2.2.1, hts⟩ (hM (xD X) (xy X) (xB X) ad)
    ⟨callB_of (R := xR X) n hts (gtb_code hy.2.2.1) rfl rfl rfl (hts _ hy.2.1) (hts _ hl) hy.2.2.2 (by rw [hRR]; exact hr), hts _ hy.1⟩
    ⟨Pw_blind, Pw_now C h1 h2 h3⟩ rfl (by rw [List.length_map]; exact hn) h4.1 ?_ ?_ hd (by rw [hRR]; exact hc)⟩
  · show st.map (vv ad) = _
    rw [hst, List.map_append, List.map_reverse]
  · refine lv_room ?_
    rw [cat_vv]
    exact hw
/-- a nest mate's private static method -/
theorem V_callSN {F : Nat → Prop} (C : Cx X cc y ret rm) {ix nL' n : Nat} {host : String} {y' : MethodName} {cc' : ByteArray} {ret' : Option FieldType} {rm' : Room} {As rest : List Value} {post' : Option Value → HS → HI → HJ → Prop} (hM : Mt (xl X) y' cc' nL' ret' rm' F As S I J post') (hy : MS y' cc' nL' ret' n) (hl : XtN (xs X) → va_Nw (.methodLinkNest y.cls ix y' host) (xs X)) (hn : As.length = n) (hr : rm'.frames + 1 ≤ rm.frames ∧ 8 + (nL' + 11) + rm'.locals ≤ rm.locals) (hc : nc + rm'.cells ≤ rm.cells ∧ ns + rm'.slots ≤ rm.slots) (hw : (rest.map fun v => v.category).sum ≤ 8) (hFX : ∀ k, xF X k → F k) (hcl : ∀ v, (some v ∈ lv ∨ v ∈ rest) → clo F v) (hst : st = As.reverse ++ rest) (hd : decode cc pc = .ok (.invokestatic ix, 3))
    (k : ∀ v S' I' J', post' v S' I' J' → V X post (nc + rm'.cells) (ns + rm'.slots) (pc + 3) lv (v.toList ++ rest) S' I' J') : V X post nc ns pc lv st S I J := by
  refine V_run hFX hcl (fun ad H locs ls h1 h2 h3 h4 => ?_) k
  have hts := C.2.2.2.2.1
  have hRR := C.2.2.2.2.2.2.2.2.2.2.1
  refine ⟨_, va_runSN (Ts := gtb) (As := As.map (vv ad)) ⟨C.1, C.2.1, C.2.2.1, C.2.2.2.1, hts⟩ (hM (xD X) (xy X) (xB X) ad)
    ⟨va_cnB (R := xR X) n hts (gtb_code hy.2.2.1) rfl rfl rfl (hl C.2.2.2.2.2.2.2.2.2.1.1) (hts _ hy.2.1) hy.2.2.2 (by rw [hRR]; exact hr), hts _ hy.1, trivial⟩
    ⟨Pw_blind, Pw_now C h1 h2 h3⟩ rfl (by rw [List.length_map]; exact hn) h4.1 ?_ ?_ hd (by rw [hRR]; exact hc)⟩
  · show st.map (vv ad) = _
    rw [hst, List.map_append, List.map_reverse]
  · refine lv_room ?_
    rw [cat_vv]
    exact hw
theorem V_callI {F : Nat → Prop} (C : Cx X cc y ret rm) {ix a nL' n : Nat} {y' : MethodName} {cc' : ByteArray} {rm' : Room} {As rest : List Value} {post' : Option Value → HS → HI → HJ → Prop} (hM : Mt (xl X) y' cc' nL' none rm' F (.ref a :: As) S I J post') (hy : MC y' cc' nL' n) (hl : Cond.methodLink y.cls ix y' ∈ gtb) (hn : As.length = n) (hr : rm'.frames + 1 ≤ rm.frames ∧ 8 + (nL' + 11) + rm'.locals ≤ rm.locals) (hc : nc + rm'.cells ≤ rm.cells ∧ ns + rm'.slots ≤ rm.slots) (hw : (rest.map fun v => v.category).sum ≤ 8) (hFX : ∀ k, xF X k → F k) (hcl : ∀ v, (some v ∈ lv ∨ v ∈ rest) → clo F v) (hst : st = As.reverse ++ .ref a :: rest) (hd : decode cc pc = .ok (.invokespecial ix, 3))
    (k : ∀ v S' I' J', post' v S' I' J' → V X post (nc + rm'.cells) (ns + rm'.slots) (pc + 3) lv (v.toList ++ rest) S' I' J') : V X post nc ns pc lv st S I J := by
  refine V_run hFX hcl (fun ad H locs ls h1 h2 h3 h4 => ?_) k
  have hts := C.2.2.2.2.1
  have hRR := C.2.2.2.2.2.2.2.2.2.2.1
  refine ⟨_, va_runI (Ts := gtb) (b := ad a) (As := As.map (vv ad)) ⟨C.1, C.2.1, C.2.2.1, C.2.2.2.1, hts⟩ (hM (xD X) (xy X) (xB X) ad)
    ⟨callB_of (R := xR X) n hts (gtb_code hy.2.2.1) rfl rfl rfl (hts _ hy.2.1) (hts _ hl) hy.2.2.2.2 (by rw [hRR]; exact hr), hy.2.2.2.1, hts _ hy.1⟩
    ⟨Pw_blind, Pw_now C h1 h2 h3⟩ rfl (by rw [List.length_map]; exact hn) h4.1 ?_ ?_ hd (by rw [hRR]; exact hc)⟩
  · show st.map (vv ad) = _
    rw [hst, List.map_append, List.map_reverse]
    rfl
  · refine lv_room ?_
    rw [cat_vv]
    exact hw
theorem V_callIN {F : Nat → Prop} (C : Cx X cc y ret rm) {ix a nL' n : Nat} {host : String} {y' : MethodName} {cc' : ByteArray} {rm' : Room} {As rest : List Value} {post' : Option Value → HS → HI → HJ → Prop} (hM : Mt (xl X) y' cc' nL' none rm' F (.ref a :: As) S I J post') (hy : MC y' cc' nL' n) (hl : XtN (xs X) → va_Nw (.methodLinkNest y.cls ix y' host) (xs X)) (hn : As.length = n) (hr : rm'.frames + 1 ≤ rm.frames ∧ 8 + (nL' + 11) + rm'.locals ≤ rm.locals) (hc : nc + rm'.cells ≤ rm.cells ∧ ns + rm'.slots ≤ rm.slots) (hw : (rest.map fun v => v.category).sum ≤ 8) (hFX : ∀ k, xF X k → F k) (hcl : ∀ v, (some v ∈ lv ∨ v ∈ rest) → clo F v) (hst : st = As.reverse ++ .ref a :: rest) (hd : decode cc pc = .ok (.invokespecial ix, 3))
    (k : ∀ v S' I' J', post' v S' I' J' → V X post (nc + rm'.cells) (ns + rm'.slots) (pc + 3) lv (v.toList ++ rest) S' I' J') : V X post nc ns pc lv st S I J := by
  refine V_run hFX hcl (fun ad H locs ls h1 h2 h3 h4 => ?_) k
  have hts := C.2.2.2.2.1
  have hRR := C.2.2.2.2.2.2.2.2.2.2.1
  refine ⟨_, va_runIN (Ts := gtb) (b := ad a) (As := As.map (vv ad)) ⟨C.1, C.2.1, C.2.2.1, C.2.2.2.1, hts⟩ (hM (xD X) (xy X) (xB X) ad)
    ⟨va_cnB (R := xR X) n hts (gtb_code hy.2.2.1) rfl rfl rfl (hl C.2.2.2.2.2.2.2.2.2.1.1) (hts _ hy.2.1) hy.2.2.2.2 (by rw [hRR]; exact hr), hy.2.2.2.1, hts _ hy.1⟩
    ⟨Pw_blind, Pw_now C h1 h2 h3⟩ rfl (by rw [List.length_map]; exact hn) h4.1 ?_ ?_ hd (by rw [hRR]; exact hc)⟩
  · show st.map (vv ad) = _
    rw [hst, List.map_append, List.map_reverse]
    rfl
  · refine lv_room ?_
    rw [cat_vv]
    exact hw
theorem w_oc : Cond.code objectInit ⟨#[0xb1]⟩ 1 none ∈ gtb := by decide +kernel
theorem w_oi : Cond.instanceMethod objectInit ∈ gtb := by decide +kernel
theorem V_objInit (C : Cx X cc y ret rm) {ix a : Nat} (hl : Cond.methodLink y.cls ix objectInit ∈ gtb) (hf : 1 ≤ rm.frames) (hw : (st.map fun v => v.category).sum + 12 ≤ rm.locals) (hd : decode cc pc = .ok (.invokespecial ix, 3)) (k : V X post nc ns (pc + 3) lv st S I J) : V X post nc ns pc lv (.ref a :: st) S I J := fun ad H locs ls h1 h2 h3 h4 => by
  have hts := C.2.2.2.2.1
  have hRR := C.2.2.2.2.2.2.2.2.2.2.1
  refine W.objInit (rest := st.map (vv ad)) C.1 C.2.1 C.2.2.2.1 (hts _ hl) (hts _ w_oi) (hts _ w_oc) rfl (by rw [C.2.2.1]; exact h4.1) rfl hd (by rw [hRR]; exact hf) ?_ ?_
  · rw [hRR, cat_vv]
    have : 2 * (F0 (xm X) pc ls ((Value.ref a :: st).map (vv ad))).monitorRoom = 0 := rfl
    omega
  · exact k ad H locs ls h1 h2 h3 h4
end VC
