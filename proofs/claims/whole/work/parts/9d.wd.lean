/-! worlds beside each other: what a call of one of them leaves of the others -/
section WD
theorem vaP_m {D : va_G} {cl : List vw_C} {ws : va_W} {H : Heap} : va_P D cl ws H ↔ ∀ q ∈ ws, va_at D cl q H := by
  constructor
  · intro h q hq
    obtain ⟨k, hk⟩ := List.getElem?_of_mem hq
    exact h k q hk
  · intro h k q hk
    exact h q (List.mem_of_getElem? hk)
theorem vaD_m {A : Nat → Prop} {ws : va_W} : va_D A ws ↔ (ws.map Prod.fst).Nodup ∧ ∀ q ∈ ws, A q.1 := by
  constructor
  · intro h
    refine ⟨?_, fun q hq => ?_⟩
    · rw [List.nodup_iff_pairwise_ne, List.pairwise_iff_getElem]
      intro i j hi hj hij e
      rw [List.length_map] at hi hj
      rw [List.getElem_map, List.getElem_map] at e
      have := h.1 i j _ _ (List.getElem?_eq_getElem hi) (List.getElem?_eq_getElem hj) e
      omega
    · obtain ⟨k, hk⟩ := List.getElem?_of_mem hq
      exact h.2 k q hk
  · intro h
    refine ⟨fun i j p q hi hj e => ?_, fun k q hk => h.2 q (List.mem_of_getElem? hk)⟩
    have h1 := h.1
    rw [List.nodup_iff_pairwise_ne, List.pairwise_iff_getElem] at h1
    obtain ⟨li, ei⟩ := List.getElem?_eq_some_iff.mp hi
    obtain ⟨lj, ej⟩ := List.getElem?_eq_some_iff.mp hj
    rcases Nat.lt_trichotomy i j with g | g | g
    · exact absurd (by rw [List.getElem_map, List.getElem_map, ei, ej]; exact e) (h1 i j (by rw [List.length_map]; exact li) (by rw [List.length_map]; exact lj) g)
    · exact g
    · exact absurd (by rw [List.getElem_map, List.getElem_map, ei, ej]; exact e.symm) (h1 j i (by rw [List.length_map]; exact lj) (by rw [List.length_map]; exact li) g)
theorem vaP_app {D : va_G} {cl : List vw_C} {a b : va_W} {H : Heap} : va_P D cl (a ++ b) H ↔ va_P D cl a H ∧ va_P D cl b H := by
  rw [vaP_m, vaP_m, vaP_m]
  constructor
  · intro h; exact ⟨fun q hq => h q (List.mem_append.mpr (Or.inl hq)), fun q hq => h q (List.mem_append.mpr (Or.inr hq))⟩
  · intro h q hq
    rcases List.mem_append.mp hq with g | g
    · exact h.1 q g
    · exact h.2 q g
theorem vaD_app {A : Nat → Prop} {a b : va_W} : va_D A (a ++ b) ↔ va_D A a ∧ va_D A b ∧ ∀ p ∈ a, ∀ q ∈ b, p.1 ≠ q.1 := by
  rw [vaD_m, vaD_m, vaD_m, List.map_append, List.nodup_append]
  constructor
  · rintro ⟨⟨h1, h2, h3⟩, h4⟩
    exact ⟨⟨h1, fun q hq => h4 q (List.mem_append.mpr (Or.inl hq))⟩, ⟨h2, fun q hq => h4 q (List.mem_append.mpr (Or.inr hq))⟩, fun p hp q hq => h3 _ (List.mem_map.mpr ⟨p, hp, rfl⟩) _ (List.mem_map.mpr ⟨q, hq, rfl⟩)⟩
  · rintro ⟨⟨h1, h4⟩, ⟨h2, h5⟩, h3⟩
    refine ⟨⟨h1, h2, ?_⟩, fun q hq => (List.mem_append.mp hq).elim (h4 q) (h5 q)⟩
    intro x hx y hy
    obtain ⟨p, hp, rfl⟩ := List.mem_map.mp hx
    obtain ⟨q, hq, rfl⟩ := List.mem_map.mp hy
    exact h3 p hp q hq
theorem vaP_cm {D : va_G} {cl : List vw_C} {a b c : va_W} {H : Heap} (h : va_P D cl (a ++ (b ++ c)) H) : va_P D cl (b ++ (a ++ c)) H := by
  rw [vaP_app, vaP_app] at h ⊢
  exact ⟨h.2.1, h.1, h.2.2⟩
theorem vaD_cm {A : Nat → Prop} {a b c : va_W} (h : va_D A (a ++ (b ++ c))) : va_D A (b ++ (a ++ c)) := by
  rw [vaD_app, vaD_app] at h ⊢
  obtain ⟨h1, ⟨h2, h3, h4⟩, h5⟩ := h
  refine ⟨h2, ⟨h1, h3, fun p hp q hq => h5 p hp q (List.mem_append.mpr (Or.inr hq))⟩, fun p hp q hq => ?_⟩
  rcases List.mem_append.mp hq with g | g
  · exact fun e => h5 q g p (List.mem_append.mpr (Or.inl hp)) e.symm
  · exact h4 p hp q g
/-- the cells of a world -/
def Wd (cy : Nat → ClassId) (ad : Nat → Nat) (S : HS) (I : HI) (J : HJ) (w : va_W) : Prop := ∃ L : List Nat, nrep L ∧ (∀ k, k ∈ L ↔ S.1 k ≠ 0) ∧ w = wsl cy ad S I J L
theorem Wd.rl {D : va_G} {cy : Nat → ClassId} {B : Nat → Prop} {ad : Nat → Nat} {S : HS} {I : HI} {J : HJ} {w : va_W} {H : Heap} (h : Wd cy ad S I J w) (hP : va_P D vwCl w H) (hD : va_D B w) : Rl D cy B ad S I J H := by
  obtain ⟨L, n1, n2, rfl⟩ := h
  exact ⟨L, n1, n2, hP, hD⟩
theorem Rl.wd {D : va_G} {cy : Nat → ClassId} {B : Nat → Prop} {ad : Nat → Nat} {S : HS} {I : HI} {J : HJ} {H : Heap} (h : Rl D cy B ad S I J H) : ∃ w, Wd cy ad S I J w ∧ va_P D vwCl w H ∧ va_D B w := by
  obtain ⟨L, n1, n2, hP, hD⟩ := h
  exact ⟨_, ⟨L, n1, n2, rfl⟩, hP, hD⟩
theorem Xt_nar {ad : Nat → Nat} {A B : Nat → Prop} {U : State} (h : Xt ad A U) (hAB : ∀ q, B q → A q) : Xt ad B U := by
  obtain ⟨n, ⟨s1, s2⟩, t1, t2, t3, t4, t5, t6⟩ := h
  exact ⟨n, ⟨s1.narrow hAB, s2⟩, t1.narrow hAB, t2.narrow hAB, t3.narrow hAB, t4.narrow hAB, t5.narrow hAB, t6.imp (fun t => t.narrow hAB) (fun t => t.narrow hAB)⟩
/-- what a call may change: all that the others don't hold -/
def Bx (A : Nat → Prop) (w2 : va_W) : Nat → Prop := fun q => A q ∧ ∀ p ∈ w2, p.1 ≠ q
variable {X : VX} {cc : ByteArray} {y : MethodName} {ret : Option FieldType} {rm : Room} {nc ns pc : Nat} {lv : List (Option Value)}
theorem L_go {F : Nat → Prop} {post' : Option Value → HS → HI → HJ → Prop} {mc ms : Nat} {ad : Nat → Nat} {as : Array Value} {w2 : va_W} {stk rest : List Value} {H : Heap} {locs : List Loc} {ls : Array Slot}
    (hr : va_Run (xp X) (xl X) (xe X) (xR X) (xs X) (xm X) (xa X) (xb X) (xh X) (xc X) H locs nc ns mc ms (F0 (xm X) pc ls stk) rest (Qw (xD X) (xy X) (Bx (xB X) w2) ad F post' as) (Bx (xB X) w2))
    (hP2 : va_P (xD X) vwCl w2 H) (hD2 : va_D (xB X) w2) (h3 : va_S (xB X) (xs X).heap H locs)
    (k : ∀ (v : Option Value) (S' : HS) (I' : HI) (J' : HJ) (ad' : Nat → Nat) (w1' : va_W) (H' : Heap) (locs' : List Loc), post' v S' I' J' → (∀ k, F k → ad' k = ad k) → Wd (xy X) ad' S' I' J' w1' → va_P (xD X) vwCl (w1' ++ w2) H' → va_D (xB X) (w1' ++ w2) → va_S (xB X) (xs X).heap H' locs' →
      W (xp X) (xl X) (xe X) (xR X) (xs X) (xm X) (xa X) (xb X) (xh X) (xc X) H' locs' (nc + mc) (ns + ms) (xQ X (fun _ _ _ _ => False)) (F0 (xm X) (pc + 3) ls ((v.map (vv ad')).toList ++ rest))) :
    W (xp X) (xl X) (xe X) (xR X) (xs X) (xm X) (xa X) (xb X) (xh X) (xc X) H locs nc ns (xQ X (fun _ _ _ _ => False)) (F0 (xm X) pc ls stk) := by
  intro T hT X0
  obtain ⟨v, st₀, t, T', L, h0, X', hL, e1, e2, ⟨⟨v', S', I', J', ad', hv, hp, hF, hR⟩, hz, hk⟩, hgo⟩ := hr T hT X0
  cases hv
  rw [h0] at hz hk
  obtain ⟨w1', hw1, hP1, hD1⟩ := hR.wd
  have hP2' : va_P (xD X) vwCl w2 t.heap := hP2.kept (fun j q hq => hk q.1 (hP2 j q hq).lt (fun b => b.2 q (List.mem_of_getElem? hq) rfl))
  have hK := k v' S' I' J' ad' w1' T'.heap (locs ++ L) hp hF hw1 (by rw [e1]; exact vaP_app.mpr ⟨hP1, hP2'⟩) (vaD_app.mpr ⟨hD1.weaken (fun _ _ _ h => h.1), hD2, fun p hp q hq => by
      rw [vaD_m] at hD1
      exact fun e => (hD1.2 p hp).2 q hq e.symm⟩)
    ⟨Nat.le_trans h3.1 (by rw [e1]; exact hz), fun q g1 g2 => by rw [e1, hk q (Nat.lt_of_lt_of_le g1 h3.1) (fun b => g2 b.1)]; exact h3.2.1 q g1 g2, fun q hq => by
      rcases List.mem_append.mp hq with h | h
      · exact h3.2.2 q h
      · exact (hL q h).1⟩
  obtain ⟨t2, a1, b1⟩ := hK T' rfl X'
  exact ⟨t2, hgo t2 a1, b1⟩
theorem Pw_2 (C : Cx X cc y ret rm) {ad : Nat → Nat} {S : HS} {I : HI} {J : HJ} {w1 w2 : va_W} {H : Heap} {locs : List Loc} (had : ∀ k, 5000 ≤ k → ad k = xad X k) (hw : Wd (xy X) ad S I J w1) (hP : va_P (xD X) vwCl (w1 ++ w2) H) (hD : va_D (xB X) (w1 ++ w2)) (h3 : va_S (xB X) (xs X).heap H locs) : ∀ U : State, U.heap = H → (xs X).WarmedH U.vm → Pw (xD X) (xy X) (Bx (xB X) w2) ad S I J U := by
  intro U hU hW
  obtain ⟨hP1, hP2⟩ := vaP_app.mp hP
  obtain ⟨hD1, hD2, hd⟩ := vaD_app.mp hD
  refine ⟨by rw [hU]; exact hw.rl hP1 (hD1.weaken (fun j q hq h => ⟨h, fun p hp e => hd q (List.mem_of_getElem? hq) p hp e.symm⟩)), va_K.moved hW.alike C.2.2.2.2.2.2.2.1, fun q hq => ⟨C.2.2.2.2.2.2.2.2.1 q (Nat.le_trans h3.1 (by rw [hU] at hq; exact hq)), fun p hp e => ?_⟩, ?_⟩
  · obtain ⟨j, hj⟩ := List.getElem?_of_mem hp
    have := (hP2 j p hj).lt
    rw [hU] at hq
    omega
  · exact Xt_nar (Xt_ad had (Xt_moved hW (fun q hq hn => by rw [hU]; exact h3.2.1 q hq hn) C.2.2.2.2.2.2.2.2.2.1)) (fun q h => h.1)
theorem L_callV {F : Nat → Prop} (C : Cx X cc y ret rm) {ix ci a nL' n : Nat} {y' : MethodName} {cc' : ByteArray} {ret' : Option FieldType} {rm' : Room} {As rest : List Value} {post' : Option Value → HS → HI → HJ → Prop} {ad : Nat → Nat} {S : HS} {I : HI} {J : HJ} {w1 w2 : va_W} {H : Heap} {locs : List Loc} {ls : Array Slot}
    (hM : Mt (xl X) y' cc' nL' ret' rm' F (.ref a :: As) S I J post') (hy : MI y' cc' nL' ret' n) (hl : Cond.methodLink y.cls ix y' ∈ gtb) (hn : As.length = n) (hK : S.1 a = ci + 1) (hci : ci < 8 ∧ Rc ci = y'.cls) (hr : rm'.frames + 1 ≤ rm.frames ∧ 8 + (nL' + 11) + rm'.locals ≤ rm.locals) (hc : nc + rm'.cells ≤ rm.cells ∧ ns + rm'.slots ≤ rm.slots) (hw : (rest.map fun v => v.category).sum ≤ 8) (hd : decode cc pc = .ok (.invokevirtual ix, 3))
    (had : ∀ k, 5000 ≤ k → ad k = xad X k) (hw1 : Wd (xy X) ad S I J w1) (hP : va_P (xD X) vwCl (w1 ++ w2) H) (hD : va_D (xB X) (w1 ++ w2)) (h3 : va_S (xB X) (xs X).heap H locs) (h4 : LvR id ls (xn X) lv)
    (k : ∀ (v : Option Value) (S' : HS) (I' : HI) (J' : HJ) (ad' : Nat → Nat) (w1' : va_W) (H' : Heap) (locs' : List Loc), post' v S' I' J' → (∀ k, F k → ad' k = ad k) → Wd (xy X) ad' S' I' J' w1' → va_P (xD X) vwCl (w1' ++ w2) H' → va_D (xB X) (w1' ++ w2) → va_S (xB X) (xs X).heap H' locs' →
      W (xp X) (xl X) (xe X) (xR X) (xs X) (xm X) (xa X) (xb X) (xh X) (xc X) H' locs' (nc + rm'.cells) (ns + rm'.slots) (xQ X (fun _ _ _ _ => False)) (F0 (xm X) (pc + 3) ls ((v.map (vv ad')).toList ++ rest))) :
    W (xp X) (xl X) (xe X) (xR X) (xs X) (xm X) (xa X) (xb X) (xh X) (xc X) H locs nc ns (xQ X (fun _ _ _ _ => False)) (F0 (xm X) pc ls ((As.map (vv ad)).reverse ++ .ref (ad a) :: rest)) := by
  obtain ⟨hP1, hP2⟩ := vaP_app.mp hP
  obtain ⟨hD1, hD2, hd12⟩ := vaD_app.mp hD
  obtain ⟨L, n1, n2, ew⟩ := id hw1
  obtain ⟨q0, -, hq⟩ := wsl_get (cy := xy X) (ad := ad) (S := S) (I := I) (J := J) ((n2 a).mpr (by rw [hK]; omega))
  rw [cel_o hK hci.1] at hq
  obtain ⟨c1, -⟩ := cl_ok ci hci.1
  have hrecv := va_recv C.2.2.2.2.2.2.2.1 (ew ▸ hP1) c1 hq
  rw [show ((Rc ci, Tc ci, nf ci) : vw_C).1 = y'.cls from hci.2] at hrecv
  have hts := C.2.2.2.2.1
  have hRR := C.2.2.2.2.2.2.2.2.2.2.1
  refine L_go (w2 := w2) (as := (Value.ref (ad a) :: As.map (vv ad)).toArray) (F := F) (post' := post') (ad := ad) (va_runV (Ts := gtb) (C := y'.cls) (b := ad a) (As := As.map (vv ad)) ⟨C.1, C.2.1, C.2.2.1, C.2.2.2.1, hts⟩ (hM (xD X) (xy X) (Bx (xB X) w2) ad)
    ⟨callB_of (R := xR X) n hts (gtb_code hy.2.2.2.1) rfl rfl rfl (hts _ hy.2.2.1) (hts _ hl) hy.2.2.2.2 (by rw [hRR]; exact hr), hts _ hy.1, hts _ hy.2.1⟩
    ⟨Pw_blind, hrecv, fun U hU hW => ⟨rfl, Pw_2 C had hw1 hP hD h3 U hU hW⟩⟩ rfl (by rw [List.length_map]; exact hn) h4.1 rfl (lv_room hw) hd (by rw [hRR]; exact hc)) hP2 hD2 h3 k
theorem L_callI {F : Nat → Prop} (C : Cx X cc y ret rm) {ix a nL' n : Nat} {y' : MethodName} {cc' : ByteArray} {rm' : Room} {As rest : List Value} {post' : Option Value → HS → HI → HJ → Prop} {ad : Nat → Nat} {S : HS} {I : HI} {J : HJ} {w1 w2 : va_W} {H : Heap} {locs : List Loc} {ls : Array Slot}
    (hM : Mt (xl X) y' cc' nL' none rm' F (.ref a :: As) S I J post') (hy : MC y' cc' nL' n) (hl : Cond.methodLink y.cls ix y' ∈ gtb) (hn : As.length = n) (hr : rm'.frames + 1 ≤ rm.frames ∧ 8 + (nL' + 11) + rm'.locals ≤ rm.locals) (hc : nc + rm'.cells ≤ rm.cells ∧ ns + rm'.slots ≤ rm.slots) (hw : (rest.map fun v => v.category).sum ≤ 8) (hd : decode cc pc = .ok (.invokespecial ix, 3))
    (had : ∀ k, 5000 ≤ k → ad k = xad X k) (hw1 : Wd (xy X) ad S I J w1) (hP : va_P (xD X) vwCl (w1 ++ w2) H) (hD : va_D (xB X) (w1 ++ w2)) (h3 : va_S (xB X) (xs X).heap H locs) (h4 : LvR id ls (xn X) lv)
    (k : ∀ (v : Option Value) (S' : HS) (I' : HI) (J' : HJ) (ad' : Nat → Nat) (w1' : va_W) (H' : Heap) (locs' : List Loc), post' v S' I' J' → (∀ k, F k → ad' k = ad k) → Wd (xy X) ad' S' I' J' w1' → va_P (xD X) vwCl (w1' ++ w2) H' → va_D (xB X) (w1' ++ w2) → va_S (xB X) (xs X).heap H' locs' →
      W (xp X) (xl X) (xe X) (xR X) (xs X) (xm X) (xa X) (xb X) (xh X) (xc X) H' locs' (nc + rm'.cells) (ns + rm'.slots) (xQ X (fun _ _ _ _ => False)) (F0 (xm X) (pc + 3) ls ((v.map (vv ad')).toList ++ rest))) :
    W (xp X) (xl X) (xe X) (xR X) (xs X) (xm X) (xa X) (xb X) (xh X) (xc X) H locs nc ns (xQ X (fun _ _ _ _ => False)) (F0 (xm X) pc ls ((As.map (vv ad)).reverse ++ .ref (ad a) :: rest)) := by
  obtain ⟨hP1, hP2⟩ := vaP_app.mp hP
  obtain ⟨hD1, hD2, hd12⟩ := vaD_app.mp hD
  have hts := C.2.2.2.2.1
  have hRR := C.2.2.2.2.2.2.2.2.2.2.1
  refine L_go (w2 := w2) (as := (Value.ref (ad a) :: As.map (vv ad)).toArray) (F := F) (post' := post') (ad := ad) (va_runI (Ts := gtb) (b := ad a) (As := As.map (vv ad)) ⟨C.1, C.2.1, C.2.2.1, C.2.2.2.1, hts⟩ (hM (xD X) (xy X) (Bx (xB X) w2) ad)
    ⟨callB_of (R := xR X) n hts (gtb_code hy.2.2.1) rfl rfl rfl (hts _ hy.2.1) (hts _ hl) hy.2.2.2.2 (by rw [hRR]; exact hr), hy.2.2.2.1, hts _ hy.1⟩
    ⟨Pw_blind, fun U hU hW => ⟨rfl, Pw_2 C had hw1 hP hD h3 U hU hW⟩⟩ rfl (by rw [List.length_map]; exact hn) h4.1 rfl (lv_room hw) hd (by rw [hRR]; exact hc)) hP2 hD2 h3 k
end WD
