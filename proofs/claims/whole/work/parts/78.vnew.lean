/-! rules of V: new objects, new arrays, references put into arrays -/
section VN
variable {X : VX} {cc : ByteArray} {y : MethodName} {ret : Option FieldType} {rm : Room} {post : Option Value → HS → HI → HJ → Prop} {nc ns pc : Nat} {lv : List (Option Value)} {st : List Value} {S : HS} {I : HI} {J : HJ}
/-- a cell of kind kd and length n is made at the key k -/
def nwS (S : HS) (k kd n : Nat) : HS := (va_up S.1 k kd, va_up S.2.1 k n, va_up S.2.2 k (fun _ => none))
def nwI (I : HI) (k : Nat) : HI := va_up I k (fun _ => 0)
def nwJ (J : HJ) (k : Nat) : HJ := va_up J k (fun _ => 0)
theorem fls_ad {ad ad' : Nat → Nat} {ci : Nat} {r : Nat → Option Nat} {i : Nat → Int32} {j : Nat → Int64} (h : ∀ x, (r x).map ad' = (r x).map ad) : fls ad' ci r i j = fls ad ci r i j := by
  unfold fls
  apply List.map_congr_left
  intro x _
  cases tyc ci x <;> simp only [fv, h]
theorem ceR_ad {cy : Nat → ClassId} {ad ad' : Nat → Nat} {k n : Nat} {r : Nat → Option Nat} {i : Nat → Int32} {j : Nat → Int64} (h : ∀ x, (r x).map ad' = (r x).map ad) : ceR cy ad' k n r i j = ceR cy ad k n r i j := by
  have e : (fun x => (r x).map ad') = fun x => (r x).map ad := funext h
  unfold ceR
  rw [fls_ad h, e]
theorem wsl_new {cy : Nat → ClassId} {ad : Nat → Nat} {L : List Nat} {k kd n q : Nat} (n2 : ∀ k, k ∈ L ↔ S.1 k ≠ 0) (hk : S.1 k = 0) (hw : wfS S) : wsl cy (va_up ad k q) (nwS S k kd n) (nwI I k) (nwJ J k) (L ++ [k]) = wsl cy ad S I J L ++ [(q, ceR cy ad kd n (fun _ => none) (fun _ => 0) (fun _ => 0))] := by
  unfold wsl
  rw [List.map_append]
  have e1 : L.map (fun k' => (va_up ad k q k', cel cy (va_up ad k q) (nwS S k kd n) (nwI I k) (nwJ J k) k')) = L.map fun k' => (ad k', cel cy ad S I J k') := by
    apply List.map_congr_left
    intro b hb
    have hb0 : S.1 b ≠ 0 := (n2 b).mp hb
    have hbk : b ≠ k := fun e => hb0 (by rw [e]; exact hk)
    rw [va_up_ne _ _ hbk]
    congr 1
    unfold cel nwS nwI nwJ
    dsimp only
    rw [va_up_ne _ _ hbk, va_up_ne _ _ hbk, va_up_ne _ _ hbk, va_up_ne _ _ hbk, va_up_ne _ _ hbk]
    refine ceR_ad (fun x => ?_)
    cases hx : S.2.2 b x with
    | none => rfl
    | some c =>
      have hc : c ≠ k := fun e => hw b x c hb0 hx (by rw [e]; exact hk)
      show some (va_up ad k q c) = some (ad c)
      rw [va_up_ne _ _ hc]
  rw [e1]
  congr 1
  show [(va_up ad k q k, cel cy (va_up ad k q) (nwS S k kd n) (nwI I k) (nwJ J k) k)] = _
  rw [va_up_self]
  unfold cel nwS nwI nwJ
  dsimp only
  rw [va_up_self, va_up_self, va_up_self, va_up_self, va_up_self, ceR_ad (ad := ad) (ad' := va_up ad k q) (fun _ => rfl)]
theorem nrep_new {L : List Nat} {k : Nat} (n1 : nrep L) (h : k ∉ L) : nrep (L ++ [k]) := by
  intro i j a hi hj
  have key : ∀ i a, (L ++ [k])[i]? = some a → (i < L.length ∧ L[i]? = some a) ∨ (i = L.length ∧ a = k) := by
    intro i a hi
    rcases Nat.lt_or_ge i L.length with g | g
    · rw [List.getElem?_append_left g] at hi; exact Or.inl ⟨g, hi⟩
    · rw [List.getElem?_append_right g] at hi
      have hz : i - L.length < 1 := (List.getElem?_eq_some_iff.mp hi).1
      have e0 : i - L.length = 0 := by omega
      rw [e0] at hi
      exact Or.inr ⟨by omega, (Option.some.inj hi).symm⟩
  rcases key i a hi with ⟨g1, g2⟩ | ⟨g1, g2⟩ <;> rcases key j a hj with ⟨g3, g4⟩ | ⟨g3, g4⟩
  · exact n1 i j a g2 g4
  · exact absurd (List.mem_of_getElem? g2) (by rw [g4]; exact h)
  · exact absurd (List.mem_of_getElem? g4) (by rw [g2]; exact h)
  · omega
theorem Rl_new {D : va_G} {cy : Nat → ClassId} {B0 : Nat → Prop} {ad : Nat → Nat} {L : List Nat} {k kd n q : Nat} {H1 : Heap} (n1 : nrep L) (n2 : ∀ k, k ∈ L ↔ S.1 k ≠ 0) (hk : S.1 k = 0) (hkd : kd ≠ 0) (hw : wfS S) (hP : va_P D vwCl (wsl cy ad S I J L ++ [(q, ceR cy ad kd n (fun _ => none) (fun _ => 0) (fun _ => 0))]) H1) (hD : va_D B0 (wsl cy ad S I J L ++ [(q, ceR cy ad kd n (fun _ => none) (fun _ => 0) (fun _ => 0))])) : Rl D cy B0 (va_up ad k q) (nwS S k kd n) (nwI I k) (nwJ J k) H1 := by
  refine ⟨L ++ [k], nrep_new n1 (fun q => (n2 k).mp q hk), fun b => ?_, by rw [wsl_new n2 hk hw]; exact hP, by rw [wsl_new n2 hk hw]; exact hD⟩
  rw [List.mem_append, List.mem_singleton]
  show _ ↔ va_up S.1 k kd b ≠ 0
  by_cases e : b = k
  · subst e; rw [va_up_self]; exact ⟨fun _ => hkd, fun _ => Or.inr rfl⟩
  · rw [va_up_ne _ _ e, n2 b]; exact ⟨fun q => q.elim id (fun q => absurd q e), Or.inl⟩
theorem wfS.nw {k kd n : Nat} (hw : wfS S) (hkd : kd ≠ 0) : wfS (nwS S k kd n) := by
  intro b x c hb hx
  show va_up S.1 k kd c ≠ 0
  by_cases e : c = k
  · rw [e, va_up_self]; exact hkd
  · rw [va_up_ne _ _ e]
    by_cases eb : b = k
    · subst eb
      have hx : va_up S.2.2 b (fun _ => none) b x = some c := hx
      rw [va_up_self] at hx
      cases hx
    · have hb : va_up S.1 k kd b ≠ 0 := hb
      have hx : va_up S.2.2 k (fun _ => none) b x = some c := hx
      rw [va_up_ne _ _ eb] at hb hx
      exact hw b x c hb hx
theorem lv_new {ad : Nat → Nat} {ls : Array Slot} {k q : Nat} {nL : Nat} (h : LvR ad ls nL lv) (hl : ∀ v, some v ∈ lv → clo (fun c => c ≠ k) v) : LvR (va_up ad k q) ls nL lv := by
  refine ⟨h.1, h.2.1, fun i v hi => ?_⟩
  rw [clo_eq (F := fun c => c ≠ k) (fun c hc => va_up_ne _ _ hc) (hl v (List.mem_of_getElem? hi))]
  exact h.2.2 i v hi
theorem st_new {ad : Nat → Nat} {k q : Nat} (hl : ∀ v, v ∈ st → clo (fun c => c ≠ k) v) : (Value.ref k :: st).map (vv (va_up ad k q)) = Value.ref q :: st.map (vv ad) := by
  rw [List.map_cons]
  congr 1
  · show Value.ref (va_up ad k q k) = _; rw [va_up_self]
  · apply List.map_congr_left
    intro v hv
    exact clo_eq (F := fun c => c ≠ k) (fun c hc => va_up_ne _ _ hc) (hl v hv)
def isPl (ty : FieldType) : Bool := match ty with
  | .float => false
  | .double => false
  | _ => true
theorem fv_0 {ad : Nat → Nat} {j : Nat} {ty : FieldType} (h : isPl ty = true) : defaultValue ty = fv ad (fun _ => none) (fun _ => 0) (fun _ => 0) j ty := by
  cases ty <;> first | rfl | cases h
theorem ty_pl : ∀ ci, ci < 8 → ∀ j, j < nf ci → isPl (tyc ci j) = true := by decide +kernel
theorem V_new (C : Cx X cc y ret rm) {ix ci : Nat} (k : Nat) (hci : ci < 8) (hcl : Cond.classLink y.cls ix (Rc ci) ∈ gtb) (hinst : Cond.instantiable (Rc ci) (nf ci) ∈ gtb) (hini : Cond.initialized (Rc ci) ∈ gtb) (hk : S.1 k = 0) (hw : wfS S) (hF : ¬ xF X k) (hl : ∀ v, some v ∈ lv → clo (fun c => c ≠ k) v) (hst : ∀ v, v ∈ st → clo (fun c => c ≠ k) v) (hc : nc + 1 ≤ rm.cells) (hs : ns + nf ci ≤ rm.slots) (hd : decode cc pc = .ok (.new ix, 3))
    (kk : V X post (nc + 1) (ns + nf ci) (pc + 3) lv (.ref k :: st) (nwS S k (ci + 1) 0) (nwI I k) (nwJ J k)) : V X post nc ns pc lv st S I J := fun ad H locs ls h1 h2 h3 h4 => by
  obtain ⟨L, n1, n2, hP, hD⟩ := h1
  obtain ⟨c1, c2, c3, c4⟩ := cl_ok ci hci
  have hts := C.2.2.2.2.1
  have hR : xR X = rm := C.2.2.2.2.2.2.2.2.2.2.1
  refine va_new C.1 C.2.1 (D := xD X) hts c2 (tyc ci) c3 C.2.2.2.1 (hts _ hcl) (hts _ hinst) (hts _ hini) C.2.2.2.2.2.2.2.1 hP hD h3 C.2.2.2.2.2.2.2.2.1 c1 (fs := fls ad ci (fun _ => none) (fun _ => 0) (fun _ => 0)) (fun j hj => ?_) (by rw [hR]; exact hc) (by rw [hR]; exact hs) hd (fun q H1 p1 d1 s1 => ?_)
  · unfold vp_V
    rw [List.getD_eq_getElem?_getD, fls_get hj]
    exact fv_0 (j := j) (ty_pl ci hci j hj)
  · have ec : (Sum.inr (ci, fls ad ci (fun _ => none) (fun _ => 0) (fun _ => 0)) : va_E) = ceR (xy X) ad (ci + 1) 0 (fun _ => none) (fun _ => 0) (fun _ => 0) := by
      unfold ceR
      rw [if_pos (by omega)]
      rfl
    rw [ec] at p1 d1
    have hk2 := kk (va_up ad k q) H1 locs ls (Rl_new n1 n2 hk (by omega) hw p1 d1) (fun c hc => (va_up_ne (k := k) ad q (fun e : c = k => hF (e ▸ hc))).trans (h2 c hc)) s1 (lv_new h4 hl)
    rw [st_new hst] at hk2
    exact hk2
theorem tys_eq {cA : ClassId} {ty : FieldType} {t0 : Nat} (hK : va_K (xD X) vwCl (tys (xy X) ++ [(cA, ty)]) (xs X)) (ht : (tys (xy X))[t0]? = some (xy X t0, ty)) (hu : ∀ a b : ClassId, va_RA (xs X) a ty → va_RA (xs X) b ty → a = b) : cA = xy X t0 := by
  have h1 := (hK.2 6 (cA, ty) rfl).2
  have hlt : t0 < (tys (xy X)).length := (List.getElem?_eq_some_iff.mp ht).1
  have h2 := (hK.2 t0 (xy X t0, ty) (by rw [List.getElem?_append_left hlt]; exact ht)).2
  exact hu _ _ h1 h2
/-- new arrays of ints, chars, booleans, longs: kd 10, 9, 12, 11 -/
theorem V_newa (C : Cx X cc y ret rm) {atype : ArrayType} {t0 n : Nat} {i : Int32} (k : Nat) {ty : FieldType} (hty : newarray.typeOf atype = ty) (ht : (tys (xy X))[t0]? = some (xy X t0, ty)) (hu : ∀ a b : ClassId, va_RA (xs X) a ty → va_RA (xs X) b ty → a = b) (ha : ∀ cA : ClassId, ∃ a0 : vp_A, (Sum.inl (xy X t0, a0) : va_E) = ceR (xy X) (xad X) (t0 + 9) n (fun _ => none) (fun _ => 0) (fun _ => 0) ∧ vp_cell cA a0 = arrV cA n (fun _ => defaultValue ty)) (harr : Cond.arrayClass (newarray.typeOf atype) ∈ gtb) (hi : i = nI n) (hn : n < 2 ^ 31) (hby : n * componentBytes ty ≤ 536870912) (hk : S.1 k = 0) (hw : wfS S) (hF : ¬ xF X k) (hl : ∀ v, some v ∈ lv → clo (fun c => c ≠ k) v) (hst : ∀ v, v ∈ st → clo (fun c => c ≠ k) v) (hc : nc + 1 ≤ rm.cells) (hs : ns + n ≤ rm.slots) (hd : decode cc pc = .ok (.newarray atype, 2))
    (kk : V X post (nc + 1) (ns + n) (pc + 2) lv (.ref k :: st) (nwS S k (t0 + 9) n) (nwI I k) (nwJ J k)) : V X post nc ns pc lv (.int i :: st) S I J := fun ad H locs ls h1 h2 h3 h4 => by
  obtain ⟨L, n1, n2, hP, hD⟩ := h1
  have hts := C.2.2.2.2.1
  have hR : xR X = rm := C.2.2.2.2.2.2.2.2.2.2.1
  subst hi
  obtain ⟨a0, ea, -⟩ := ha (xy X t0)
  have ha' : ∀ cA : ClassId, vp_cell cA a0 = arrV cA n (fun _ => defaultValue ty) := fun cA => by
    obtain ⟨b0, eb, hb⟩ := ha cA
    have e2 : (Sum.inl (xy X t0, a0) : va_E) = Sum.inl (xy X t0, b0) := ea.trans eb.symm
    have e3 : a0 = b0 := congrArg Prod.snd (Sum.inl.inj e2)
    rw [e3]; exact hb
  have ea2 : (Sum.inl (xy X t0, a0) : va_E) = ceR (xy X) ad (t0 + 9) n (fun _ => none) (fun _ => 0) (fun _ => 0) := ea.trans (ceR_ad (fun _ => rfl))
  refine va_newa C.1 C.2.1 (D := xD X) (hts _ harr) hty C.2.2.2.2.2.2.2.1 hP hD h3 C.2.2.2.2.2.2.2.2.1 (N' := n) (a0 := a0) ha' (nI_pos hn) (nI_clamp hn) hby (by rw [hR]; exact hc) (by rw [hR]; exact hs) hd (fun q cA H1 k1 p1 d1 s1 => ?_)
  have e0 := tys_eq k1 ht hu
  subst e0
  rw [ea2] at p1 d1
  have hk2 := kk (va_up ad k q) H1 locs ls (Rl_new n1 n2 hk (by omega) hw p1 d1) (fun c hc => (va_up_ne (k := k) ad q (fun e : c = k => hF (e ▸ hc))).trans (h2 c hc)) s1 (lv_new h4 hl)
  rw [st_new hst] at hk2
  exact hk2
theorem V_newI (C : Cx X cc y ret rm) {n : Nat} {i : Int32} (k : Nat) (harr : Cond.arrayClass .int ∈ gtb) (hi : i = nI n) (hn : n ≤ 100000) (hk : S.1 k = 0) (hw : wfS S) (hF : ¬ xF X k) (hl : ∀ v, some v ∈ lv → clo (fun c => c ≠ k) v) (hst : ∀ v, v ∈ st → clo (fun c => c ≠ k) v) (hc : nc + 1 ≤ rm.cells) (hs : ns + n ≤ rm.slots) (hd : decode cc pc = .ok (.newarray .int, 2)) (kk : V X post (nc + 1) (ns + n) (pc + 2) lv (.ref k :: st) (nwS S k 10 n) (nwI I k) (nwJ J k)) : V X post nc ns pc lv (.int i :: st) S I J :=
  V_newa C (atype := .int) (t0 := 1) k rfl rfl (fun a b h1 h2 => Option.some.inj ((va_nm_int h1).symm.trans (va_nm_int h2))) (fun cA => ⟨(n, .inl (fun _ => 0)), rfl, rfl⟩) harr hi (by omega) (by show n * 4 ≤ _; omega) hk hw hF hl hst hc hs hd kk
theorem V_newC (C : Cx X cc y ret rm) {n : Nat} {i : Int32} (k : Nat) (harr : Cond.arrayClass .char ∈ gtb) (hi : i = nI n) (hn : n ≤ 100000) (hk : S.1 k = 0) (hw : wfS S) (hF : ¬ xF X k) (hl : ∀ v, some v ∈ lv → clo (fun c => c ≠ k) v) (hst : ∀ v, v ∈ st → clo (fun c => c ≠ k) v) (hc : nc + 1 ≤ rm.cells) (hs : ns + n ≤ rm.slots) (hd : decode cc pc = .ok (.newarray .char, 2)) (kk : V X post (nc + 1) (ns + n) (pc + 2) lv (.ref k :: st) (nwS S k 9 n) (nwI I k) (nwJ J k)) : V X post nc ns pc lv (.int i :: st) S I J :=
  V_newa C (atype := .char) (t0 := 0) k rfl rfl (fun a b h1 h2 => Option.some.inj ((va_nm_char h1).symm.trans (va_nm_char h2))) (fun cA => ⟨(n, .inl (fun _ => 0)), rfl, rfl⟩) harr hi (by omega) (by show n * 2 ≤ _; omega) hk hw hF hl hst hc hs hd kk
theorem V_newL (C : Cx X cc y ret rm) {n : Nat} {i : Int32} (k : Nat) (harr : Cond.arrayClass .long ∈ gtb) (hi : i = nI n) (hn : n ≤ 100000) (hk : S.1 k = 0) (hw : wfS S) (hF : ¬ xF X k) (hl : ∀ v, some v ∈ lv → clo (fun c => c ≠ k) v) (hst : ∀ v, v ∈ st → clo (fun c => c ≠ k) v) (hc : nc + 1 ≤ rm.cells) (hs : ns + n ≤ rm.slots) (hd : decode cc pc = .ok (.newarray .long, 2)) (kk : V X post (nc + 1) (ns + n) (pc + 2) lv (.ref k :: st) (nwS S k 11 n) (nwI I k) (nwJ J k)) : V X post nc ns pc lv (.int i :: st) S I J :=
  V_newa C (atype := .long) (t0 := 2) k rfl rfl (fun a b h1 h2 => Option.some.inj ((va_nm_long h1).symm.trans (va_nm_long h2))) (fun cA => ⟨(n, .inr (.inl (fun _ => 0))), rfl, rfl⟩) harr hi (by omega) (by show n * 8 ≤ _; omega) hk hw hF hl hst hc hs hd kk
theorem V_newZ (C : Cx X cc y ret rm) {n : Nat} {i : Int32} (k : Nat) (harr : Cond.arrayClass .boolean ∈ gtb) (hi : i = nI n) (hn : n ≤ 100000) (hk : S.1 k = 0) (hw : wfS S) (hF : ¬ xF X k) (hl : ∀ v, some v ∈ lv → clo (fun c => c ≠ k) v) (hst : ∀ v, v ∈ st → clo (fun c => c ≠ k) v) (hc : nc + 1 ≤ rm.cells) (hs : ns + n ≤ rm.slots) (hd : decode cc pc = .ok (.newarray .boolean, 2)) (kk : V X post (nc + 1) (ns + n) (pc + 2) lv (.ref k :: st) (nwS S k 12 n) (nwI I k) (nwJ J k)) : V X post nc ns pc lv (.int i :: st) S I J :=
  V_newa C (atype := .boolean) (t0 := 3) k rfl rfl (fun a b h1 h2 => Option.some.inj ((va_nm_boolean h1).symm.trans (va_nm_boolean h2))) (fun cA => ⟨(n, .inl (fun _ => 0)), rfl, rfl⟩) harr hi (by omega) (by show n * 1 ≤ _; omega) hk hw hF hl hst hc hs hd kk
/-- new arrays of disks (t0 = 4) and of lumps (t0 = 5) -/
theorem V_anew (C : Cx X cc y ret rm) {ix t0 n : Nat} {i : Int32} {Cn nm : String} (k : Nat) (ht0 : t0 = 4 ∨ t0 = 5) (ht : (tys (xy X))[t0]? = some (xy X t0, .object Cn)) (hnm : "[" ++ (FieldType.object Cn).toString = nm) (hao : va_AO Cn (xs X)) (hcl : Cond.classLink y.cls ix Cn ∈ gtb) (hi : i = nI n) (hn : n ≤ 100000) (hk : S.1 k = 0) (hw : wfS S) (hF : ¬ xF X k) (hl : ∀ v, some v ∈ lv → clo (fun c => c ≠ k) v) (hst : ∀ v, v ∈ st → clo (fun c => c ≠ k) v) (hc : nc + 1 ≤ rm.cells) (hs : ns + n ≤ rm.slots) (hd : decode cc pc = .ok (.anewarray ix, 3))
    (kk : V X post (nc + 1) (ns + n) (pc + 3) lv (.ref k :: st) (nwS S k (t0 + 9) n) (nwI I k) (nwJ J k)) : V X post nc ns pc lv (.int i :: st) S I J := fun ad H locs ls h1 h2 h3 h4 => by
  obtain ⟨L, n1, n2, hP, hD⟩ := h1
  have hts := C.2.2.2.2.1
  have hR : xR X = rm := C.2.2.2.2.2.2.2.2.2.2.1
  subst hi
  have ea2 : ∀ ad : Nat → Nat, (Sum.inl (xy X t0, n, .inr (.inr (.inr (.inr (fun _ => none))))) : va_E) = ceR (xy X) ad (t0 + 9) n (fun _ => none) (fun _ => 0) (fun _ => 0) := fun ad => by
    rcases ht0 with rfl | rfl <;> rfl
  refine va_newq C.1 C.2.1 (D := xD X) C.2.2.2.1 (hts _ hcl) hao C.2.2.2.2.2.2.2.1 hP hD h3 C.2.2.2.2.2.2.2.2.1 (N' := n) (nI_pos (by omega)) (nI_clamp (by omega)) (by omega) (by rw [hR]; exact hc) (by rw [hR]; exact hs) hd (fun q cA H1 k1 p1 d1 s1 => ?_)
  have e0 := tys_eq k1 ht (fun a b g1 g2 => Option.some.inj ((va_nmO g1 hnm).symm.trans (va_nmO g2 hnm)))
  subst e0
  rw [ea2 ad] at p1 d1
  have hk2 := kk (va_up ad k q) H1 locs ls (Rl_new n1 n2 hk (by omega) hw p1 d1) (fun c hc => (va_up_ne (k := k) ad q (fun e : c = k => hF (e ▸ hc))).trans (h2 c hc)) s1 (lv_new h4 hl)
  rw [st_new hst] at hk2
  exact hk2
/-- an object of class ci goes into an array of disks (13: ci = 1) or of lumps (14: ci = 3) -/
theorem V_aast (C : Cx X cc y ret rm) {a v ci : Nat} {i : Int32} (j : Nat) (hK : (S.1 a = 13 ∧ ci = 1) ∨ (S.1 a = 14 ∧ ci = 3)) (hv : S.1 v = ci + 1) (hi : i = nI j) (hj : j < S.2.1 a) (hN : S.2.1 a < 2 ^ 31) (hd : decode cc pc = .ok (.aastore, 1)) (k : V X post nc ns (pc + 1) lv st (S.1, S.2.1, up2 S.2.2 a j (some v)) I J) : V X post nc ns pc lv (.ref v :: .int i :: .ref a :: st) S I J := fun ad H locs ls h1 h2 h3 h4 => by
  obtain ⟨L, n1, n2, hP, hD⟩ := h1
  obtain ⟨q0, hL, hq⟩ := wsl_get (cy := xy X) (ad := ad) (S := S) (I := I) (J := J) ((n2 a).mpr (by rcases hK with h | h <;> rw [h.1] <;> omega))
  obtain ⟨qk, hLk, hqk⟩ := wsl_get (cy := xy X) (ad := ad) (S := S) (I := I) (J := J) ((n2 v).mpr (by rw [hv]; omega))
  have hci : ci < 8 := by rcases hK with h | h <;> omega
  obtain ⟨c1, c2, c3, c4⟩ := cl_ok ci hci
  rw [cel_o hv hci] at hqk
  subst hi
  have ef : (fun x => (up2 S.2.2 a j (some v) a x).map ad) = va_up (fun x => (S.2.2 a x).map ad) (nI j).toNatClampNeg (some (ad v)) := by
    rw [nI_clamp (n := j) (by omega)]
    funext x
    rw [up2_row]
    by_cases e : x = j
    · subst e; rw [va_up_self, va_up_self]; rfl
    · rw [va_up_ne _ _ e, va_up_ne _ _ e]
  rcases hK with ⟨hK, rfl⟩ | ⟨hK, rfl⟩
  · rw [cel_d hK] at hq
    refine va_astq C.1 C.2.1 (D := xD X) C.2.2.2.2.2.2.2.1 hP hD h3 q0 4 qk 1 hq rfl hqk c1 (vp_in_nI hj hN) hd (fun H1 locs1 hP1 hD1 hS1 => ?_)
    refine k ad H1 locs1 ls (Rl_set n1 n2 hL ?_ cel_R rfl hP1 hD1) h2 hS1 h4
    rw [cel_d (S := (S.1, S.2.1, up2 S.2.2 a j (some v))) hK]
    exact congrArg (fun f => (Sum.inl (xy X 4, S.2.1 a, .inr (.inr (.inr (.inr f)))) : va_E)) ef
  · rw [cel_u hK] at hq
    refine va_astq C.1 C.2.1 (D := xD X) C.2.2.2.2.2.2.2.1 hP hD h3 q0 5 qk 3 hq rfl hqk c1 (vp_in_nI hj hN) hd (fun H1 locs1 hP1 hD1 hS1 => ?_)
    refine k ad H1 locs1 ls (Rl_set n1 n2 hL ?_ cel_R rfl hP1 hD1) h2 hS1 h4
    rw [cel_u (S := (S.1, S.2.1, up2 S.2.2 a j (some v))) hK]
    exact congrArg (fun f => (Sum.inl (xy X 5, S.2.1 a, .inr (.inr (.inr (.inr f)))) : va_E)) ef
end VN
