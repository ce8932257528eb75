/-! THE LAYER V: a walk over an abstract heap. Cells have KEYS (numbers of our own); 'ad' maps a key to its address. The heap is
kinds, lengths and references (S), whole numbers (I: ints, chars, booleans; of objects by field, of arrays by place) and longs (J). -/
def gtb : List Cond := lw_tbl.filter goodWord
theorem in_gtb {w : Cond} (h : w ∈ lw_tbl) (hg : goodWord w = true) : w ∈ gtb := List.mem_filter.mpr ⟨h, hg⟩
theorem gtb_good : GoodIn gtb gtb := fun w h => ⟨h, good_of_word (List.mem_filter.mp h).2⟩
theorem gtb_code {y : MethodName} {cc : ByteArray} {n : Nat} {r : Option FieldType} (h : Cond.code y cc n r ∈ gtb) : GoodIn gtb (Cond.code y cc n r :: gtb) := fun w hw => (List.mem_cons.mp hw).elim (fun e => by subst e; exact gtb_good _ h) (gtb_good w)
abbrev HS : Type := (Nat → Nat) × (Nat → Nat) × (Nat → Nat → Option Nat)
abbrev HI : Type := Nat → Nat → Int32
abbrev HJ : Type := Nat → Nat → Int64
def up2 {α : Type} (f : Nat → Nat → α) (a j : Nat) (v : α) : Nat → Nat → α := va_up f a (va_up (f a) j v)
theorem up2_row {α : Type} (f : Nat → Nat → α) (a j : Nat) (v : α) : up2 f a j v a = va_up (f a) j v := va_up_self _ _ _
theorem up2_ne {α : Type} (f : Nat → Nat → α) {a b : Nat} (j : Nat) (v : α) (h : b ≠ a) : up2 f a j v b = f b := va_up_ne _ _ h
def vv (ad : Nat → Nat) (v : Value) : Value := match v with
  | .ref k => .ref (ad k)
  | w => w
theorem vv_cat (ad : Nat → Nat) (v : Value) : (vv ad v).category = v.category := by cases v <;> rfl
def tyc (ci : Nat) : Nat → FieldType := match ci with
  | 0 => tyX0
  | 1 => tyX1
  | 2 => tyX2
  | 3 => tyX3
  | 4 => tyX4
  | 5 => tyX5
  | 6 => tyX6
  | _ => tyX7
def Tc (ci : Nat) : u_T := match ci with
  | 0 => TX0
  | 1 => TX1
  | 2 => TX2
  | 3 => TX3
  | 4 => TX4
  | 5 => TX5
  | 6 => TX6
  | _ => TX7
def Rc (ci : Nat) : String := match ci with
  | 0 => RX0
  | 1 => RX1
  | 2 => RX2
  | 3 => RX3
  | 4 => RX4
  | 5 => RX5
  | 6 => RX6
  | _ => RX7
def nf (ci : Nat) : Nat := match ci with
  | 0 => 8
  | 1 => 13
  | 2 => 12
  | 3 => 8
  | 4 => 7
  | 5 => 2
  | 6 => 12
  | _ => 52
/-- an object's field, by its type -/
def fv (ad : Nat → Nat) (r : Nat → Option Nat) (i : Nat → Int32) (j : Nat → Int64) (x : Nat) (ty : FieldType) : Value := match ty with
  | .long => .long (j x)
  | .object _ => va_rf ((r x).map ad)
  | .array _ => va_rf ((r x).map ad)
  | _ => .int (i x)
def fls (ad : Nat → Nat) (ci : Nat) (r : Nat → Option Nat) (i : Nat → Int32) (j : Nat → Int64) : List Value := (List.range (nf ci)).map fun x => fv ad r i j x (tyc ci x)
theorem fls_get {ad : Nat → Nat} {ci : Nat} {r : Nat → Option Nat} {i : Nat → Int32} {j : Nat → Int64} {x : Nat} (h : x < nf ci) : (fls ad ci r i j)[x]? = some (fv ad r i j x (tyc ci x)) := by
  simp [fls, h]
theorem rng_set {f g : Nat → Value} {n x : Nat} {v : Value} (h1 : g x = v) (h2 : ∀ y, y ≠ x → g y = f y) : ((List.range n).map f).set x v = (List.range n).map g := by
  apply List.ext_getElem?
  intro y
  rw [List.getElem?_set]
  by_cases hy : x = y
  · subst hy
    by_cases hn : x < n
    · simp [hn, h1]
    · simp [hn]
  · simp only [if_neg hy, List.getElem?_map]
    by_cases hn : y < n
    · simp [hn, h2 y (fun e => hy e.symm)]
    · simp [hn]
theorem fls_setI {ad : Nat → Nat} {ci : Nat} {r : Nat → Option Nat} {i : Nat → Int32} {j : Nat → Int64} {x : Nat} {v : Int32} (ht : tyc ci x = .int) : (fls ad ci r i j).set x (.int v) = fls ad ci r (va_up i x v) j := by
  refine rng_set ?_ ?_
  · simp only [ht, fv, va_up_self]
  · intro y hy
    cases h : tyc ci y <;> simp only [fv, va_up_ne _ _ hy]
theorem fls_setJ {ad : Nat → Nat} {ci : Nat} {r : Nat → Option Nat} {i : Nat → Int32} {j : Nat → Int64} {x : Nat} {v : Int64} (ht : tyc ci x = .long) : (fls ad ci r i j).set x (.long v) = fls ad ci r i (va_up j x v) := by
  refine rng_set ?_ ?_
  · simp only [ht, fv, va_up_self]
  · intro y hy
    cases h : tyc ci y <;> simp only [fv, va_up_ne _ _ hy]
theorem fls_setR {ad : Nat → Nat} {ci : Nat} {r : Nat → Option Nat} {i : Nat → Int32} {j : Nat → Int64} {x : Nat} {v : Option Nat} (ht : (∃ C, tyc ci x = .object C) ∨ ∃ t, tyc ci x = .array t) : (fls ad ci r i j).set x (va_rf (v.map ad)) = fls ad ci (va_up r x v) i j := by
  refine rng_set ?_ ?_
  · rcases ht with ⟨C, ht⟩ | ⟨t, ht⟩ <;> simp only [ht, fv, va_up_self]
  · intro y hy
    cases h : tyc ci y <;> simp only [fv, va_up_ne _ _ hy]
/-- a cell by its kind: 1..8 objects of class 0..7; 9 char[], 10 int[], 11 long[], 12 boolean[], 13 Disk[], 14 Lump[] -/
def ceR (cy : Nat → ClassId) (ad : Nat → Nat) (k n : Nat) (r : Nat → Option Nat) (i : Nat → Int32) (j : Nat → Int64) : va_E :=
  if k ≤ 8 then .inr (k - 1, fls ad (k - 1) r i j)
  else if k = 11 then .inl (cy 2, n, .inr (.inl j))
  else if k = 13 ∨ k = 14 then .inl (cy (k - 9), n, .inr (.inr (.inr (.inr (fun x => (r x).map ad)))))
  else .inl (cy (k - 9), n, .inl i)
def cel (cy : Nat → ClassId) (ad : Nat → Nat) (S : HS) (I : HI) (J : HJ) (k : Nat) : va_E := ceR cy ad (S.1 k) (S.2.1 k) (S.2.2 k) (I k) (J k)
def wsl (cy : Nat → ClassId) (ad : Nat → Nat) (S : HS) (I : HI) (J : HJ) (L : List Nat) : va_W := L.map fun k => (ad k, cel cy ad S I J k)
abbrev tys (cy : Nat → ClassId) : List (ClassId × FieldType) := [(cy 0, .char), (cy 1, .int), (cy 2, .long), (cy 3, .boolean), (cy 4, .object "RingDisk$Disk"), (cy 5, .object "RingDisk$Lump")]
def nrep (L : List Nat) : Prop := ∀ i j a : Nat, L[i]? = some a → L[j]? = some a → i = j
def Rl (D : va_G) (cy : Nat → ClassId) (B0 : Nat → Prop) (ad : Nat → Nat) (S : HS) (I : HI) (J : HJ) (H : Heap) : Prop :=
  ∃ L : List Nat, nrep L ∧ (∀ k, k ∈ L ↔ S.1 k ≠ 0) ∧ va_P D vwCl (wsl cy ad S I J L) H ∧ va_D B0 (wsl cy ad S I J L)
theorem wsl_get {cy : Nat → ClassId} {ad : Nat → Nat} {S : HS} {I : HI} {J : HJ} {L : List Nat} {k : Nat} (h : k ∈ L) : ∃ q0 : Nat, L[q0]? = some k ∧ (wsl cy ad S I J L)[q0]? = some (ad k, cel cy ad S I J k) := by
  obtain ⟨q0, hq⟩ := List.getElem?_of_mem h
  exact ⟨q0, hq, by simp [wsl, hq]⟩
theorem wsl_set {cy : Nat → ClassId} {ad : Nat → Nat} {S S' : HS} {I I' : HI} {J J' : HJ} {L : List Nat} {k q0 : Nat} {x : va_E} (hn : nrep L) (hq : L[q0]? = some k) (hx : cel cy ad S' I' J' k = x) (ho : ∀ b, b ≠ k → cel cy ad S' I' J' b = cel cy ad S I J b) : (wsl cy ad S I J L).set q0 (ad k, x) = wsl cy ad S' I' J' L := by
  apply List.ext_getElem?
  intro y
  rw [List.getElem?_set]
  have hlt : q0 < L.length := (List.getElem?_eq_some_iff.mp hq).1
  by_cases hy : q0 = y
  · subst hy
    have hk : L[q0] = k := (List.getElem?_eq_some_iff.mp hq).2
    simp [wsl, hlt, hk, hx]
  · simp only [if_neg hy, wsl, List.getElem?_map]
    cases hb : L[y]? with
    | none => rfl
    | some b =>
      have hbk : b ≠ k := fun e => hy (hn q0 y k hq (by rw [hb, e]))
      simp [ho b hbk]
theorem cel_o {cy : Nat → ClassId} {ad : Nat → Nat} {S : HS} {I : HI} {J : HJ} {k ci : Nat} (h : S.1 k = ci + 1) (hc : ci < 8) : cel cy ad S I J k = .inr (ci, fls ad ci (S.2.2 k) (I k) (J k)) := by
  simp only [cel, ceR, h]
  rw [if_pos (by omega)]
  rfl
theorem cel_i {cy : Nat → ClassId} {ad : Nat → Nat} {S : HS} {I : HI} {J : HJ} {k : Nat} (h : S.1 k = 10) : cel cy ad S I J k = .inl (cy 1, S.2.1 k, .inl (I k)) := by
  simp [cel, ceR, h]
theorem cel_c {cy : Nat → ClassId} {ad : Nat → Nat} {S : HS} {I : HI} {J : HJ} {k : Nat} (h : S.1 k = 9) : cel cy ad S I J k = .inl (cy 0, S.2.1 k, .inl (I k)) := by
  simp [cel, ceR, h]
theorem cel_z {cy : Nat → ClassId} {ad : Nat → Nat} {S : HS} {I : HI} {J : HJ} {k : Nat} (h : S.1 k = 12) : cel cy ad S I J k = .inl (cy 3, S.2.1 k, .inl (I k)) := by
  simp [cel, ceR, h]
theorem cel_l {cy : Nat → ClassId} {ad : Nat → Nat} {S : HS} {I : HI} {J : HJ} {k : Nat} (h : S.1 k = 11) : cel cy ad S I J k = .inl (cy 2, S.2.1 k, .inr (.inl (J k))) := by
  simp [cel, ceR, h]
theorem cel_d {cy : Nat → ClassId} {ad : Nat → Nat} {S : HS} {I : HI} {J : HJ} {k : Nat} (h : S.1 k = 13) : cel cy ad S I J k = .inl (cy 4, S.2.1 k, .inr (.inr (.inr (.inr (fun x => (S.2.2 k x).map ad))))) := by
  simp [cel, ceR, h]
theorem cel_u {cy : Nat → ClassId} {ad : Nat → Nat} {S : HS} {I : HI} {J : HJ} {k : Nat} (h : S.1 k = 14) : cel cy ad S I J k = .inl (cy 5, S.2.1 k, .inr (.inr (.inr (.inr (fun x => (S.2.2 k x).map ad))))) := by
  simp [cel, ceR, h]
theorem cel_I {cy : Nat → ClassId} {ad : Nat → Nat} {S : HS} {I : HI} {J : HJ} {a x : Nat} {v : Int32} : ∀ b, b ≠ a → cel cy ad S (up2 I a x v) J b = cel cy ad S I J b := by
  intro b hb
  simp only [cel, up2_ne I x v hb]
theorem cel_J {cy : Nat → ClassId} {ad : Nat → Nat} {S : HS} {I : HI} {J : HJ} {a x : Nat} {v : Int64} : ∀ b, b ≠ a → cel cy ad S I (up2 J a x v) b = cel cy ad S I J b := by
  intro b hb
  simp only [cel, up2_ne J x v hb]
theorem cel_R {cy : Nat → ClassId} {ad : Nat → Nat} {S : HS} {I : HI} {J : HJ} {a x : Nat} {v : Option Nat} : ∀ b, b ≠ a → cel cy ad (S.1, S.2.1, up2 S.2.2 a x v) I J b = cel cy ad S I J b := by
  intro b hb
  simp only [cel, up2_ne S.2.2 x v hb]
/-! what the launch gives beside the tables' words: nest mates' links, arrays of our classes, literals, two static rows -/
def sIx : List Nat := [65, 90, 128, 103, 165, 167, 169, 171, 163, 158, 153, 144, 112]
def sTx : List String := ["()<=+-*/;", "stick break drift gather feed eat wander gap seen", "to", "when", "ring size gas warm dust all weight step lumps", "not", "(", ")", "*/", "+-", "<=", "and or", ";"]
def sBy : List (List Int32) := [[40, 41, 60, 61, 43, 45, 42, 47, 59], [115, 116, 105, 99, 107, 32, 98, 114, 101, 97, 107, 32, 100, 114, 105, 102, 116, 32, 103, 97, 116, 104, 101, 114, 32, 102, 101, 101, 100, 32, 101, 97, 116, 32, 119, 97, 110, 100, 101, 114, 32, 103, 97, 112, 32, 115, 101, 101, 110], [116, 111], [119, 104, 101, 110], [114, 105, 110, 103, 32, 115, 105, 122, 101, 32, 103, 97, 115, 32, 119, 97, 114, 109, 32, 100, 117, 115, 116, 32, 97, 108, 108, 32, 119, 101, 105, 103, 104, 116, 32, 115, 116, 101, 112, 32, 108, 117, 109, 112, 115], [110, 111, 116], [40], [41], [42, 47], [43, 45], [60, 61], [97, 110, 100, 32, 111, 114], [59]]
def sLe : List Nat := [9, 49, 2, 4, 45, 3, 1, 1, 2, 2, 2, 6, 1]
def nLeast : List Int32 := [0, 0, 0, 1, 0, 0, 1, 0, 0]
def nMost : List Int32 := [100, 100, 100, 99999, 100, 100, 99, 4, 100]
def XtN (U : State) : Prop := va_Nw (.methodLinkNest "RingDisk$Disk" 71 ⟨"RingDisk", "isWithin", "(III)Z"⟩ "RingDisk") U ∧ va_Nw (.methodLinkNest "RingDisk$Tape" 21 ⟨"RingDisk", "isWithin", "(III)Z"⟩ "RingDisk") U ∧ va_Nw (.methodLinkNest "RingDisk$Reader" 130 ⟨"RingDisk", "isWithin", "(III)Z"⟩ "RingDisk") U ∧ va_AO "RingDisk$Lump" U ∧ va_AO "RingDisk$Disk" U
def XtS (ad : Nat → Nat) (B0 : Nat → Prop) (U : State) : Prop := vk_S 13 sLe sBy (fun i => ad (5000 + i)) (fun i => ad (5020 + i)) B0 U U.heap ∧ ∀ i, i < 13 → vk_R "RingDisk$Reader" (sIx.getD i 0) (sTx.getD i "") (ad (5000 + i)) U
def XtT (ad : Nat → Nat) (B0 : Nat → Prop) (U : State) : Prop := va_Z "RingDisk$Reader" "LEAST_N" "[I" (.ref (ad 5100)) B0 U U.heap ∧ va_T .int (ad 5100) 9 (fun j => .int (nLeast.getD j 0)) B0 U U.heap ∧ va_Z "RingDisk$Reader" "MOST_N" "[I" (.ref (ad 5101)) B0 U U.heap ∧ va_T .int (ad 5101) 9 (fun j => .int (nMost.getD j 0)) B0 U U.heap ∧ va_Z "java/lang/String" "COMPACT_STRINGS" "Z" (.int 1) B0 U U.heap ∧ (va_Z "jdk/internal/util/Preconditions" "SIOOBE_FORMATTER" "Ljava/util/function/BiFunction;" .null B0 U U.heap ∨ va_Z "jdk/internal/util/Preconditions" "SIOOBE_FORMATTER" "Ljava/util/function/BiFunction;" (.ref (ad 5110)) B0 U U.heap)
def Xt (ad : Nat → Nat) (B0 : Nat → Prop) (U : State) : Prop := XtN U ∧ XtS ad B0 U ∧ XtT ad B0 U
theorem Xt_moved {ad : Nat → Nat} {B0 : Nat → Prop} {u U : State} (hW : u.WarmedH U.vm) (hq : ∀ q : Nat, q < u.heap.size → ¬ B0 q → U.heap[q]? = u.heap[q]?) (h : Xt ad B0 u) : Xt ad B0 U := by
  obtain ⟨⟨n2, n3, n4, n5, n6⟩, ⟨s1, s2⟩, t1, t2, t3, t4, t5, t6⟩ := h
  have ha := hW.alike
  exact ⟨⟨n2.warmM hW, n3.warmM hW, n4.warmM hW, n5.moved ha, n6.moved ha⟩, ⟨(s1.moved ha).kept hq, fun i hi => (s2 i hi).warm hW⟩, (t1.moved ha).kept hq, (t2.moved ha).kept hq, (t3.moved ha).kept hq, (t4.moved ha).kept hq, (t5.moved ha).kept hq, t6.imp (fun t => (t.moved ha).kept hq) (fun t => (t.moved ha).kept hq)⟩
theorem Xt_ad {ad ad' : Nat → Nat} {B0 : Nat → Prop} {U : State} (he : ∀ k, 5000 ≤ k → ad' k = ad k) (h : Xt ad B0 U) : Xt ad' B0 U := by
  have e1 : (fun i => ad' (5000 + i)) = fun i => ad (5000 + i) := funext fun i => he _ (by omega)
  have e2 : (fun i => ad' (5020 + i)) = fun i => ad (5020 + i) := funext fun i => he _ (by omega)
  obtain ⟨n, ⟨s1, s2⟩, t1, t2, t3, t4, t5, t6⟩ := h
  refine ⟨n, ⟨by rw [e1, e2]; exact s1, fun i hi => by rw [he (5000 + i) (by omega)]; exact s2 i hi⟩, ?_⟩
  unfold XtT
  rw [he 5100 (by omega), he 5101 (by omega), he 5110 (by omega)]
  exact ⟨t1, t2, t3, t4, t5, t6⟩
/-! contracts -/
def Pw (D : va_G) (cy : Nat → ClassId) (B0 : Nat → Prop) (ad : Nat → Nat) (S : HS) (I : HI) (J : HJ) (U : State) : Prop := Rl D cy B0 ad S I J U.heap ∧ va_K D vwCl (tys cy) U ∧ (∀ q, U.heap.size ≤ q → B0 q) ∧ Xt ad B0 U
def Qw (D : va_G) (cy : Nat → ClassId) (B0 : Nat → Prop) (ad : Nat → Nat) (F : Nat → Prop) (post : Option Value → HS → HI → HJ → Prop) : Array Value → State → Outcome → State → Prop := fun _ st o t =>
  (∃ (v : Option Value) (S' : HS) (I' : HI) (J' : HJ) (ad' : Nat → Nat), o = .returned (v.map (vv ad')) ∧ post v S' I' J' ∧ (∀ k, F k → ad' k = ad k) ∧ Rl D cy B0 ad' S' I' J' t.heap) ∧ va_F B0 st t
def Mt (l : Launch) (y : MethodName) (cc : ByteArray) (nL : Nat) (ret : Option FieldType) (rm : Room) (F : Nat → Prop) (As : List Value) (S : HS) (I : HI) (J : HJ) (post : Option Value → HS → HI → HJ → Prop) : Prop :=
  ∀ (D : va_G) (cy : Nat → ClassId) (B0 : Nat → Prop) (ad : Nat → Nat), Met l y (Cond.code y cc nL ret :: gtb) rm (fun a U => a = (As.map (vv ad)).toArray ∧ Pw D cy B0 ad S I J U) (Qw D cy B0 ad F post) rm.cells rm.slots B0
/-- the last: an end of another kind than a method's return (a throw, the law's own end) -/
abbrev VX : Type := (Program × Launch × Env × Room × State × MethodId × Array Value × List Frame × Method × Code) × va_G × (Nat → ClassId) × (Nat → Prop) × (Nat → Nat) × (Nat → Prop) × Nat × Nat × Nat × Option (State → Prop)
abbrev xp (X : VX) : Program := X.1.1
abbrev xl (X : VX) : Launch := X.1.2.1
abbrev xe (X : VX) : Env := X.1.2.2.1
abbrev xR (X : VX) : Room := X.1.2.2.2.1
abbrev xs (X : VX) : State := X.1.2.2.2.2.1
abbrev xm (X : VX) : MethodId := X.1.2.2.2.2.2.1
abbrev xa (X : VX) : Array Value := X.1.2.2.2.2.2.2.1
abbrev xb (X : VX) : List Frame := X.1.2.2.2.2.2.2.2.1
abbrev xh (X : VX) : Method := X.1.2.2.2.2.2.2.2.2.1
abbrev xc (X : VX) : Code := X.1.2.2.2.2.2.2.2.2.2
abbrev xD (X : VX) : va_G := X.2.1
abbrev xy (X : VX) : Nat → ClassId := X.2.2.1
abbrev xB (X : VX) : Nat → Prop := X.2.2.2.1
abbrev xad (X : VX) : Nat → Nat := X.2.2.2.2.1
abbrev xF (X : VX) : Nat → Prop := X.2.2.2.2.2.1
abbrev xmc (X : VX) : Nat := X.2.2.2.2.2.2.1
abbrev xms (X : VX) : Nat := X.2.2.2.2.2.2.2.1
abbrev xn (X : VX) : Nat := X.2.2.2.2.2.2.2.2.1
abbrev xq (X : VX) : Option (State → Prop) := X.2.2.2.2.2.2.2.2.2
def xQ (X : VX) (post : Option Value → HS → HI → HJ → Prop) : State → Prop := match xq X with
  | none => MQ (xb X) (Qw (xD X) (xy X) (xB X) (xad X) (xF X) post) (xa X) (xs X) (xmc X) (xms X) (xB X)
  | some Q => Q
theorem xQ_n {X : VX} {post : Option Value → HS → HI → HJ → Prop} (h : xq X = none) : xQ X post = MQ (xb X) (Qw (xD X) (xy X) (xB X) (xad X) (xF X) post) (xa X) (xs X) (xmc X) (xms X) (xB X) := by
  unfold xQ
  rw [h]
theorem xQ_s {X : VX} {post : Option Value → HS → HI → HJ → Prop} {Q : State → Prop} (h : xq X = some Q) : xQ X post = Q := by
  unfold xQ
  rw [h]
def LvR (ad : Nat → Nat) (ls : Array Slot) (nL : Nat) (lv : List (Option Value)) : Prop := ls.size = nL ∧ lv_wf ls ∧ ∀ (i : Nat) (v : Value), lv[i]? = some (some v) → ls[i]? = some (.val (vv ad v))
def V (X : VX) (post : Option Value → HS → HI → HJ → Prop) (nc ns pc : Nat) (lv : List (Option Value)) (st : List Value) (S : HS) (I : HI) (J : HJ) : Prop :=
  ∀ (ad : Nat → Nat) (H : Heap) (locs : List Loc) (ls : Array Slot), Rl (xD X) (xy X) (xB X) ad S I J H → (∀ k, xF X k → ad k = xad X k) → va_S (xB X) (xs X).heap H locs → LvR ad ls (xn X) lv →
    W (xp X) (xl X) (xe X) (xR X) (xs X) (xm X) (xa X) (xb X) (xh X) (xc X) H locs nc ns (xQ X post) (F0 (xm X) pc ls (st.map (vv ad)))
/-- what a walk knows -/
abbrev Cx (X : VX) (cc : ByteArray) (y : MethodName) (ret : Option FieldType) (rm : Room) : Prop :=
  (xp X).tables.exec = Jvm.exec ∧ (xc X).code = cc ∧ (xc X).maxLocals = xn X ∧ (xs X).vm.findClass y.cls = some (xm X).cls ∧ (∀ w ∈ gtb, w.before (xa X) (xs X) = true) ∧ ((xq X = none ∧ (xh X).sig.returnType = ret) ∨ ret = some .short) ∧ (xh X).locks = false ∧ va_K (xD X) vwCl (tys (xy X)) (xs X) ∧ (∀ q, (xs X).heap.size ≤ q → xB X q) ∧ Xt (xad X) (xB X) (xs X) ∧ xR X = rm ∧ (xh X).name = y.name ∧ xmc X = rm.cells ∧ xms X = rm.slots ∧ ∀ k, 5000 ≤ k → xF X k
/-! the locals with which a method begins -/
def isC2 (v : Value) : Bool := match v with
  | .long _ => true
  | .double _ => true
  | _ => false
theorem isC2_cat (v : Value) : isC2 v = true ↔ v.category = 2 := by cases v <;> simp [isC2, Value.category]
def lva (l : List Value) : List (Option Value) := match l with
  | [] => []
  | v :: t => some v :: (bif isC2 v then none :: lva t else lva t)
def lvs (n : Nat) (l : List Value) : List (Option Value) := lva l ++ List.replicate (n - (lva l).length) none
theorem lva_args (ad : Nat → Nat) : ∀ (l : List Value) (o i : Nat) (v : Value), (lva l)[i]? = some (some v) → (o + i, vv ad v) ∈ lv_args o (l.map (vv ad)) := by
  intro l
  induction l with
  | nil => intro o i v h; simp [lva] at h
  | cons w t ih =>
    intro o i v h
    cases i with
    | zero =>
      simp only [lva, List.getElem?_cons_zero, Option.some.injEq] at h
      subst h
      exact List.mem_cons_self
    | succ i =>
      simp only [lva, List.getElem?_cons_succ] at h
      refine List.mem_cons_of_mem _ ?_
      rw [vv_cat]
      cases hc : isC2 w with
      | true =>
        rw [hc] at h
        simp only [cond_true] at h
        rw [if_pos ((isC2_cat w).mp hc)]
        cases i with
        | zero => simp at h
        | succ i =>
          simp only [List.getElem?_cons_succ] at h
          have h1 := ih (o + 2) i v h
          rw [show o + (i + 1 + 1) = o + 2 + i by omega]
          exact h1
      | false =>
        rw [hc] at h
        simp only [cond_false] at h
        have hn : ¬ w.category = 2 := fun e => by rw [(isC2_cat w).mpr e] at hc; cases hc
        rw [if_neg hn]
        have h1 := ih (o + 1) i v h
        rw [show o + (i + 1) = o + 1 + i by omega]
        exact h1
theorem lvs_args (ad : Nat → Nat) {n : Nat} {l : List Value} {i : Nat} {v : Value} (h : (lvs n l)[i]? = some (some v)) : (i, vv ad v) ∈ lv_args 0 (l.map (vv ad)) := by
  have key : (lva l)[i]? = some (some v) := by
    unfold lvs at h
    by_cases hi : i < (lva l).length
    · rw [List.getElem?_append_left hi] at h
      exact h
    · rw [List.getElem?_append_right (by omega)] at h
      have := List.eq_of_mem_replicate (List.mem_of_getElem? h)
      cases this
  have := lva_args ad l 0 i v key
  rwa [Nat.zero_add] at this
theorem Mt.of {l : Launch} {y : MethodName} {cc : ByteArray} {nL : Nat} {ret : Option FieldType} {rm : Room} {F : Nat → Prop} {As : List Value} {S : HS} {I : HI} {J : HJ} {post : Option Value → HS → HI → HJ → Prop} (hy : plainName y.cls = true) (hl : ∀ ad, (lg_sl (As.map (vv ad))).length ≤ nL) (hF : ∀ k, 5000 ≤ k → F k)
    (body : ∀ X : VX, xl X = l → xn X = nL → xF X = F → Cx X cc y ret rm → V X post 0 0 0 (lvs nL As) [] S I J) : Mt l y cc nL ret rm F As S I J post := by
  intro D cy B0 ad
  refine Met.ofW (cc := cc) (maxL := nL) (ret := ret) hy rfl ?_
  intro p e s m args below meth c s₁ B hml hv
  obtain ⟨rfl, hR, hK, hB, hX⟩ := hv
  have hts := atoms_spec (ws := Cond.code y cc nL ret :: gtb) B.pre
  have hown : s.vm.findClass y.cls = some m.cls := findClass_of_methodNamed B.named
  have hin : meth.name = y.name := (name_of_methodNamed B.named B.method).1
  have C : Cx ((p, l, e, (headSpec (Cond.code y cc nL ret :: gtb) rm).room, s, m, (As.map (vv ad)).toArray, below, meth, c), D, cy, B0, ad, F, rm.cells, rm.slots, nL, none) cc y ret rm :=
    ⟨B.exec, B.bytes, hml, hown, fun w hw => hts w (List.mem_cons_of_mem _ hw), Or.inl ⟨rfl, B.returns⟩, B.notSynchronized, hK, hB, hX, rfl, hin, rfl, rfl, hF⟩
  have hl0 := lv_entry (As.map (vv ad)) (n := nL) (hl ad)
  rw [lg_entry_eq]
  refine body _ rfl rfl rfl C ad s.heap [] _ hR (fun _ _ => rfl) va_S.rf ⟨hl0.1, hl0.2.1, fun i v hi => ?_⟩
  exact hl0.2.2 (i, vv ad v) (lvs_args ad hi)
