/-! what constructors make: rows, lumps, disks -/
theorem ka_I : Cond.arrayClass .int ∈ gtb := by decide +kernel
theorem ka_C : Cond.arrayClass .char ∈ gtb := by decide +kernel
theorem ki_3 : Cond.classLink RX1 24 (Rc 3) ∈ gtb ∧ Cond.instantiable (Rc 3) (nf 3) ∈ gtb ∧ Cond.initialized (Rc 3) ∈ gtb := by decide +kernel
theorem ki_1 : Cond.classLink RX6 7 (Rc 1) ∈ gtb ∧ Cond.instantiable (Rc 1) (nf 1) ∈ gtb ∧ Cond.initialized (Rc 1) ∈ gtb := by decide +kernel
section C23
variable {l : Launch} {S S' S2 : HS} {I I' I2 : HI} {J J' J2 : HJ} {b x ci : Nat}
/-- a room with cells and slots -/
def rmc (n c s : Nat) : Room := { frames := n, cells := c, slots := s, locals := 60 * n }
/-- the object at b has got the row of its field x -/
def rowS (S : HS) (b x kd n : Nat) : HS := ((nwS S (b + 1 + x) kd n).1, (nwS S (b + 1 + x) kd n).2.1, up2 (nwS S (b + 1 + x) kd n).2.2 b x (some (b + 1 + x)))
theorem rowS_1s {kd n : Nat} : (rowS S b x kd n).1 (b + 1 + x) = kd := va_up_self _ _ _
theorem rowS_1n {kd n a : Nat} (h : a ≠ b + 1 + x) : (rowS S b x kd n).1 a = S.1 a := va_up_ne _ _ h
theorem rowS_ls {kd n : Nat} : (rowS S b x kd n).2.1 (b + 1 + x) = n := va_up_self _ _ _
theorem rowS_ln {kd n a : Nat} (h : a ≠ b + 1 + x) : (rowS S b x kd n).2.1 a = S.2.1 a := va_up_ne _ _ h
theorem rowS_rs {kd n : Nat} : (rowS S b x kd n).2.2 b x = some (b + 1 + x) := by
  show up2 _ b x (some (b + 1 + x)) b x = _
  rw [up2_row, va_up_self]
theorem rowS_rx {kd n y : Nat} (h : y ≠ x) : (rowS S b x kd n).2.2 b y = S.2.2 b y := by
  show up2 (va_up S.2.2 (b + 1 + x) (fun _ => none)) b x (some (b + 1 + x)) b y = _
  rw [up2_row, va_up_ne _ _ h, va_up_ne _ _ (by omega)]
theorem rowS_rn {kd n a : Nat} (h : a ≠ b + 1 + x) (hb : a ≠ b) : (rowS S b x kd n).2.2 a = S.2.2 a := by
  show up2 (va_up S.2.2 (b + 1 + x) (fun _ => none)) b x (some (b + 1 + x)) a = _
  rw [up2_ne _ _ _ hb, va_up_ne _ _ h]
theorem wfS.row {kd n : Nat} (hw : wfS S) (hkd : kd ≠ 0) : wfS (rowS S b x kd n) := by
  have h1 := hw.nw (k := b + 1 + x) (n := n) hkd
  intro a y c ha hy
  by_cases e : a = b ∧ y = x
  · rw [e.1, e.2, rowS_rs] at hy
    rw [← Option.some.inj hy, rowS_1s]
    exact hkd
  · refine h1 a y c ha ?_
    rw [← hy]
    show _ = up2 (nwS S (b + 1 + x) kd n).2.2 b x (some (b + 1 + x)) a y
    by_cases e1 : a = b
    · subst e1; rw [up2_row, va_up_ne _ _ (fun q => e ⟨rfl, q⟩)]
    · rw [up2_ne _ _ _ e1]
/-- the rows of the fields below n are there -/
def ObN (S : HS) (ci a n : Nat) : Prop := S.1 a = ci + 1 ∧ ∀ x kd ln, x < n → arrOf ci x = some (kd, ln) → S.2.2 a x = some (a + 1 + x) ∧ S.1 (a + 1 + x) = kd ∧ S.2.1 (a + 1 + x) = ln
theorem ObN.row {kd ln : Nat} (h : ObN S ci b x) (ha : arrOf ci x = some (kd, ln)) : ObN (rowS S b x kd ln) ci b (x + 1) := by
  refine ⟨by rw [rowS_1n (by omega)]; exact h.1, fun y kd' ln' hy hay => ?_⟩
  by_cases e : y = x
  · subst e
    rw [ha] at hay
    cases hay
    exact ⟨rowS_rs, rowS_1s, rowS_ls⟩
  · obtain ⟨h1, h2, h3⟩ := h.2 y kd' ln' (by omega) hay
    exact ⟨by rw [rowS_rx e]; exact h1, by rw [rowS_1n (by omega)]; exact h2, by rw [rowS_ln (by omega)]; exact h3⟩
theorem ObN.skip {n m : Nat} (h : ObN S ci b n) (ha : ∀ x, n ≤ x → x < m → arrOf ci x = none) : ObN S ci b m := ⟨h.1, fun x kd ln hx hax => by
  rcases Nat.lt_or_ge x n with g | g
  · exact h.2 x kd ln g hax
  · rw [ha x g hx] at hax; cases hax⟩
theorem ObN.ob {n : Nat} (h : ObN S ci b n) (ha : ∀ x, n ≤ x → arrOf ci x = none) : Ob S ci b := ⟨h.1, fun x kd ln hax => by
  rcases Nat.lt_or_ge x n with g | g
  · exact h.2 x kd ln g hax
  · rw [ha x g] at hax; cases hax⟩
/-- nothing but the keys from lo to hi has changed -/
def MkF (lo hi : Nat) (S : HS) (I : HI) (J : HJ) (S' : HS) (I' : HI) (J' : HJ) : Prop := ∀ a, (a < lo ∨ hi ≤ a) → S'.1 a = S.1 a ∧ S'.2.1 a = S.2.1 a ∧ S'.2.2 a = S.2.2 a ∧ I' a = I a ∧ J' a = J a
theorem MkF.re {lo hi : Nat} : MkF lo hi S I J S I J := fun _ _ => ⟨rfl, rfl, rfl, rfl, rfl⟩
theorem MkF.tr {lo hi : Nat} (h : MkF lo hi S I J S2 I2 J2) (g : MkF lo hi S2 I2 J2 S' I' J') : MkF lo hi S I J S' I' J' := fun a ha => by
  obtain ⟨h1, h2, h3, h4, h5⟩ := h a ha
  obtain ⟨g1, g2, g3, g4, g5⟩ := g a ha
  exact ⟨g1.trans h1, g2.trans h2, g3.trans h3, g4.trans h4, g5.trans h5⟩
theorem MkF.wide {lo hi lo' hi' : Nat} (h : MkF lo hi S I J S' I' J') (h1 : lo' ≤ lo) (h2 : hi ≤ hi') : MkF lo' hi' S I J S' I' J' := fun a ha => h a (by omega)
theorem MkF.row {lo hi kd n : Nat} (h1 : lo ≤ b) (h2 : b + 1 + x < hi) : MkF lo hi S I J (rowS S b x kd n) (nwI I (b + 1 + x)) (nwJ J (b + 1 + x)) := fun a ha => ⟨rowS_1n (by omega), rowS_ln (by omega), rowS_rn (by omega) (by omega), va_up_ne _ _ (by omega), va_up_ne _ _ (by omega)⟩
section RL
variable {X : VX} {cc : ByteArray} {y : MethodName} {ret : Option FieldType} {rm : Room} {post : Option Value → HS → HI → HJ → Prop} {nc ns pc : Nat} {lv : List (Option Value)} {st : List Value}
/-- a row of ints for the final field x of the object at b -/
theorem V_rowI (C : Cx X cc y ret rm) {ix n : Nat} {i : Int32} (hi : i = nI n) (hn : n ≤ 100000) (hK : S.1 b = ci + 1) (hk : S.1 (b + 1 + x) = 0) (hw : wfS S) (hF : ¬ xF X (b + 1 + x)) (hl : ∀ v, some v ∈ lv → clo (fun c => c ≠ b + 1 + x) v) (hst : ∀ v, v ∈ st → clo (fun c => c ≠ b + 1 + x) v) (hc : nc + 1 ≤ rm.cells) (hs : ns + n ≤ rm.slots) (hd : decode cc pc = .ok (.newarray .int, 2)) (hf : FL y.cls ix ci x) (ht : isRt (tyc ci x) = true) (hfin : (Tc ci x).2.2.2 = true) (hnm : y.name = "<init>") (hdc : (Tc ci x).1 = y.cls) (hd2 : decode cc (pc + 2) = .ok (.putfield ix, 3))
    (kk : V X post (nc + 1) (ns + n) (pc + 2 + 3) lv st (rowS S b x 10 n) (nwI I (b + 1 + x)) (nwJ J (b + 1 + x))) : V X post nc ns pc lv (.int i :: .ref b :: st) S I J := by
  refine V_newI C (b + 1 + x) ka_I hi hn hk hw hF hl (fun v hv => ?_) hc hs hd ?_
  · rcases List.mem_cons.mp hv with e | e
    · rw [e]; show b ≠ b + 1 + x; omega
    · exact hst v e
  · refine V_putFR C hf (S := nwS S (b + 1 + x) 10 n) ?_ ht hfin hnm hdc hd2 kk
    show va_up S.1 (b + 1 + x) 10 b = _
    rw [va_up_ne _ _ (by omega)]
    exact hK
end RL
set_option maxRecDepth 100000 in
/-- a lump's constructor, at the key b -/
theorem c_lumpInit (hK : S.1 b = 4) (hk : S.1 (b + 8) = 0) (hw : wfS S) (hb : b + 8 < 5000) : Mt l yX3_init cX3_init 1 none (rmc 1 1 12) (fun c => c ≠ b + 8) [.ref b] S I J (fun v S' I' J' => v = none ∧ Ob S' 3 b ∧ wfS S' ∧ S' = rowS S b 7 10 12 ∧ I' = nwI I (b + 8) ∧ J' = nwJ J (b + 8)) := by
  refine Mt.of (by decide) (fun ad => by simp [lg_sl, vv, Value.category]) (fun c hc => by show c ≠ b + 8; omega) (fun X hX hN hF C => ?_)
  have o0 : ObN S 3 b 7 := ObN.skip (n := 0) ⟨hK, fun x _ _ hx _ => absurd hx (by omega)⟩ (fun x _ hx => by match x, hx with | 0, _ => rfl | 1, _ => rfl | 2, _ => rfl | 3, _ => rfl | 4, _ => rfl | 5, _ => rfl | 6, _ => rfl)
  refine V_aload_n C dX3_init_0 rfl ?_
  refine V_objInit C ml_X3_3 (by decide) (by decide) dX3_init_1 ?_
  refine V_aload_n C dX3_init_4 rfl ?_
  refine V_bipush C (v := nI 12) dX3_init_5 rfl ?_
  refine V_rowI (b := b) (x := 7) (ci := 3) C (n := 12) rfl (by omega) hK hk hw (by rw [hF]; exact fun q => q rfl) (fun v hv => ?_) (fun v hv => by cases hv) (by decide) (by decide) dX3_init_7 fl_X3_9 rfl rfl rfl rfl dX3_init_9 ?_
  · have hv : some v ∈ [some (Value.ref b)] := hv
    rw [List.mem_singleton] at hv
    rw [Option.some.inj hv]
    show b ≠ b + 8
    omega
  · refine V_vret C (by decide) (by decide) dX3_init_12 ⟨rfl, (o0.row rfl).ob (fun x hx => ?_), hw.row (by decide), rfl, rfl, rfl⟩
    unfold arrOf
    split <;> first | rfl | omega
end C23
