/-! rules of V: literals and static rows; String's own methods over literals -/
section VT
theorem wJ_38 : Cond.fieldLink RJ0 38 "java/lang/String" "COMPACT_STRINGS" "Z" ∈ gtb := in_gtb (List.mem_of_getElem? (i := 499) (by decide +kernel)) rfl
theorem wJ_1053 : Cond.fieldLink RJ0 1053 "jdk/internal/util/Preconditions" "SIOOBE_FORMATTER" "Ljava/util/function/BiFunction;" ∈ gtb := in_gtb (List.mem_of_getElem? (i := 542) (by decide +kernel)) rfl
theorem wX_117 : Cond.fieldLink RX4 117 "RingDisk$Reader" "LEAST_N" "[I" ∈ gtb := in_gtb (List.mem_of_getElem? (i := 619) (by decide +kernel)) rfl
theorem wX_121 : Cond.fieldLink RX4 121 "RingDisk$Reader" "MOST_N" "[I" ∈ gtb := in_gtb (List.mem_of_getElem? (i := 621) (by decide +kernel)) rfl
theorem wJ_15 : Cond.fieldLink RJ0 15 "java/lang/String" "coder" "B" ∈ gtb := in_gtb (List.mem_of_getElem? (i := 1602) (by decide +kernel)) rfl
theorem wJ_9 : Cond.fieldLink RJ0 9 "java/lang/String" "value" "[B" ∈ gtb := in_gtb (List.mem_of_getElem? (i := 1603) (by decide +kernel)) rfl
variable {X : VX} {cc : ByteArray} {y : MethodName} {ret : Option FieldType} {rm : Room} {post : Option Value → HS → HI → HJ → Prop} {nc ns pc : Nat} {lv : List (Option Value)} {st : List Value} {S : HS} {I : HI} {J : HJ} {l : Launch}
theorem Cx.xt (C : Cx X cc y ret rm) : Xt (xad X) (xB X) (xs X) := C.2.2.2.2.2.2.2.2.2.1
theorem Cx.ad (C : Cx X cc y ret rm) {ad : Nat → Nat} (h2 : ∀ k, xF X k → ad k = xad X k) {k : Nat} (hk : 5000 ≤ k) : ad k = xad X k := h2 k (C.2.2.2.2.2.2.2.2.2.2.2.2.2.2 k hk)
theorem V_gets (C : Cx X cc y ret rm) {ix : Nat} {c n d : String} {v : Value} (hZ : va_Z c n d (vv (xad X) v) (xB X) (xs X) (xs X).heap) (hv : clo (fun k => 5000 ≤ k) v) (hl : Cond.fieldLink y.cls ix c n d ∈ gtb) (hd : decode cc pc = .ok (.getstatic ix, 3)) (k : V X post nc ns (pc + 3) lv (v :: st) S I J) : V X post nc ns pc lv st S I J := fun ad H locs ls h1 h2 h3 h4 => by
  have e : vv ad v = vv (xad X) v := clo_eq (F := fun k => 5000 ≤ k) (fun k hk => Cx.ad C h2 hk) hv
  have hk := k ad H locs ls h1 h2 h3 h4
  rw [List.map_cons, e] at hk
  exact va_gets C.1 C.2.1 hZ h3 C.2.2.2.1 (C.2.2.2.2.1 _ hl) (fun _ h => h) hd hk
theorem V_ldcS (C : Cx X cc y ret rm) (hy : y.cls = "RingDisk$Reader") {ix : Nat} (i : Nat) (hi : i < 13) (hx : sIx.getD i 0 = ix) (hd : decode cc pc = .ok (.ldc ix, 2)) (k : V X post nc ns (pc + 2) lv (.ref (5000 + i) :: st) S I J) : V X post nc ns pc lv st S I J := fun ad H locs ls h1 h2 h3 h4 => by
  have hk := k ad H locs ls h1 h2 h3 h4
  have hR := (Cx.xt C).2.1.2 i hi
  have e : vv ad (.ref (5000 + i)) = .ref (xad X (5000 + i)) := by show Value.ref (ad (5000 + i)) = _; rw [Cx.ad C h2 (by omega)]
  rw [List.map_cons, e] at hk
  rw [hx] at hR
  exact va_ldcS C.1 C.2.1 (by rw [← hy]; exact C.2.2.2.1) hR hd hk
theorem V_getV (C : Cx X cc y ret rm) (hy : y.cls = RJ0) {i : Nat} (hi : i < 13) (hd : decode cc pc = .ok (.getfield 9, 3)) (k : V X post nc ns (pc + 3) lv (.ref (5020 + i) :: st) S I J) : V X post nc ns pc lv (.ref (5000 + i) :: st) S I J := fun ad H locs ls h1 h2 h3 h4 => by
  have hk := k ad H locs ls h1 h2 h3 h4
  have hE := ((Cx.xt C).2.1.1.1 i hi).2.2.1
  have e : vv ad (.ref (5000 + i)) = .ref (xad X (5000 + i)) := by show Value.ref (ad (5000 + i)) = _; rw [Cx.ad C h2 (by omega)]
  have e2 : vv ad (.ref (5020 + i)) = .ref (xad X (5020 + i)) := by show Value.ref (ad (5020 + i)) = _; rw [Cx.ad C h2 (by omega)]
  rw [List.map_cons, e2] at hk
  rw [List.map_cons, e]
  exact vk_getf C.1 C.2.1 hE h3 (by rw [← hy]; exact C.2.2.2.1) (C.2.2.2.2.1 _ wJ_9) (fun _ h => h) hd hk
theorem V_getK (C : Cx X cc y ret rm) (hy : y.cls = RJ0) {i : Nat} (hi : i < 13) (hd : decode cc pc = .ok (.getfield 15, 3)) (k : V X post nc ns (pc + 3) lv (.int 0 :: st) S I J) : V X post nc ns pc lv (.ref (5000 + i) :: st) S I J := fun ad H locs ls h1 h2 h3 h4 => by
  have hk := k ad H locs ls h1 h2 h3 h4
  have hE := ((Cx.xt C).2.1.1.1 i hi).2.1
  have e : vv ad (.ref (5000 + i)) = .ref (xad X (5000 + i)) := by show Value.ref (ad (5000 + i)) = _; rw [Cx.ad C h2 (by omega)]
  rw [List.map_cons] at hk
  rw [List.map_cons, e]
  exact vk_getf C.1 C.2.1 hE h3 (by rw [← hy]; exact C.2.2.2.1) (C.2.2.2.2.1 _ wJ_15) (fun _ h => h) hd hk
theorem V_lenT (C : Cx X cc y ret rm) {i : Nat} (hi : i < 13) (hd : decode cc pc = .ok (.arraylength, 1)) (k : V X post nc ns (pc + 1) lv (.int (nI (sLe.getD i 0)) :: st) S I J) : V X post nc ns pc lv (.ref (5020 + i) :: st) S I J := fun ad H locs ls h1 h2 h3 h4 => by
  have hk := k ad H locs ls h1 h2 h3 h4
  have hT := ((Cx.xt C).2.1.1.1 i hi).2.2.2
  have e : vv ad (.ref (5020 + i)) = .ref (xad X (5020 + i)) := by show Value.ref (ad (5020 + i)) = _; rw [Cx.ad C h2 (by omega)]
  rw [List.map_cons] at hk
  rw [List.map_cons, e]
  exact va_tlen C.1 C.2.1 hT h3 rfl hd hk
theorem V_baldT (C : Cx X cc y ret rm) {i : Nat} (hi : i < 13) {x : Int32} (j : Nat) (hx : x = nI j) (hj : j < sLe.getD i 0) (hN : sLe.getD i 0 < 2 ^ 31) (hd : decode cc pc = .ok (.baload, 1)) (k : V X post nc ns (pc + 1) lv (.int ((sBy.getD i []).getD j 0) :: st) S I J) : V X post nc ns pc lv (.int x :: .ref (5020 + i) :: st) S I J := fun ad H locs ls h1 h2 h3 h4 => by
  subst hx
  have hk := k ad H locs ls h1 h2 h3 h4
  have hT := ((Cx.xt C).2.1.1.1 i hi).2.2.2
  have e : vv ad (.ref (5020 + i)) = .ref (xad X (5020 + i)) := by show Value.ref (ad (5020 + i)) = _; rw [Cx.ad C h2 (by omega)]
  rw [List.map_cons] at hk
  rw [List.map_cons, List.map_cons, e]
  exact va_tb C.1 C.2.1 hT h3 (vp_in_nI hj hN) (by rw [nI_clamp (by omega)]; rfl) hd hk
theorem V_ialdL (C : Cx X cc y ret rm) {x : Int32} (j : Nat) (hx : x = nI j) (hj : j < 9) (hd : decode cc pc = .ok (.iaload, 1)) (k : V X post nc ns (pc + 1) lv (.int (nLeast.getD j 0) :: st) S I J) : V X post nc ns pc lv (.int x :: .ref 5100 :: st) S I J := fun ad H locs ls h1 h2 h3 h4 => by
  subst hx
  have hk := k ad H locs ls h1 h2 h3 h4
  have hT := (Cx.xt C).2.2.2.1
  have e : vv ad (.ref 5100) = .ref (xad X 5100) := by show Value.ref (ad 5100) = _; rw [Cx.ad C h2 (by omega)]
  rw [List.map_cons] at hk
  rw [List.map_cons, List.map_cons, e]
  exact va_ti C.1 C.2.1 hT h3 (vp_in_nI hj (by decide)) (by rw [nI_clamp (by omega)]; rfl) hd hk
theorem V_ialdM (C : Cx X cc y ret rm) {x : Int32} (j : Nat) (hx : x = nI j) (hj : j < 9) (hd : decode cc pc = .ok (.iaload, 1)) (k : V X post nc ns (pc + 1) lv (.int (nMost.getD j 0) :: st) S I J) : V X post nc ns pc lv (.int x :: .ref 5101 :: st) S I J := fun ad H locs ls h1 h2 h3 h4 => by
  subst hx
  have hk := k ad H locs ls h1 h2 h3 h4
  have hT := (Cx.xt C).2.2.2.2.2.1
  have e : vv ad (.ref 5101) = .ref (xad X 5101) := by show Value.ref (ad 5101) = _; rw [Cx.ad C h2 (by omega)]
  rw [List.map_cons] at hk
  rw [List.map_cons, List.map_cons, e]
  exact va_ti C.1 C.2.1 hT h3 (vp_in_nI hj (by decide)) (by rw [nI_clamp (by omega)]; rfl) hd hk
theorem V_i2b (C : Cx X cc y ret rm) {a : Int32} (hd : decode cc pc = .ok (.i2b, 1)) (k : V X post nc ns (pc + 1) lv (.int a.toInt8.toInt32 :: st) S I J) : V X post nc ns pc lv (.int a :: st) S I J := fun ad H locs ls h1 h2 h3 h4 => lv_i2b C.1 C.2.1 hd rfl (k ad H locs ls h1 h2 h3 h4)
/-- a method of a literal -/
theorem V_callT {F : Nat → Prop} (C : Cx X cc y ret rm) {ix i nL' n : Nat} {y' : MethodName} {cc' : ByteArray} {ret' : Option FieldType} {rm' : Room} {As rest : List Value} {post' : Option Value → HS → HI → HJ → Prop} (hi : i < 13) (hM : Mt (xl X) y' cc' nL' ret' rm' F (.ref (5000 + i) :: As) S I J post') (hy : MI y' cc' nL' ret' n) (hl : Cond.methodLink y.cls ix y' ∈ gtb) (hn : As.length = n) (hci : y'.cls = "java/lang/String") (hr : rm'.frames + 1 ≤ rm.frames ∧ 8 + (nL' + 11) + rm'.locals ≤ rm.locals) (hc : nc + rm'.cells ≤ rm.cells ∧ ns + rm'.slots ≤ rm.slots) (hw : (rest.map fun v => v.category).sum ≤ 8) (hFX : ∀ k, xF X k → F k) (hcl : ∀ v, (some v ∈ lv ∨ v ∈ rest) → clo F v) (hst : st = As.reverse ++ .ref (5000 + i) :: rest) (hd : decode cc pc = .ok (.invokevirtual ix, 3))
    (k : ∀ v S' I' J', post' v S' I' J' → V X post (nc + rm'.cells) (ns + rm'.slots) (pc + 3) lv (v.toList ++ rest) S' I' J') : V X post nc ns pc lv st S I J := by
  refine V_run hFX hcl (fun ad H locs ls h1 h2 h3 h4 => ?_) k
  have hrecv := vk_recv (Cx.xt C).2.1.1 hi h3
  rw [← hci, ← Cx.ad C h2 (show 5000 ≤ 5000 + i by omega)] at hrecv
  have hts := C.2.2.2.2.1
  have hRR := C.2.2.2.2.2.2.2.2.2.2.1
  refine ⟨_, va_runV (Ts := gtb) (C := y'.cls) (b := ad (5000 + i)) (As := As.map (vv ad)) ⟨C.1, C.2.1, C.2.2.1, C.2.2.2.1, hts⟩ (hM (xD X) (xy X) (xB X) ad)
    ⟨callB_of (R := xR X) n hts (gtb_code hy.2.2.2.1) rfl rfl rfl (hts _ hy.2.2.1) (hts _ hl) hy.2.2.2.2 (by rw [hRR]; exact hr), hts _ hy.1, hts _ hy.2.1⟩
    ⟨Pw_blind, hrecv, Pw_now C h1 h2 h3⟩ rfl (by rw [List.length_map]; exact hn) h4.1 ?_ ?_ hd (by rw [hRR]; exact hc)⟩
  · show st.map (vv ad) = _
    rw [hst, List.map_append, List.map_reverse]
    rfl
  · refine lv_room ?_
    rw [cat_vv]
    exact hw
/-! String's methods -/
theorem sL_lt : ∀ i, i < 13 → 0 < sLe.getD i 0 ∧ sLe.getD i 0 < 50 ∧ nI (sLe.getD i 0) >>> ((0 : Int32) &&& 31) = nI (sLe.getD i 0) ∧ (sBy.getD i []).length = sLe.getD i 0 := by decide +kernel
theorem sB_lt : ∀ i, i < 13 → ∀ b ∈ sBy.getD i [], ∃ n, n < 128 ∧ b = nI n := by
  have h : ∀ i, i < 13 → ∀ b ∈ sBy.getD i [], b.toNatClampNeg < 128 ∧ b = nI b.toNatClampNeg := by decide +kernel
  exact fun i hi b hb => ⟨_, h i hi b hb⟩
theorem gd_mem {l : List Int32} {k : Nat} (h : k < l.length) : l.getD k 0 ∈ l := by
  rw [List.getD_eq_getElem?_getD, List.getElem?_eq_getElem h]
  exact List.getElem_mem _
theorem sB_at {i k : Nat} (hi : i < 13) (hk : k < sLe.getD i 0) : ∃ n, n < 128 ∧ (sBy.getD i []).getD k 0 = nI n := by
  have e := (sL_lt i hi).2.2.2
  have hlt : k < (sBy.getD i []).length := by rw [e]; exact hk
  exact sB_lt i hi _ (gd_mem hlt)
set_option maxRecDepth 100000 in
theorem c_coder {i : Nat} (hi : i < 13) : Mn l yJ0_coder_7d493 cJ0_coder_7d493 1 (some .byte) 0 [.ref (5000 + i)] S I J (fun v I' J' => v = some (.int 0) ∧ I' = I ∧ J' = J) := by
  refine Mn.of (by decide) (fun ad => by simp [lg_sl, vv, Value.category]) (fun X P hP hn C => ?_)
  refine V_gets C (v := .int 1) (Cx.xt C).2.2.2.2.2.2.1 trivial wJ_38 dJ0_coder_7d493_0 ?_
  refine V_if_eq C 13 dJ0_coder_7d493_3 (by decide) (fun h => absurd h (by decide)) (fun _ => ?_)
  refine V_aload_n C dJ0_coder_7d493_6 rfl ?_
  refine V_getK C rfl hi dJ0_coder_7d493_7 ?_
  refine V_goto C 14 dJ0_coder_7d493_10 (by decide) ?_
  exact V_nret (by decide) C (by decide) (Nat.zero_le _) (Nat.zero_le _) dJ0_coder_7d493_14 (hP _ _ _ ⟨rfl, rfl, rfl⟩)
set_option maxRecDepth 100000 in
theorem c_isLatin1 {i : Nat} (hi : i < 13) : Mn l yJ0_isLatin1_aae02 cJ0_isLatin1_aae02 1 (some .boolean) 0 [.ref (5000 + i)] S I J (fun v I' J' => v = some (.int 1) ∧ I' = I ∧ J' = J) := by
  refine Mn.of (by decide) (fun ad => by simp [lg_sl, vv, Value.category]) (fun X P hP hn C => ?_)
  refine V_gets C (v := .int 1) (Cx.xt C).2.2.2.2.2.2.1 trivial wJ_38 dJ0_isLatin1_aae02_0 ?_
  refine V_if_eq C 17 dJ0_isLatin1_aae02_3 (by decide) (fun h => absurd h (by decide)) (fun _ => ?_)
  refine V_aload_n C dJ0_isLatin1_aae02_6 rfl ?_
  refine V_getK C rfl hi dJ0_isLatin1_aae02_7 ?_
  refine V_if_ne C 17 dJ0_isLatin1_aae02_10 (by decide) (fun h => absurd rfl h) (fun _ => ?_)
  refine V_iconst C (v := 1) dJ0_isLatin1_aae02_13 (by decide +kernel) ?_
  refine V_goto C 18 dJ0_isLatin1_aae02_14 (by decide) ?_
  exact V_zret C (Or.inr rfl) (Nat.zero_le _) (Nat.zero_le _) dJ0_isLatin1_aae02_18 (hP _ _ _ ⟨rfl, rfl, rfl⟩)
set_option maxRecDepth 100000 in
theorem c_length {i : Nat} (hi : i < 13) : Mn l yJ0_length_8abf5 cJ0_length_8abf5 1 (some .int) 1 [.ref (5000 + i)] S I J (fun v I' J' => v = some (.int (nI (sLe.getD i 0))) ∧ I' = I ∧ J' = J) := by
  refine Mn.of (by decide) (fun ad => by simp [lg_sl, vv, Value.category]) (fun X P hP hn C => ?_)
  refine V_aload_n C dJ0_length_8abf5_0 rfl ?_
  refine V_getV C rfl hi dJ0_length_8abf5_1 ?_
  refine V_lenT C hi dJ0_length_8abf5_4 ?_
  refine V_aload_n C dJ0_length_8abf5_5 rfl ?_
  refine V_callT (F := fun _ => True) C hi (c_coder hi) mi_J0_coder_7d493 ml_J0_335 rfl rfl (by decide) (by decide) (Nat.le_of_ble_eq_true rfl) (fun _ _ => trivial) (fun v _ => clo_T v) rfl dJ0_length_8abf5_6 ?_
  rintro v S' I' J' ⟨hS9, rfl, hI9, hJ9⟩
  obtain rfl := hS9.symm
  obtain rfl := hI9.symm
  obtain rfl := hJ9.symm
  refine V_ishr C dJ0_length_8abf5_9 ?_
  rw [(sL_lt i hi).2.2.1]
  exact V_iret C (Nat.zero_le _) (Nat.zero_le _) dJ0_length_8abf5_10 (hP _ _ _ ⟨rfl, rfl, rfl⟩)
set_option maxRecDepth 100000 in
theorem c_J3check {k n : Nat} {w : Value} (hw : w = .null ∨ w = .ref 5110) (hk : k < n) (hn31 : n < 2 ^ 31) : Mn l yJ3_checkIndex_8e157 cJ3_checkIndex_8e157 3 (some .int) 0 [.int (nI k), .int (nI n), w] S I J (fun v I' J' => v = some (.int (nI k)) ∧ I' = I ∧ J' = J) := by
  refine Mn.of (by decide) (fun ad => by rcases hw with rfl | rfl <;> simp [lg_sl, vv, Value.category]) (fun X P hP hn C => ?_)
  have e : lvs 3 [.int (nI k), .int (nI n), w] = [some (.int (nI k)), some (.int (nI n)), some w] := by rcases hw with rfl | rfl <;> rfl
  rw [e]
  refine V_iload_n C dJ3_checkIndex_8e157_0 rfl ?_
  refine V_if_lt C 9 dJ3_checkIndex_8e157_1 (by decide) (fun h => absurd h (nI_pos (by omega))) (fun _ => ?_)
  refine V_iload_n C dJ3_checkIndex_8e157_4 rfl ?_
  refine V_iload_n C dJ3_checkIndex_8e157_5 rfl ?_
  refine V_icmp_lt C 16 dJ3_checkIndex_8e157_6 (by decide) (fun _ => ?_) (fun h => absurd (nI_lt hk hn31) h)
  refine V_iload_n C dJ3_checkIndex_8e157_16 rfl ?_
  exact V_iret C (Nat.zero_le _) (Nat.zero_le _) dJ3_checkIndex_8e157_17 (hP _ _ _ ⟨rfl, rfl, rfl⟩)
set_option maxRecDepth 100000 in
theorem c_J0check {k n : Nat} (hk : k < n) (hn31 : n < 2 ^ 31) : Mn l yJ0_checkIndex_df160 cJ0_checkIndex_df160 2 none 1 [.int (nI k), .int (nI n)] S I J (fun v I' J' => v = none ∧ I' = I ∧ J' = J) := by
  refine Mn.of (by decide) (fun ad => by simp [lg_sl, vv, Value.category]) (fun X P hP hn C => ?_)
  refine V_iload_n C dJ0_checkIndex_df160_0 rfl ?_
  refine V_iload_n C dJ0_checkIndex_df160_1 rfl ?_
  have fin : ∀ w : Value, (w = .null ∨ w = .ref 5110) → V X P 0 0 5 (lvs 2 [.int (nI k), .int (nI n)]) [w, .int (nI n), .int (nI k)] S I J := by
    intro w hw
    refine V_callS (F := fun _ => True) (As := [.int (nI k), .int (nI n), w]) (rest := []) C (c_J3check hw hk hn31) ms_J3_checkIndex_8e157 ml_J0_1059 rfl (by decide) (by decide) (Nat.le_of_ble_eq_true rfl) (fun _ _ => trivial) (fun v _ => clo_T v) rfl dJ0_checkIndex_df160_5 ?_
    rintro v S' I' J' ⟨hS9, rfl, hI9, hJ9⟩
    obtain rfl := hS9.symm
    obtain rfl := hI9.symm
    obtain rfl := hJ9.symm
    refine V_pop C dJ0_checkIndex_df160_8 rfl ?_
    exact V_vret C (Nat.zero_le _) (Nat.zero_le _) dJ0_checkIndex_df160_9 (hP _ _ _ ⟨rfl, rfl, rfl⟩)
  rcases (Cx.xt C).2.2.2.2.2.2.2 with hz | hz
  · refine V_gets C (v := .null) hz trivial wJ_1053 dJ0_checkIndex_df160_2 ?_
    exact fin _ (Or.inl rfl)
  · refine V_gets C (v := .ref 5110) hz (by show 5000 ≤ 5110; omega) wJ_1053 dJ0_checkIndex_df160_2 ?_
    exact fin _ (Or.inr rfl)
theorem b255 : ∀ n, n < 128 → ((nI n &&& nI 255).toUInt32 % 65536).toInt32 = nI n ∧ narrow .char (.int (nI n)) = .int (nI n) := by decide +kernel
set_option maxRecDepth 100000 in
theorem c_J1charAt {i k : Nat} (hi : i < 13) (hk : k < sLe.getD i 0) : Mn l yJ1_charAt_3b067 cJ1_charAt_3b067 2 (some .char) 2 [.ref (5020 + i), .int (nI k)] S I J (fun v I' J' => v = some (.int ((sBy.getD i []).getD k 0)) ∧ I' = I ∧ J' = J) := by
  refine Mn.of (by decide) (fun ad => by simp [lg_sl, vv, Value.category]) (fun X P hP hn C => ?_)
  have h50 := (sL_lt i hi).2.1
  obtain ⟨n, hn1, hn2⟩ := sB_at hi hk
  refine V_iload_n C dJ1_charAt_3b067_0 rfl ?_
  refine V_aload_n C dJ1_charAt_3b067_1 rfl ?_
  refine V_lenT C hi dJ1_charAt_3b067_2 ?_
  refine V_callS (F := fun _ => True) (As := [.int (nI k), .int (nI (sLe.getD i 0))]) (rest := []) C (c_J0check hk (by omega)) ms_J0_checkIndex_df160 ml_J1_9 rfl (by decide) (by decide) (Nat.le_of_ble_eq_true rfl) (fun _ _ => trivial) (fun v _ => clo_T v) rfl dJ1_charAt_3b067_3 ?_
  rintro v S' I' J' ⟨hS9, rfl, hI9, hJ9⟩
  obtain rfl := hS9.symm
  obtain rfl := hI9.symm
  obtain rfl := hJ9.symm
  refine V_aload_n C dJ1_charAt_3b067_6 rfl ?_
  refine V_iload_n C dJ1_charAt_3b067_7 rfl ?_
  refine V_baldT C hi k rfl hk (by omega) dJ1_charAt_3b067_8 ?_
  refine V_sipush C (v := nI 255) dJ1_charAt_3b067_9 (by decide +kernel) ?_
  refine V_iand C dJ1_charAt_3b067_12 ?_
  refine V_i2c C dJ1_charAt_3b067_13 ?_
  rw [hn2, (b255 n hn1).1]
  exact V_nret (by decide) C (b255 n hn1).2 (Nat.zero_le _) (Nat.zero_le _) dJ1_charAt_3b067_14 (hP _ _ _ ⟨by rw [hn2], rfl, rfl⟩)
set_option maxRecDepth 100000 in
theorem c_charAt {i k : Nat} (hi : i < 13) (hk : k < sLe.getD i 0) : Mn l yJ0_charAt_5068e cJ0_charAt_5068e 2 (some .char) 3 [.ref (5000 + i), .int (nI k)] S I J (fun v I' J' => v = some (.int ((sBy.getD i []).getD k 0)) ∧ I' = I ∧ J' = J) := by
  refine Mn.of (by decide) (fun ad => by simp [lg_sl, vv, Value.category]) (fun X P hP hn C => ?_)
  obtain ⟨n, hn1, hn2⟩ := sB_at hi hk
  refine V_aload_n C dJ0_charAt_5068e_0 rfl ?_
  refine V_callT (F := fun _ => True) C hi (c_isLatin1 hi) mi_J0_isLatin1_aae02 ml_J0_492 rfl rfl (by decide) (by decide) (Nat.le_of_ble_eq_true rfl) (fun _ _ => trivial) (fun v _ => clo_T v) rfl dJ0_charAt_5068e_1 ?_
  rintro v S' I' J' ⟨hS9, rfl, hI9, hJ9⟩
  obtain rfl := hS9.symm
  obtain rfl := hI9.symm
  obtain rfl := hJ9.symm
  refine V_if_eq C 16 dJ0_charAt_5068e_4 (by decide) (fun h => absurd h (by decide)) (fun _ => ?_)
  refine V_aload_n C dJ0_charAt_5068e_7 rfl ?_
  refine V_getV C rfl hi dJ0_charAt_5068e_8 ?_
  refine V_iload_n C dJ0_charAt_5068e_11 rfl ?_
  refine V_callS (F := fun _ => True) (As := [.ref (5020 + i), .int (nI k)]) (rest := []) C (c_J1charAt hi hk) ms_J1_charAt_3b067 ml_J0_495 rfl (by decide) (by decide) (Nat.le_of_ble_eq_true rfl) (fun _ _ => trivial) (fun v _ => clo_T v) rfl dJ0_charAt_5068e_12 ?_
  rintro v S' I' J' ⟨hS9, rfl, hI9, hJ9⟩
  obtain rfl := hS9.symm
  obtain rfl := hI9.symm
  obtain rfl := hJ9.symm
  exact V_nret (by decide) C (by rw [hn2]; exact (b255 n hn1).2) (Nat.zero_le _) (Nat.zero_le _) dJ0_charAt_5068e_15 (hP _ _ _ ⟨rfl, rfl, rfl⟩)
/-- indexOf on what is left of a text -/
def ixF (c : Int32) : List Int32 → Nat → Int32
  | [], _ => -1
  | b :: l, k => if b = c then nI k else ixF c l (k + 1)
theorem ixF_out {c : Int32} : ∀ (l : List Int32) (k : Nat), (∀ b ∈ l, ¬ b = c) → ixF c l k = -1 := by
  intro l
  induction l with
  | nil => intro k _; rfl
  | cons b l ih =>
    intro k h
    rw [ixF, if_neg (h b List.mem_cons_self)]
    exact ih (k + 1) (fun x hx => h x (List.mem_cons_of_mem _ hx))
theorem b8_n : ∀ n, n < 256 → (nI n).toInt8.toInt32 = if n < 128 then nI n else nI n - nI 256 := by decide +kernel
theorem b8_s : ∀ n, n < 256 → ¬ n < 128 → nI n - nI 256 < 0 := by decide +kernel
theorem b8_eq {m n : Nat} (hm : m < 128) (hn : n < 256) : nI m = (nI n).toInt8.toInt32 ↔ nI m = nI n := by
  rw [b8_n n hn]
  by_cases h : n < 128
  · rw [if_pos h]
  · rw [if_neg h]
    constructor
    · intro e
      have := b8_s n hn h
      rw [← e] at this
      exact absurd this (nI_pos (by omega))
    · intro e
      have := (nI_eq (by omega) (by omega)).mp e
      omega
set_option maxRecDepth 100000 in
theorem c_canEncode (c : Int32) : Mn l yJ1_canEncode_9a6ad cJ1_canEncode_9a6ad 1 (some .boolean) 0 [.int c] S I J (fun v I' J' => v = some (.int (bI (0 ≤ c ∧ c ≤ nI 255))) ∧ I' = I ∧ J' = J) := by
  refine Mn.of (by decide) (fun ad => by simp [lg_sl, vv, Value.category]) (fun X P hP hn C => ?_)
  refine V_iload_n C dJ1_canEncode_9a6ad_0 rfl ?_
  refine V_if_lt C 15 dJ1_canEncode_9a6ad_1 (by decide) (fun h => ?_) (fun h => ?_)
  · refine V_iconst C (v := 0) dJ1_canEncode_9a6ad_15 (by decide +kernel) ?_
    exact V_zret C (Or.inl rfl) (Nat.zero_le _) (Nat.zero_le _) dJ1_canEncode_9a6ad_16 (hP _ _ _ ⟨by rw [bI_f (fun q => absurd h (Int32.not_lt.mpr q.1))], rfl, rfl⟩)
  · refine V_iload_n C dJ1_canEncode_9a6ad_4 rfl ?_
    refine V_sipush C (v := nI 255) dJ1_canEncode_9a6ad_5 (by decide +kernel) ?_
    refine V_icmp_gt C 15 dJ1_canEncode_9a6ad_8 (by decide) (fun h2 => ?_) (fun h2 => ?_)
    · refine V_iconst C (v := 0) dJ1_canEncode_9a6ad_15 (by decide +kernel) ?_
      exact V_zret C (Or.inl rfl) (Nat.zero_le _) (Nat.zero_le _) dJ1_canEncode_9a6ad_16 (hP _ _ _ ⟨by rw [bI_f (fun q => absurd h2 (Int32.not_lt.mpr q.2))], rfl, rfl⟩)
    · refine V_iconst C (v := 1) dJ1_canEncode_9a6ad_11 (by decide +kernel) ?_
      refine V_goto C 16 dJ1_canEncode_9a6ad_12 (by decide) ?_
      exact V_zret C (Or.inr rfl) (Nat.zero_le _) (Nat.zero_le _) dJ1_canEncode_9a6ad_16 (hP _ _ _ ⟨by rw [bI_t ⟨Int32.not_lt.mp h, Int32.not_lt.mp h2⟩], rfl, rfl⟩)
set_option maxRecDepth 100000 in
theorem c_indexOfChar {i n : Nat} (hi : i < 13) (hn2 : n < 256) : Mn l yJ1_indexOfChar_4cfef cJ1_indexOfChar_4cfef 6 (some .int) 0 [.ref (5020 + i), .int (nI n), .int (nI 0), .int (nI (sLe.getD i 0))] S I J (fun v I' J' => v = some (.int (ixF (nI n) (sBy.getD i []) 0)) ∧ I' = I ∧ J' = J) := by
  refine Mn.of (by decide) (fun ad => by simp [lg_sl, vv, Value.category]) (fun X P hP hn C => ?_)
  obtain ⟨-, h50, -, hlen⟩ := sL_lt i hi
  have loop : ∀ (r : List Int32) (k : Nat), (sBy.getD i []).drop k = r → k ≤ sLe.getD i 0 → ixF (nI n) (sBy.getD i []) 0 = ixF (nI n) r k → V X P 0 0 7 [some (.ref (5020 + i)), some (.int (nI n)), some (.int (nI 0)), some (.int (nI (sLe.getD i 0))), some (.int (nI n).toInt8.toInt32), some (.int (nI k))] [] S I J := by
    intro r
    induction r with
    | nil =>
      intro k hk hle he
      have hk2 : (sBy.getD i []).length ≤ k := List.drop_eq_nil_iff.mp hk
      refine V_iload C dJ1_indexOfChar_4cfef_7 rfl ?_
      refine V_iload_n C dJ1_indexOfChar_4cfef_9 rfl ?_
      refine V_icmp_ge C 31 dJ1_indexOfChar_4cfef_10 (by decide) (fun _ => ?_) (fun h => absurd (nI_le (by omega) (by omega)) h)
      refine V_iconst C (v := -1) dJ1_indexOfChar_4cfef_31 (by decide +kernel) ?_
      exact V_iret C (Nat.zero_le _) (Nat.zero_le _) dJ1_indexOfChar_4cfef_32 (hP _ _ _ ⟨by rw [he]; rfl, rfl, rfl⟩)
    | cons b r ih =>
      intro k hk hle he
      have hlt : k < (sBy.getD i []).length := by
        rcases Nat.lt_or_ge k (sBy.getD i []).length with q | q
        · exact q
        · rw [List.drop_eq_nil_iff.mpr q] at hk; cases hk
      have hd := List.drop_eq_getElem_cons hlt
      rw [hk] at hd
      obtain ⟨hb, hr⟩ := List.cons.inj hd
      have hb2 : (sBy.getD i []).getD k 0 = b := by rw [List.getD_eq_getElem?_getD, List.getElem?_eq_getElem hlt, hb]; rfl
      obtain ⟨m, hm1, hm2⟩ := sB_at hi (show k < sLe.getD i 0 by omega)
      rw [hb2] at hm2
      have hq : b = (nI n).toInt8.toInt32 ↔ b = nI n := by rw [hm2]; exact b8_eq hm1 hn2
      refine V_iload C dJ1_indexOfChar_4cfef_7 rfl ?_
      refine V_iload_n C dJ1_indexOfChar_4cfef_9 rfl ?_
      refine V_icmp_ge C 31 dJ1_indexOfChar_4cfef_10 (by decide) (fun h => absurd h (nI_ge (by omega) (by omega))) (fun _ => ?_)
      refine V_aload_n C dJ1_indexOfChar_4cfef_13 rfl ?_
      refine V_iload C dJ1_indexOfChar_4cfef_14 rfl ?_
      refine V_baldT C hi k rfl (by omega) (by omega) dJ1_indexOfChar_4cfef_16 ?_
      rw [hb2]
      refine V_iload C dJ1_indexOfChar_4cfef_17 rfl ?_
      rw [ixF] at he
      refine V_icmp_ne C 25 dJ1_indexOfChar_4cfef_19 (by decide) (fun h => ?_) (fun h => ?_)
      · refine V_iincU C dJ1_indexOfChar_4cfef_25 rfl (hn _ (by decide)) ?_
        refine V_goto C 7 dJ1_indexOfChar_4cfef_28 (by decide) ?_
        rw [if_neg (fun q => h (hq.mpr q))] at he
        exact ih (k + 1) hr.symm (by omega) he
      · refine V_iload C dJ1_indexOfChar_4cfef_22 rfl ?_
        rw [if_pos (hq.mp h)] at he
        exact V_iret C (Nat.zero_le _) (Nat.zero_le _) dJ1_indexOfChar_4cfef_24 (hP _ _ _ ⟨by rw [he], rfl, rfl⟩)
  refine V_iload_n C dJ1_indexOfChar_4cfef_0 rfl ?_
  refine V_i2b C dJ1_indexOfChar_4cfef_1 ?_
  refine V_istore C dJ1_indexOfChar_4cfef_2 (hn _ (by decide)) ?_
  refine V_iload_n C dJ1_indexOfChar_4cfef_4 rfl ?_
  refine V_istore C dJ1_indexOfChar_4cfef_5 (hn _ (by decide)) ?_
  exact loop _ 0 rfl (Nat.zero_le _) rfl
set_option maxRecDepth 100000 in
theorem c_J1indexOf {i : Nat} (hi : i < 13) (c : Int32) : Mn l yJ1_indexOf_4cfef cJ1_indexOf_4cfef 4 (some .int) 1 [.ref (5020 + i), .int c, .int (nI 0), .int (nI (sLe.getD i 0))] S I J (fun v I' J' => v = some (.int (ixF c (sBy.getD i []) 0)) ∧ I' = I ∧ J' = J) := by
  refine Mn.of (by decide) (fun ad => by simp [lg_sl, vv, Value.category]) (fun X P hP hn C => ?_)
  obtain ⟨h0, h50, -, hlen⟩ := sL_lt i hi
  refine V_iload_n C dJ1_indexOf_4cfef_0 rfl ?_
  refine V_callS (F := fun _ => True) (As := [.int c]) (rest := []) C (c_canEncode c) ms_J1_canEncode_9a6ad ml_J1_88 rfl (by decide) (by decide) (Nat.le_of_ble_eq_true rfl) (fun _ _ => trivial) (fun v _ => clo_T v) rfl dJ1_indexOf_4cfef_1 ?_
  rintro v S' I' J' ⟨hS9, rfl, hI9, hJ9⟩
  obtain rfl := hS9.symm
  obtain rfl := hI9.symm
  obtain rfl := hJ9.symm
  refine V_if_ne C 9 dJ1_indexOf_4cfef_4 (by decide) (fun h => ?_) (fun h => ?_)
  · have hc : 0 ≤ c ∧ c ≤ nI 255 := Decidable.not_not.mp (fun q => h (bI_0.mpr q))
    obtain ⟨n, hn31, rfl⟩ := nI_of (Int32.not_lt.mpr hc.1)
    have hn2 : n < 256 := by
      rcases Nat.lt_or_ge n 256 with q | q
      · exact q
      · exact absurd hc.2 (Int32.not_le.mpr (nI_lt (by omega) hn31))
    refine V_iload_n C dJ1_indexOf_4cfef_9 rfl ?_
    refine V_iconst C (v := nI 0) dJ1_indexOf_4cfef_10 (by decide +kernel) ?_
    refine V_max C ml_J1_92 (by decide) (by decide) (Nat.zero_le _) (Nat.zero_le _) dJ1_indexOf_4cfef_11 ?_
    rw [ite_self]
    refine V_istore_n C dJ1_indexOf_4cfef_14 (hn _ (by decide)) ?_
    refine V_iload_n C dJ1_indexOf_4cfef_15 rfl ?_
    refine V_aload_n C dJ1_indexOf_4cfef_16 rfl ?_
    refine V_lenT C hi dJ1_indexOf_4cfef_17 ?_
    refine V_min C ml_J1_38 (by decide) (by decide) (Nat.zero_le _) (Nat.zero_le _) dJ1_indexOf_4cfef_18 ?_
    rw [ite_self]
    refine V_istore_n C dJ1_indexOf_4cfef_21 (hn _ (by decide)) ?_
    refine V_iload_n C dJ1_indexOf_4cfef_22 rfl ?_
    refine V_iload_n C dJ1_indexOf_4cfef_23 rfl ?_
    refine V_icmp_lt C 29 dJ1_indexOf_4cfef_24 (by decide) (fun _ => ?_) (fun h => absurd (nI_lt h0 (by omega)) h)
    refine V_aload_n C dJ1_indexOf_4cfef_29 rfl ?_
    refine V_iload_n C dJ1_indexOf_4cfef_30 rfl ?_
    refine V_iload_n C dJ1_indexOf_4cfef_31 rfl ?_
    refine V_iload_n C dJ1_indexOf_4cfef_32 rfl ?_
    refine V_callS (F := fun _ => True) (As := [.ref (5020 + i), .int (nI n), .int (nI 0), .int (nI (sLe.getD i 0))]) (rest := []) C (c_indexOfChar hi hn2) ms_J1_indexOfChar_4cfef ml_J1_95 rfl (by decide) (by decide) (Nat.le_of_ble_eq_true rfl) (fun _ _ => trivial) (fun v _ => clo_T v) rfl dJ1_indexOf_4cfef_33 ?_
    rintro v S' I' J' ⟨hS9, rfl, hI9, hJ9⟩
    obtain rfl := hS9.symm
    obtain rfl := hI9.symm
    obtain rfl := hJ9.symm
    exact V_iret C (Nat.zero_le _) (Nat.zero_le _) dJ1_indexOf_4cfef_36 (hP _ _ _ ⟨rfl, rfl, rfl⟩)
  · have hc : ¬ (0 ≤ c ∧ c ≤ nI 255) := bI_0.mp h
    refine V_iconst C (v := -1) dJ1_indexOf_4cfef_7 (by decide +kernel) ?_
    refine V_iret C (Nat.zero_le _) (Nat.zero_le _) dJ1_indexOf_4cfef_8 (hP _ _ _ ⟨?_, rfl, rfl⟩)
    rw [ixF_out _ _ (fun b hb e => ?_)]
    obtain ⟨m, hm, e2⟩ := sB_lt i hi b hb
    rw [← e, e2] at hc
    exact hc ⟨nI_le (a := 0) (by omega) (by omega), nI_le (by omega) (by omega)⟩
set_option maxRecDepth 100000 in
theorem c_indexOf2 {i : Nat} (hi : i < 13) (c : Int32) : Mn l yJ0_indexOf_7cf53 cJ0_indexOf_7cf53 3 (some .int) 2 [.ref (5000 + i), .int c, .int (nI 0)] S I J (fun v I' J' => v = some (.int (ixF c (sBy.getD i []) 0)) ∧ I' = I ∧ J' = J) := by
  refine Mn.of (by decide) (fun ad => by simp [lg_sl, vv, Value.category]) (fun X P hP hn C => ?_)
  refine V_aload_n C dJ0_indexOf_7cf53_0 rfl ?_
  refine V_callT (F := fun _ => True) C hi (c_isLatin1 hi) mi_J0_isLatin1_aae02 ml_J0_492 rfl rfl (by decide) (by decide) (Nat.le_of_ble_eq_true rfl) (fun _ _ => trivial) (fun v _ => clo_T v) rfl dJ0_indexOf_7cf53_1 ?_
  rintro v S' I' J' ⟨hS9, rfl, hI9, hJ9⟩
  obtain rfl := hS9.symm
  obtain rfl := hI9.symm
  obtain rfl := hJ9.symm
  refine V_if_eq C 23 dJ0_indexOf_7cf53_4 (by decide) (fun h => absurd h (by decide)) (fun _ => ?_)
  refine V_aload_n C dJ0_indexOf_7cf53_7 rfl ?_
  refine V_getV C rfl hi dJ0_indexOf_7cf53_8 ?_
  refine V_iload_n C dJ0_indexOf_7cf53_11 rfl ?_
  refine V_iload_n C dJ0_indexOf_7cf53_12 rfl ?_
  refine V_aload_n C dJ0_indexOf_7cf53_13 rfl ?_
  refine V_callT (F := fun _ => True) C hi (c_length hi) mi_J0_length_8abf5 ml_J0_505 rfl rfl (by decide) (by decide) (Nat.le_of_ble_eq_true rfl) (fun _ _ => trivial) (fun v _ => clo_T v) rfl dJ0_indexOf_7cf53_14 ?_
  rintro v S' I' J' ⟨hS9, rfl, hI9, hJ9⟩
  obtain rfl := hS9.symm
  obtain rfl := hI9.symm
  obtain rfl := hJ9.symm
  refine V_callS (F := fun _ => True) (As := [.ref (5020 + i), .int c, .int (nI 0), .int (nI (sLe.getD i 0))]) (rest := []) C (c_J1indexOf hi c) ms_J1_indexOf_4cfef ml_J0_637 rfl (by decide) (by decide) (Nat.le_of_ble_eq_true rfl) (fun _ _ => trivial) (fun v _ => clo_T v) rfl dJ0_indexOf_7cf53_17 ?_
  rintro v S' I' J' ⟨hS9, rfl, hI9, hJ9⟩
  obtain rfl := hS9.symm
  obtain rfl := hI9.symm
  obtain rfl := hJ9.symm
  refine V_goto C 36 dJ0_indexOf_7cf53_20 (by decide) ?_
  exact V_iret C (Nat.zero_le _) (Nat.zero_le _) dJ0_indexOf_7cf53_36 (hP _ _ _ ⟨rfl, rfl, rfl⟩)
set_option maxRecDepth 100000 in
theorem c_indexOf {i : Nat} (hi : i < 13) (c : Int32) : Mn l yJ0_indexOf_0f7a4 cJ0_indexOf_0f7a4 2 (some .int) 3 [.ref (5000 + i), .int c] S I J (fun v I' J' => v = some (.int (ixF c (sBy.getD i []) 0)) ∧ I' = I ∧ J' = J) := by
  refine Mn.of (by decide) (fun ad => by simp [lg_sl, vv, Value.category]) (fun X P hP hn C => ?_)
  refine V_aload_n C dJ0_indexOf_0f7a4_0 rfl ?_
  refine V_iload_n C dJ0_indexOf_0f7a4_1 rfl ?_
  refine V_iconst C (v := nI 0) dJ0_indexOf_0f7a4_2 (by decide +kernel) ?_
  refine V_callT (F := fun _ => True) (As := [.int c, .int (nI 0)]) (rest := []) C hi (c_indexOf2 hi c) mi_J0_indexOf_7cf53 ml_J0_633 rfl rfl (by decide) (by decide) (Nat.le_of_ble_eq_true rfl) (fun _ _ => trivial) (fun v _ => clo_T v) rfl dJ0_indexOf_0f7a4_3 ?_
  rintro v S' I' J' ⟨hS9, rfl, hI9, hJ9⟩
  obtain rfl := hS9.symm
  obtain rfl := hI9.symm
  obtain rfl := hJ9.symm
  exact V_iret C (Nat.zero_le _) (Nat.zero_le _) dJ0_indexOf_0f7a4_6 (hP _ _ _ ⟨rfl, rfl, rfl⟩)
end VT
