/-! THE CLAIM OUT OF ONE WALK OF THE LAW'S BODY. Your part is whole_start (and what it stands on); all else here is the same for every law, but numbers. -/
def R_law : String := "RingDiskLaw"
def lw_P (b : Addr) (xs : List Int32) (args : Array Value) (s : State) : Prop := args = #[.ref b] ∧ s.IntsAt b xs ∧ xs.length ≤ 3584 ∧ (Jvm.Cond.and given_1 narrow_1).before args s = true
def lw_Q (_ : Array Value) (s : State) (o : Outcome) (t : State) : Prop := o = .returned (some (.int 1)) ∧ Framed s o t [] 601024 7293034
def lw_Z (below : List Frame) (a : Array Value) (s : State) : State → Prop := fun t => ∃ o, t.status = .running ∧ Ended t below o ∧ lw_Q a s o t
/-- the law's own end, with 1 on the stack, nothing written that was there before, its room as the claim has it -/
theorem lw_ret {p : Program} {l : Launch} {e : Env} {s : State} {m : MethodId} {below : List Frame} {meth : Method} {c : Code} {b : Nat} (hx : p.tables.exec = Jvm.exec) (hb : c.code = code) (hr : meth.sig.returnType = ret) (hlocks : meth.locks = false) {pc : Nat} {H : Heap} {ls : Array Slot} (hdg : decode code pc = .ok (.ireturn, 1)) : W p l e room_1 s m #[Value.ref b] below meth c H [] 601024 7293034 (lw_Z below #[Value.ref b] s) (F0 m pc ls [.int 1]) := by
  intro T hT X
  obtain ⟨fs, hret, hrun, hended, hW, hframe⟩ := X.leave (v := some (.int 1)) (hlocks := hlocks) (fun h => by rw [hr] at h; cases h)
  have hmeth' : T.vm.method? m = some meth := X.method'
  refine ⟨T.setFrames fs, ?_, .returned (some (.int 1)), hrun, hended, rfl, ⟨_, rfl⟩, hW, hframe⟩
  jvm_step X.here [X.here.top, hx, hb, hdg, hmeth', hr, ret, narrow_b1]
  (try refine ⟨rfl, ?_⟩); (try refine ⟨rfl, ?_⟩)
  first | (intro acts; rw [hret _ acts rfl rfl rfl]) | rw [hret _ _ rfl rfl rfl]
  exact Steps.refl _
/-- what holds at the law's entry: the machine, the code, the tables' words (any of lw_tbl by 'hts w (by decide +kernel)'), the script of L ints xs at the cell b, what the Statement gives of the start (any of its parts by flat_of_before) -/
def lw_At (p : Program) (s : State) (m : MethodId) (meth : Method) (c : Code) (b L : Nat) (xs : Nat → Int32) : Prop :=
  p.tables.exec = Jvm.exec ∧ c.code = code ∧ meth.sig.returnType = ret ∧ c.maxLocals = 7 ∧ s.vm.findClass R_law = some m.cls ∧ (∀ w ∈ lw_tbl, w.before #[Value.ref b] s = true) ∧ va_X b L xs s s.heap ∧ b < s.heap.size ∧ meth.locks = false ∧ (Jvm.Cond.and given_1 narrow_1).before #[Value.ref b] s = true
theorem wl_k : Cond.classLink RL 8 (Rc 6) ∈ gtb ∧ Cond.instantiable (Rc 6) (nf 6) ∈ gtb ∧ Cond.initialized (Rc 6) ∈ gtb ∧ Cond.classLink RL 16 (Rc 7) ∈ gtb ∧ Cond.instantiable (Rc 7) (nf 7) ∈ gtb ∧ Cond.initialized (Rc 7) ∈ gtb ∧ Cond.arrayClass .long ∈ gtb := by decide +kernel
abbrev S0E : HS := (fun _ => 0, fun _ => 0, fun _ _ => none)
set_option maxHeartbeats 4000000 in
set_option maxRecDepth 100000 in
/-- from the entry, for every script of at most 3584 ints, the law comes to its end with true -/
theorem whole_start {p : Program} {e : Env} {s : State} {m : MethodId} {below : List Frame} {meth : Method} {c : Code} (l : Launch) (htr : l.stackTraces = false) (hnm : meth.name = yL_law.name) {b L : Nat} {xs : Nat → Int32} (hL : L ≤ 3584) (C0 : lw_At p s m meth c b L xs) : W p l e room_1 s m #[Value.ref b] below meth c s.heap [] 0 0 (lw_Z below #[Value.ref b] s) (entryFrame m ([Value.ref b] : List Value).toArray 7) := by
  obtain ⟨hx, hb, hr, hml, hown, hts, hX, hbl, hlocks, hgv⟩ := C0
  obtain ⟨D, cy, hK⟩ := st_K hts
  obtain ⟨ad0, e52, hXt⟩ := st_X hts hgv b
  have hZ := st_Z hts hgv
  obtain ⟨X, hXX⟩ : ∃ X : VX, X = ((p, l, e, room_1, s, m, #[Value.ref b], below, meth, c), D, cy, (fun q => s.heap.size ≤ q), ad0, (fun k => 5000 ≤ k), 601024, 7293034, 7, some (lw_Z below #[Value.ref b] s)) := ⟨_, rfl⟩
  · have C : Cx X cL_law yL_law (some .short) room_1 := by
      rw [hXX]
      exact ⟨hx, hb, hml, hown, gtb_of hts, Or.inr rfl, hlocks, hK, fun _ h => h, hXt, rfl, hnm, rfl, rfl, fun _ h => h⟩
    have hn : ∀ k, k < 7 → k < xn X := by rw [hXX]; exact fun k hk => hk
    have hxF : ∀ k, k < 5000 → ¬ xF X k := by rw [hXX]; exact fun k hk q => absurd q (Nat.not_le.mpr hk)
    have hxF2 : ∀ k, xF X k → 5000 ≤ k := by rw [hXX]; exact fun k hk => hk
    have hend : ∀ (PH : Heap → Prop) (nc ns : Nat) (lv : List (Option Value)), nc ≤ 601024 → ns ≤ 7293034 → VL X PH nc ns 1144 lv [] := by
      intro PH nc ns lv h1 h2
      refine L_iconst C (v := 1) dL_law_1144 (by decide +kernel) ?_
      intro H locs ls _ h3 h4
      rw [hXX] at h3 ⊢
      show W p l e room_1 s m #[Value.ref b] below meth c H locs nc ns (lw_Z below #[Value.ref b] s) (F0 m 1145 ls [.int 1])
      refine va_forget (fun q hq => h3.2.2 q hq) ?_
      refine W.widen h1 h2 ?_
      exact lw_ret hx hb hr hlocks dL_law_1145
    have at23 : ∀ (S1 S2 : HS) (I1 I2 : HI) (J1 J2 : HJ), ClsR z0C S1 I1 J1 → (∀ a, (a < 1100 ∨ 5000 ≤ a) → S1.1 a = (nwS S0E 1100 7 0).1 a) → Ob S2 7 1000 → RefR z0C I2 J2 → (∀ a, (a < 1000 ∨ 1053 ≤ a) → S2.1 a = (nwS S1 1000 8 0).1 a ∧ S2.2.1 a = (nwS S1 1000 8 0).2.1 a ∧ S2.2.2 a = (nwS S1 1000 8 0).2.2 a ∧ I2 a = nwI I1 1000 a ∧ J2 a = nwJ J1 1000 a) → V X (fun _ _ _ _ => False) 204 20500 23 [some (.ref 5200), some (.ref 1100), some (.ref 1000), some (.ref 1060), some (.int (nI 0)), none, none] [] (nwS S2 1060 11 1) (nwI I2 1060) (nwJ J2 1060) := by
      intro S1 S2 I1 I2 J1 J2 hc f1 hob hrf f2 ad H locs ls h1 h2 h3 h4
      have h5 : ∀ k, 5000 ≤ k → ad k = xad X k := fun k hk => h2 k (by rw [hXX]; exact hk)
      have hb5 : ad 5200 = b := by rw [h5 5200 (by decide), hXX]; exact e52
      have hPW : PW X (ad 1100) (ad 1000) (ad 1060) z0C z0C (fun _ => True) (nwJ J2 1060 1060) H := by
        refine split_3 h1 h5 hc hob hrf (fun k hk => ?_) (fun k hk => ?_) (fun k hk => ?_) (fun k g1 g2 => ?_) ⟨nwS_1, nwS_l⟩
        · obtain ⟨a1, a2, a3, a4, a5⟩ := f2 k (by omega)
          exact ⟨(va_up_ne _ _ (by omega)).trans (a1.trans (va_up_ne _ _ (by omega))), (va_up_ne _ _ (by omega)).trans (a2.trans (va_up_ne _ _ (by omega))), (va_up_ne _ _ (by omega)).trans (a3.trans (va_up_ne _ _ (by omega))), (va_up_ne _ _ (by omega)).trans (a4.trans (va_up_ne _ _ (by omega))), (va_up_ne _ _ (by omega)).trans (a5.trans (va_up_ne _ _ (by omega)))⟩
        · exact (f1 k (by omega)).trans (va_up_ne _ _ (by omega))
        · exact ⟨va_up_ne _ _ (by omega), va_up_ne _ _ (by omega), va_up_ne _ _ (by omega), va_up_ne _ _ (by omega), va_up_ne _ _ (by omega)⟩
        · exact (va_up_ne _ _ (by omega)).trans ((f2 k (by omega)).1.trans ((va_up_ne _ _ (by omega)).trans ((f1 k (by omega)).trans (va_up_ne _ _ (by omega)))))
      have go := law_loop (xa := ad 1100) (ma := ad 1000) (oa := ad 1060) C (b := b) (L := L) (xs' := xs) (by rw [hXX]; exact hX) (by rw [hXX]; exact hbl) (by rw [hXX]; exact Nat.not_le.mpr hbl) hL (by rw [hXX]; exact htr) (by rw [hXX]; exact hZ) hn hend L 0 z0C (nwJ J2 1060 1060) 204 20500 none none (by omega) (by omega) (by decide) (by decide) ok_z0
      refine go H locs ls hPW h3 ⟨h4.1, h4.2.1, fun i v hi => ?_⟩
      have g := h4.2.2
      match i, hi with
      | 0, hi => cases hi; have := g 0 (.ref 5200) rfl; rw [show vv ad (.ref 5200) = .ref b from by show Value.ref (ad 5200) = _; rw [hb5]] at this; exact this
      | 1, hi => cases hi; exact g 1 (.ref 1100) rfl
      | 2, hi => cases hi; exact g 2 (.ref 1000) rfl
      | 3, hi => cases hi; exact g 3 (.ref 1060) rfl
      | 4, hi => cases hi; exact g 4 (.int (nI 0)) rfl
      | 5, hi => cases hi
      | 6, hi => cases hi
      | i + 7, hi => simp at hi
    have wf0 : wfS S0E := fun b x k h => absurd rfl h
    have clv : ∀ {k : Nat} {lv : List (Option Value)}, (∀ q ∈ lv, ∀ c, q = some (.ref c) → c ≠ k) → ∀ v, some v ∈ lv → clo (fun c => c ≠ k) v := by
      intro k lv h v hv
      cases v <;> first | trivial | exact h _ hv _ rfl
    have body : V X (fun _ _ _ _ => False) 0 0 0 [some (.ref 5200), none, none, none, none, none, none] [] S0E (fun _ _ => 0) (fun _ _ => 0) := by
      refine V_new C (ci := 6) 1100 (by decide) wl_k.1 wl_k.2.1 wl_k.2.2.1 rfl wf0 (hxF _ (by decide)) (clv (by intro q hq c hc; simp only [List.mem_cons, List.not_mem_nil, or_false] at hq; rcases hq with rfl | rfl | rfl | rfl | rfl | rfl | rfl <;> cases hc <;> decide)) (fun v hv => by cases hv) (by decide) (by decide) dL_law_0 ?_
      refine V_dup C dL_law_3 rfl ?_
      refine V_callI (F := fun c => ¬ (1100 < c ∧ c < 5000)) C (c_ringInit (S := nwS S0E 1100 7 0) nwS_1 (fun c q1 q2 => va_up_ne _ _ (by omega)) (wf0.nw (by decide)) (fun x => by unfold nwI; rw [va_up_self])) mc_X6_init ml_L_15 rfl (by decide) (by decide) (Nat.le_of_ble_eq_true rfl) (fun k hk q => absurd (hxF2 k hk) (by omega)) (fun v hv => by
        rcases hv with hv | hv
        · simp only [List.mem_cons, List.not_mem_nil, or_false] at hv
          rcases hv with hv | hv | hv | hv | hv | hv | hv <;> cases hv
          show ¬ (1100 < 5200 ∧ 5200 < 5000)
          decide
        · rw [List.mem_singleton.mp hv]
          show ¬ (1100 < 1100 ∧ 1100 < 5000)
          decide) rfl dL_law_4 ?_
      rintro v S1 I1 J1 ⟨rfl, hcl, hfr⟩
      have hw1 : wfS S1 := by obtain ⟨la, lb, hS, -⟩ := id hcl; exact hS.2.2.2.2.2.2.2.2.2.2.2
      refine V_astore_n C dL_law_7 (hn _ (by decide)) ?_
      refine V_new C (ci := 7) 1000 (by decide) wl_k.2.2.2.1 wl_k.2.2.2.2.1 wl_k.2.2.2.2.2.1 ((hfr 1000 (by omega)).1.trans (nwS_n (by decide))) hw1 (hxF _ (by decide)) (fun v hv => by
        have hv : some v ∈ [some (Value.ref 5200), some (Value.ref 1100), none, none, none, none, none] := hv
        simp only [List.mem_cons, List.not_mem_nil, or_false] at hv
        rcases hv with hv | hv | hv | hv | hv | hv | hv <;> cases hv <;> (show _ ≠ _) <;> decide) (fun v hv => by cases hv) (by decide) (by decide) dL_law_8 ?_
      refine V_dup C dL_law_11 rfl ?_
      refine V_callI (F := fun c => ¬ (1000 < c ∧ c < 1053)) C (m_init (S := nwS S1 1000 8 0) nwS_1 (fun c q1 q2 => (va_up_ne _ _ (by omega)).trans ((hfr c (by omega)).1.trans (va_up_ne _ _ (by omega)))) (hw1.nw (by decide)) (fun x => by unfold nwI; rw [va_up_self])) mc_X7_init ml_L_18 rfl (by decide) (by decide) (Nat.le_of_ble_eq_true rfl) (fun k hk q => absurd (hxF2 k hk) (by omega)) (fun v hv => by
        rcases hv with hv | hv
        · have hv : some v ∈ [some (Value.ref 5200), some (Value.ref 1100), none, none, none, none, none] := hv
          simp only [List.mem_cons, List.not_mem_nil, or_false] at hv
          rcases hv with hv | hv | hv | hv | hv | hv | hv <;> cases hv
          · show ¬ (1000 < 5200 ∧ 5200 < 1053)
            decide
          · show ¬ (1000 < 1100 ∧ 1100 < 1053)
            decide
        · rw [List.mem_singleton.mp hv]
          show ¬ (1000 < 1000 ∧ 1000 < 1053)
          decide) rfl dL_law_12 ?_
      rintro v S2 I2 J2 ⟨rfl, hob, hw2, hrf, hfr2⟩
      refine V_astore_n C dL_law_15 (hn _ (by decide)) ?_
      refine V_iconst C (v := nI 1) dL_law_16 (by decide +kernel) ?_
      refine V_newL C (n := 1) 1060 wl_k.2.2.2.2.2.2 rfl (by decide) ((hfr2 1060 (by omega)).1.trans ((nwS_n (by decide)).trans ((hfr 1060 (by omega)).1.trans (nwS_n (by decide))))) hw2 (hxF _ (by decide)) (fun v hv => by
        have hv : some v ∈ [some (Value.ref 5200), some (Value.ref 1100), some (Value.ref 1000), none, none, none, none] := hv
        simp only [List.mem_cons, List.not_mem_nil, or_false] at hv
        rcases hv with hv | hv | hv | hv | hv | hv | hv <;> cases hv <;> (show _ ≠ _) <;> decide) (fun v hv => by cases hv) (by decide) (by decide) dL_law_17 ?_
      refine V_astore_n C dL_law_19 (hn _ (by decide)) ?_
      refine V_iconst C (v := nI 0) dL_law_20 (by decide +kernel) ?_
      refine V_istore C dL_law_21 (hn _ (by decide)) ?_
      refine V_widen (a := 204) (b := 20500) (by decide) (by decide) ?_
      exact at23 S1 S2 I1 I2 J1 J2 hcl (fun a ha => (hfr a ha).1) hob hrf hfr2
    have hl0 := lv_entry ([.ref b] : List Value) (n := 7) (Nat.le_of_ble_eq_true rfl)
    rw [lg_entry_eq]
    have fin := body ad0 s.heap [] _ (by rw [hXX]; exact ⟨[], fun i j a h => by simp at h, fun k => ⟨fun h => (by cases h), fun h => absurd rfl h⟩, vaP_m.mpr (fun q h => by simp [wsl] at h), vaD_m.mpr ⟨by simp [wsl], fun q h => by simp [wsl] at h⟩⟩) (by rw [hXX]; exact fun _ _ => rfl) (by rw [hXX]; exact va_S.rf) (by rw [hXX]; exact ⟨hl0.1, hl0.2.1, fun i v hi => by
      match i, hi with
      | 0, hi => cases hi; have := hl0.2.2 (0, .ref b) (by simp [lv_args]); rw [show vv ad0 (.ref 5200) = .ref b from by show Value.ref (ad0 5200) = _; rw [e52]]; exact this
      | 1, hi => cases hi
      | 2, hi => cases hi
      | 3, hi => cases hi
      | 4, hi => cases hi
      | 5, hi => cases hi
      | 6, hi => cases hi
      | i + 7, hi => simp at hi⟩)
    rw [hXX] at fin
    exact fin
set_option maxHeartbeats 4000000 in
theorem lw_walk (l : Launch) (htr : l.stackTraces = false) (b : Addr) (xs : List Int32) : MetFree l x (headSpec (Jvm.Cond.code x code maxLocals ret :: tables_1) room_1) (lw_P b xs) (fun _ _ _ _ _ => True) lw_Q := by
  refine MetFree.of_bodyS (code := code) (maxLocals := maxLocals) (ret := ret) (by decide) ?_ ?_
  · intro args s m h hn
    obtain ⟨meth, c, h1, h2, h3, h4, h5, h6, -, -⟩ := Cond.code_spec hn (atoms_spec (ws := Jvm.Cond.code x code maxLocals ret :: tables_1) h _ List.mem_cons_self)
    exact ⟨meth, c, h1, h2, h3, h4, h5, h6⟩
  · intro p e s m args below meth c s₁ B hml0 hP _
    obtain ⟨rfl, hx, hbd, hgv⟩ := hP
    obtain ⟨scr, harrAt, hlist, hof, hsmall⟩ := hx
    obtain ⟨hcb, hkn, -, -⟩ := State.arrayAt?_spec harrAt
    have hown : s.vm.findClass R_law = some m.cls := findClass_of_methodNamed B.named
    have hts0 : ∀ c ∈ (Jvm.Cond.code x code maxLocals ret :: tables_1), c.before #[Value.ref b] s = true := atoms_spec (ws := Jvm.Cond.code x code maxLocals ret :: tables_1) B.pre
    have hts : ∀ w ∈ lw_tbl, w.before #[Value.ref b] s = true := k2_hts_sels lw_privs (fun w hw => hts0 w (List.mem_cons_of_mem _ hw)) lw_privs_ok
    have hml : c.maxLocals = 7 := B.maxLocals_eq (hts0 _ List.mem_cons_self)
    have X₀ : Stand p l e room_1 s m #[Value.ref b] below meth c s₁ [] 0 0 := Stand.of_body B
    have hh0 : s₁.heap = s.heap := by rw [B.state]; rfl
    have hsz : scr.slots.size = xs.length := by rw [← Array.length_toList, hlist, List.length_map]
    have hval : ∀ j : Nat, j < xs.length → scr.slots[j]? = some (.int (xs.getD j 0)) := fun j hj => by
      rw [← Array.getElem?_toList, hlist]
      simp [hj]
    have hbl : b < s.heap.size := (Array.getElem?_eq_some_iff.mp hcb).1
    have hX : va_X b xs.length (fun j => xs.getD j 0) s s.heap := ⟨scr, hcb, hof, hkn, hsz, hval⟩
    have K : W p l e room_1 s m #[Value.ref b] below meth c s₁.heap [] 0 0 (lw_Z below #[Value.ref b] s) (entryFrame m ([Value.ref b] : List Value).toArray 7) := by
      rw [hh0]
      exact whole_start l htr (name_of_methodNamed B.named B.method).1 hbd ⟨B.exec, B.bytes, B.returns, hml, hown, hts, hX, hbl, B.notSynchronized, hgv⟩
    obtain ⟨t, a1, o, b1, b2, b3⟩ := K s₁ rfl X₀
    exact ⟨t, o, a1, b1, b2, b3⟩
theorem lw_pre_spec {args : Array Value} {s : State} (h : (Jvm.Cond.and given_1 narrow_1).before args s = true) (hr : rest_1_c.before args s = true) : ∃ (b : Addr) (xs : List Int32), lw_P b xs args s := by
  have hs := flat_of_before _ h
  have hq := flat_of_before _ hr
  have hc : (Cond.count 1).before args s = true := hs _ (by decide +kernel)
  have harr : (Cond.arrayOf (.arg 0) .int).before args s = true := hs _ (by decide +kernel)
  have hle : (Cond.le (.length (.arg 0)) (.int 3584)).before args s = true := hs _ (by decide +kernel)
  have hlen : (Cond.isInt (.length (.arg 0))).before args s = true := hq _ (by decide +kernel)
  have hall : (Cond.all (.arg 0) (.isInt (.elem (.arg 0) (.index 0)))).before args s = true := hq _ (by decide +kernel)
  obtain ⟨b, xs, hb, hx⟩ := State.ints_of_pre rfl harr hlen hall
  have hsm : xs.length < 2 ^ 31 := hx.choose_spec.2.2.2
  have hev : (Term.length (.arg 0)).eval args s none [] s = some (.int xs.length.toInt32) := hx.length_eval hb
  have hv := Cond.le_ints hev (show (Term.int 3584).eval args s none [] s = some (.int 3584) from rfl)
  have hd : xs.length.toInt32 ≤ 3584 := by
    simpa [Cond.before, Cond.holds, hv] using hle
  have hN : xs.length ≤ 3584 := (Int32.ofNat_le_ofNat hsm (by decide)).mp (show Int32.ofNat xs.length ≤ Int32.ofNat 3584 from hd)
  exact ⟨b, xs, Cond.one_arg hc (show args[0]? = some (.ref b) from hb), hx, hN, h⟩
theorem lw_comes (l : Launch) (htr : l.stackTraces = false) : Comes l x (Jvm.Cond.code x code maxLocals ret :: tables_1) room_1 (fun tb e args s => Calls_1 tb e args s ∧ rest_1 tb e args s ∧ Pre_1 tb e args s)
    (fun _ _ args s o t => lw_Q args s o t) := by
  intro p e ha hc hk s m args below hf hfit hheap happ hpre
  obtain ⟨b, xs, hP⟩ := lw_pre_spec hpre.2.2 hpre.2.1
  obtain ⟨k, o, h1, h2, h3, hQ⟩ := lw_walk l htr b xs p e ha hc hk s m args below hf ((Spec.applies_iff_loose hf).mp happ).1 hP trivial
  exact ⟨k, o, h1, h2, h3, hQ⟩
theorem lw_frame {s t : State} {o : Outcome} {args : Array Value} (h : Framed s o t [] 601024 7293034) :
    Framed s o t (fieldLocs frame_1_writes args s ++ arrayLocs frame_1_arrays args s ++ staticLocs frame_1_statics s) 601024 7293034 := h
theorem lw_limb (L : Cond) (hL : ∀ (args : Array Value) (s t : State), L.after args s (.returned (some (.int 1))) t = true) :
    ArmFor flags0 classFile x code maxLocals ret World_1 tables_1 room_1 Calls_1 rest_1 Pre_1
      (fun tb e a s o t => postC L tb e a s o t ∧ Framed s o t (fieldLocs frame_1_writes a s ++ arrayLocs frame_1_arrays a s ++ staticLocs frame_1_statics s) 601024 7293034) := by
  intro l hfl _ _ p e ha hc hk s m args below hf hfit hheap happ hpre
  obtain ⟨k, o, h1, h2, h3, rfl, hF⟩ := lw_comes l (by unfold Launch.stackTraces; rw [hfl]; decide) p e ha hc hk s m args below hf hfit hheap happ hpre
  exact ⟨k, _, h1, h2, h3, hL args s _, lw_frame hF⟩
theorem i_vc : Claimed_1_1 ∧ Claimed_1_2 := ⟨lw_limb limb_1_1 (fun args s t => by simp [limb_1_1, Cond.after, Cond.holds, Cond.value]), lw_limb limb_1_2 (fun args s t => Cond.after_iff.mpr (by
  first | (rw [show limb_1_2 = Cond.eq .result (.int 1) from rfl, Cond.eq_ints (x := 1) (y := 1) rfl rfl]; simp; done) | (simp [limb_1_2, Cond.value, Term.eval]; done)))⟩
