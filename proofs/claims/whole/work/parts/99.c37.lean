/-! the class's reader: all laws; what the laws that are read are -/
section C39
variable {l : Launch} {S : HS} {I I' I2 : HI} {J : HJ} {la : Nat} {T : List Int32}
theorem numP_bd {K : List Tok} {a a' : Nat} {lo hi x : Int32} (h : numP K a lo hi = .ok (x, a')) (hK : (tk K a).1 = 2 → ∃ w, w ≤ 99999 ∧ (tk K a).2.2.1 = Int64.ofNat w ∧ (tk K a).2.2.1.toInt32 = nI w) : lo ≤ x ∧ x ≤ hi ∧ ∃ w, w ≤ 99999 ∧ x = nI w := by
  unfold numP at h
  by_cases h2 : (tk K a).1 = 2
  · rw [if_pos h2] at h
    obtain ⟨w, w1, w2, w3⟩ := hK h2
    by_cases g : lo.toInt64 ≤ (tk K a).2.2.1 ∧ (tk K a).2.2.1 ≤ hi.toInt64
    · rw [if_pos g] at h
      injection h with h
      have e : nI w = x := by rw [← w3]; exact congrArg Prod.fst h
      rw [w2, ← nI_64 (show w < 2 ^ 31 by omega), le_64, le_64, e] at g
      exact ⟨g.1, g.2, w, w1, e.symm⟩
    · rw [if_neg g] at h; cases h
  · rw [if_neg h2] at h; cases h
/-- a law that may stand: its kind, its numbers, its open bit, its codes -/
def lgW (w : Law) : Prop := lkC w ∧ (leK w.1 ≤ w.2.1 ∧ w.2.1 ≤ moK w.1) ∧ leK w.1 ≤ w.2.2.1 ∧ w.2.2.1 ≤ moK w.1
theorem lawP_ok {n op a a' : Nat} {w : Law} (hop : op ≤ 4) (ha : a < (toks T).length) (h : lawP (toks T) n op a = .ok (w, a')) : lgW w := by
  unfold lawP at h
  by_cases h0 : fwN (toks T) a 0 9 < 0
  · rw [if_pos h0] at h; cases h
  · rw [if_neg h0] at h
    by_cases hn : n = 24
    · rw [if_pos hn] at h; cases h
    · rw [if_neg hn] at h
      obtain ⟨k, hk, ek, ekc, h1⟩ := fw_k h0
      rw [ekc] at h
      have hlt := (tk_wf ha).2.2 (by rw [h1]; decide)
      unfold lawK at h
      cases q1 : numP (toks T) (a + 1) (leK k) (moK k) with
      | error e => rw [q1] at h; cases h
      | ok x =>
        obtain ⟨lo, a1⟩ := x
        rw [q1] at h
        dsimp only at h
        obtain ⟨ea1, t2⟩ := numP_ok q1
        have b1 := numP_bd q1 (fun g => nu_tok hlt g)
        have hlt1 : a1 < (toks T).length := by rw [ea1]; exact (tk_wf hlt).2.2 (by rw [t2]; decide)
        have fin : ∀ hi ob a2, leK k ≤ hi → hi ≤ moK k → (∀ j, ob = some j → j < 4) → enP (toks T) k lo hi ob a2 = .ok (w, a') → lgW w := by
          intro hi ob a2 g1 g2 g3 he
          unfold enP at he
          by_cases gw : isWP (toks T) a2 10
          · rw [if_pos gw] at he
            cases q3 : allP (toks T) (parP (toks T) 4) (a2 + 1) with
            | error e => rw [q3] at he; cases he
            | ok y =>
              obtain ⟨c, a3⟩ := y
              rw [q3] at he
              dsimp only at he
              by_cases gs : isSP (toks T) a3 59
              · rw [if_pos gs] at he
                injection he with he
                have e : (k, lo, hi, ob, c) = w := congrArg Prod.fst he
                rw [← e]
                exact ⟨⟨hk, allP_wf q3, g3⟩, ⟨b1.1, b1.2.1⟩, g1, g2⟩
              · rw [if_neg gs] at he; cases he
          · rw [if_neg gw] at he; cases he
        unfold hiP at h
        by_cases g9 : isWP (toks T) a1 9
        · rw [if_pos g9] at h
          have hlt2 : a1 + 1 < (toks T).length := (tk_wf hlt1).2.2 (by rw [g9.1]; decide)
          cases q2 : numP (toks T) (a1 + 1) lo (moK k) with
          | error e => rw [q2] at h; cases h
          | ok y =>
            obtain ⟨hi, a2⟩ := y
            rw [q2] at h
            dsimp only at h
            have b2 := numP_bd q2 (fun g => nu_tok hlt2 g)
            by_cases g : hi ≤ lo
            · rw [if_pos g] at h
              exact fin _ _ _ (Int32.le_trans b1.1 b2.1) b2.2.1 (fun j hj => by cases hj) h
            · rw [if_neg g] at h
              by_cases g4 : op = 4
              · rw [if_pos g4] at h; cases h
              · rw [if_neg g4] at h
                exact fin _ _ _ (Int32.le_trans b1.1 b2.1) b2.2.1 (fun j hj => by have := Option.some.inj hj; omega) h
        · rw [if_neg g9] at h
          exact fin _ _ _ b1.1 b1.2.1 (fun j hj => by cases hj) h
def rdS (S : HS) (la : Nat) : HS := (S.1, S.2.1, up2 S.2.2 1130 1 (some la))
theorem arr_4 : ∀ x, arrOf 4 x = none := fun x => by unfold arrOf; split <;> simp_all
theorem rdS_ne {a : Nat} (h : a ≠ 1130) : (rdS S la).2.2 a = S.2.2 a := up2_ne _ _ _ h
theorem rdS_R (h4 : Ob S 4 1130 ∧ S.2.2 1130 0 = some 1120) (h5 : Ob S 5 1120) (hL : Ob S 2 la) (hla : hLA la) : RdS (rdS S la) la := ⟨⟨h4.1.1, fun x kd ln hx => by rw [arr_4 x] at hx; cases hx⟩, by show up2 S.2.2 1130 1 (some la) 1130 0 = _; rw [up2_row, va_up_ne _ _ (by decide)]; exact h4.2, by show up2 S.2.2 1130 1 (some la) 1130 1 = _; rw [up2_row, va_up_self], h5.rr rfl rfl (rdS_ne (by decide)), hL.rr rfl rfl (rdS_ne (by omega))⟩
def RdQ (T : List Int32) (la : Nat) (v : Option Value) (I' : HI) (r : Except Int32 (List Law)) : Prop := match r with
  | .error e => 0 < e ∧ v = some (.int e)
  | .ok L => v = some (.int 0) ∧ BLw I' la L ∧ L.length ≤ 24 ∧ cdN L ≤ 1000 ∧ opN L ≤ 4 ∧ ∀ w ∈ L, lgW w
set_option maxRecDepth 100000 in
set_option maxHeartbeats 2000000 in
theorem c_read (h4 : Ob S 4 1130 ∧ S.2.2 1130 0 = some 1120) (h5 : Ob S 5 1120) (hL : Ob S 2 la) (hla : hLA la) (hE : TG I T) : Mf l yX4_read cX4_read 3 (some .int) 32 [.ref 1130, .ref la] S I J (fun v S' I' J' => S' = rdS S la ∧ J' = J ∧ (∀ b, b ≠ 1130 → (b < la ∨ la + 11 < b) → I' b = I b) ∧ RdQ T la v I' (lawsR T)) := by
  refine Mf.of (by decide) (fun ad => by simp [lg_sl, vv, Value.category]) (fun X P hP hn C => ?_)
  have hR := rdS_R h4 h5 hL hla
  have hR0 := hR
  obtain ⟨S2, hS2⟩ : ∃ S2, S2 = rdS S la := ⟨_, rfl⟩
  rw [← hS2] at hP hR hR0
  obtain ⟨hM, hT0, hT1, hTp, hLa⟩ := hR
  have h1000 := hE.2.1
  have hlen := tk_len (T := T)
  obtain ⟨r, hr⟩ : ∃ r, r = lawsP (toks T) (toks T).length [] 0 := ⟨_, rfl⟩
  have hlr : lawsR T = r := hr.symm
  rw [hlr] at hP
  have bad : ∀ (In : HI) (e : Int32) (i : Nat), r = .error e → 0 < e → In 1130 2 = e → (∀ b, b ≠ 1130 → (b < la ∨ la + 11 < b) → In b = I b) → V X P 0 0 28 [some (.ref 1130), some (.ref la), some (.int (nI i))] [] S2 In J := by
    intro In e i hre he h2 f
    have nf : ¬ In 1130 2 = 0 := by rw [h2]; exact pos_ne he
    refine V_iload_n C dX4_read_28 rfl ?_
    refine V_bipush C (v := nI 24) dX4_read_29 (by decide +kernel) ?_
    refine V_icmp_gt C 58 dX4_read_31 (by decide) (fun h31 => ?_) (fun h31 => ?_)
    · refine V_aload_n C dX4_read_58 rfl ?_
      refine V_getI C fl_X4_24 (ob_K hM) rfl dX4_read_59 ?_
      exact V_iret C (Nat.zero_le _) (Nat.zero_le _) dX4_read_62 (hP _ _ _ _ ⟨rfl, rfl, f, by rw [hre, h2]; exact ⟨he, rfl⟩⟩)
    · refine V_aload_n C dX4_read_34 rfl ?_
      refine V_getI C fl_X4_24 (ob_K hM) rfl dX4_read_35 ?_
      refine V_if_ne C 58 dX4_read_38 (by decide) (fun h38 => ?_) (fun h38 => absurd h38 (nf))
      refine V_aload_n C dX4_read_58 rfl ?_
      refine V_getI C fl_X4_24 (ob_K hM) rfl dX4_read_59 ?_
      exact V_iret C (Nat.zero_le _) (Nat.zero_le _) dX4_read_62 (hP _ _ _ _ ⟨rfl, rfl, f, by rw [hre, h2]; exact ⟨he, rfl⟩⟩)
  have loop : ∀ (c : Nat) (In : HI) (L : List Law) (a : Nat), (toks T).length ≤ a + c → a < (toks T).length → cdN L ≤ a → L.length ≤ 24 → opN L ≤ 4 → (∀ w ∈ L, lgW w) → RSt In T a 0 → BLw In la L → (∀ b, b ≠ 1130 → (b < la ∨ la + 11 < b) → In b = I b) → r = lawsP (toks T) c L a → V X P 0 0 28 [some (.ref 1130), some (.ref la), some (.int (nI L.length))] [] S2 In J := by
    intro c
    induction c with
    | zero => intro In L a h1 h2; omega
    | succ c ih =>
      intro In L a h1 h2 hcd h24 hop hw hs hB f hr
      rw [lawsP] at hr
      have hE2 := hE.f2 hla f
      have h44 := (tk_wf h2).2.1
      by_cases h0 : (tk (toks T) a).1 = 0
      · rw [if_pos h0] at hr
        refine V_iload_n C dX4_read_28 rfl ?_
        refine V_bipush C (v := nI 24) dX4_read_29 (by decide +kernel) ?_
        refine V_icmp_gt C 58 dX4_read_31 (by decide) (fun h31 => absurd h31 (nI_nlt (by omega) (by omega))) (fun h31 => ?_)
        refine V_aload_n C dX4_read_34 rfl ?_
        refine V_getI C fl_X4_24 (ob_K hM) rfl dX4_read_35 ?_
        refine V_if_ne C 58 dX4_read_38 (by decide) (fun h38 => absurd (hs.1) h38) (fun h38 => ?_)
        refine V_aload_n C dX4_read_41 rfl ?_
        refine V_getI C fl_X4_34 (ob_K hM) rfl dX4_read_42 ?_
        refine V_if_eq C 58 dX4_read_45 (by decide) (fun h45 => ?_) (fun h45 => absurd (by rw [hs.2.1, h0]; rfl) h45)
        refine V_aload_n C dX4_read_58 rfl ?_
        refine V_getI C fl_X4_24 (ob_K hM) rfl dX4_read_59 ?_
        exact V_iret C (Nat.zero_le _) (Nat.zero_le _) dX4_read_62 (hP _ _ _ _ ⟨rfl, rfl, f, by rw [hr, hs.1]; exact ⟨rfl, hB, h24, by omega, hop, hw⟩⟩)
      · rw [if_neg h0] at hr
        have n0 : ¬ In 1130 3 = 0 := by rw [hs.2.1]; exact fun q => h0 ((nI_eq (b := 0) (by omega) (by omega)).mp q)
        have after : ∀ I2, LQ T la L a In I2 (lawP (toks T) L.length (opN L) a) → V X P 0 0 52 [some (.ref 1130), some (.ref la), some (.int (nI L.length))] [] S2 I2 J := by
          intro I2 hp
          cases hl : lawP (toks T) L.length (opN L) a with
          | error e =>
            rw [hl] at hp hr
            obtain ⟨p1, p2, p3⟩ := hp
            have fin := bad I2 e (L.length + 1) hr p1 p2 (fun b hb hb2 => (p3 b hb hb2).trans (f b hb hb2))
            refine V_iincU C dX4_read_52 rfl (hn _ (by decide)) ?_
            refine V_goto C 28 dX4_read_55 (by decide) ?_
            exact fin
          | ok x =>
            obtain ⟨w, a'⟩ := x
            have hlg := lawP_ok hop h2 hl
            have hlt : L.length < 24 := by
              rcases Nat.lt_or_ge L.length 24 with q | q
              · exact q
              · exfalso
                unfold lawP at hl
                by_cases g : fwN (toks T) a 0 9 < 0
                · rw [if_pos g] at hl; cases hl
                · rw [if_neg g, if_pos (by omega)] at hl; cases hl
            rw [hl] at hp hr
            obtain ⟨p1, p2, p3, p4, p5, p6, p7⟩ := hp
            have hl1 : (L ++ [w]).length = L.length + 1 := by rw [List.length_append]; rfl
            have fin := ih I2 (L ++ [w]) a' (by omega) p2 p5 (by omega) p6 (fun x hx => by
              rcases List.mem_append.mp hx with h | h
              · exact hw x h
              · rw [List.mem_singleton.mp h]; exact hlg) p3 p4 (fun b hb hb2 => (p7 b hb hb2).trans (f b hb hb2)) hr
            rw [hl1] at fin
            refine V_iincU C dX4_read_52 rfl (hn _ (by decide)) ?_
            refine V_goto C 28 dX4_read_55 (by decide) ?_
            exact fin
        refine V_iload_n C dX4_read_28 rfl ?_
        refine V_bipush C (v := nI 24) dX4_read_29 (by decide +kernel) ?_
        refine V_icmp_gt C 58 dX4_read_31 (by decide) (fun h31 => absurd h31 (nI_nlt (by omega) (by omega))) (fun h31 => ?_)
        refine V_aload_n C dX4_read_34 rfl ?_
        refine V_getI C fl_X4_24 (ob_K hM) rfl dX4_read_35 ?_
        refine V_if_ne C 58 dX4_read_38 (by decide) (fun h38 => absurd (hs.1) h38) (fun h38 => ?_)
        refine V_aload_n C dX4_read_41 rfl ?_
        refine V_getI C fl_X4_34 (ob_K hM) rfl dX4_read_42 ?_
        refine V_if_eq C 58 dX4_read_45 (by decide) (fun h45 => absurd h45 (n0)) (fun h45 => ?_)
        refine V_aload_n C dX4_read_48 rfl ?_
        refine V_callV (F := fun _ => True) C (c_readLaw hR0 hla hE2 hs h2 hB h24 hop hcd) mi_X4_readLaw ml_X4_37 rfl (ob_K hM) (by decide) (by decide) (by decide) (Nat.le_of_ble_eq_true rfl) (fun _ _ => trivial) (fun v _ => clo_T v) rfl dX4_read_49 ?_
        rintro v S' I4 J4 ⟨hS9, rfl, hp, hJ9⟩
        obtain rfl := hS9.symm
        obtain rfl := hJ9.symm
        exact after _ hp
  have at5 : V X P 0 0 5 [some (.ref 1130), some (.ref la), none] [] S2 I J := by
    have k12 : ∀ I2, (∀ c, c ≠ la → c ≠ la + 9 → c ≠ la + 10 → I2 c = I c) → (I2 la 0 = nI 0 ∧ I2 la 1 = nI 0 ∧ I2 la 2 = nI 0) → (∀ k, k < 9 → I2 (la + 9) k = -1 ∧ I2 (la + 10) k = -1) → V X P 0 0 12 [some (.ref 1130), some (.ref la), none] [] S2 I2 J := by
      intro I2 f0 f1 f2
      obtain ⟨I3, hI3⟩ : ∃ I3, I3 = up2 (up2 I2 1130 2 (nI 0)) 1130 5 (nI 0) := ⟨_, rfl⟩
      have g3 : ∀ b, b ≠ 1130 → I3 b = I2 b := fun b hb => by rw [hI3, up2_ne _ _ _ hb, up2_ne _ _ _ hb]
      have fr3 : ∀ b, b ≠ 1130 → (b < la ∨ la + 11 < b) → I3 b = I b := fun b hb hb2 => (g3 b hb).trans (f0 b (by omega) (by omega) (by omega))
      have hE3 := hE.f2 hla fr3
      have e5 : I3 1130 5 = nI 0 := by rw [hI3, r_at]
      have e2 : I3 1130 2 = nI 0 := by rw [hI3, r_ne (by decide), r_at]
      have k26 : ∀ I4 : HI, (∀ a, a ≠ 1130 → I4 a = I3 a) → I4 1130 2 = I3 1130 2 → rdT I4 (nxT (tpT T) T.length 0) → V X P 0 0 26 [some (.ref 1130), some (.ref la), none] [] S2 I4 J := by
        intro I4 q1 q2 q3
        have rr : ∀ b, b ≠ 1130 → I4 b = I2 b := fun b hb => (q1 b hb).trans (g3 b hb)
        have fin := loop (toks T).length I4 [] 0 (by omega) (by
          have : toks T ≠ [] := tks_ne _ _
          exact List.length_pos_iff.mpr this) (Nat.le_refl _) (by decide) (by decide) (fun w hw => by cases hw) ⟨q2.trans e2, by rw [show tk (toks T) 0 = nxT (tpT T) T.length 0 from tks_0 (by omega)]; exact q3⟩ ⟨⟨by rw [rr la (by omega)]; exact f1.1, by rw [rr la (by omega)]; exact f1.2.1, by rw [rr la (by omega)]; exact f1.2.2, fun h => absurd h (by decide)⟩, fun k hk => ⟨by rw [rr (la + 9) (by omega)]; exact (f2 k hk).1, by rw [rr (la + 10) (by omega)]; exact (f2 k hk).2⟩, trivial⟩ (fun b hb hb2 => (q1 b hb).trans (fr3 b hb hb2)) hr
        refine V_iconst C (v := nI 0) dX4_read_26 (by decide +kernel) ?_
        refine V_istore_n C dX4_read_27 (hn _ (by decide)) ?_
        exact fin
      refine V_aload_n C dX4_read_12 rfl ?_
      refine V_iconst C (v := nI 0) dX4_read_13 (by decide +kernel) ?_
      refine V_putI C fl_X4_24 (ob_K hM) rfl rfl dX4_read_14 ?_
      refine V_aload_n C dX4_read_17 rfl ?_
      refine V_iconst C (v := nI 0) dX4_read_18 (by decide +kernel) ?_
      refine V_putI C fl_X4_28 (ob_K hM) rfl rfl dX4_read_19 ?_
      rw [← hI3]
      refine V_aload_n C dX4_read_22 rfl ?_
      refine V_callV (F := fun _ => True) C (c_advance hR0 hE3.1 hE3.2.1 hE3.2.2 e5 (Nat.zero_le _) (q := fun v I' J' => v = none ∧ ((∀ a, a ≠ 1130 → I' a = I3 a) ∧ I' 1130 2 = I3 1130 2 ∧ rdT I' (nxT (tpT T) T.length 0)) ∧ J' = J) (fun I' q1 q2 q3 => ⟨rfl, ⟨q1, q2, q3⟩, rfl⟩)) mi_X4_advance ml_X4_31 rfl (ob_K hM) (by decide) (by decide) (by decide) (Nat.le_of_ble_eq_true rfl) (fun _ _ => trivial) (fun v _ => clo_T v) rfl dX4_read_23 ?_
      rintro v S' I4 J4 ⟨hS9, rfl, ⟨q1, q2, q3⟩, hJ9⟩
      obtain rfl := hS9.symm
      obtain rfl := hJ9.symm
      exact k26 I4 q1 q2 q3
    refine V_aload_n C dX4_read_5 rfl ?_
    refine V_getR C fl_X4_15 (ob_K hM) hT1 rfl dX4_read_6 ?_
    refine V_callV (F := fun _ => True) C (c_lawsClear hLa) mi_X2_clear ml_X4_19 rfl (ob_K hLa) (by decide) (by decide) (by decide) (Nat.le_of_ble_eq_true rfl) (fun _ _ => trivial) (fun v _ => clo_T v) rfl dX4_read_9 ?_
    rintro v S' I4 J4 ⟨hS9, rfl, f0, f1, f2, hJ9⟩
    obtain rfl := hS9.symm
    obtain rfl := hJ9.symm
    exact k12 I4 f0 f1 f2
  rw [hS2] at at5
  refine V_aload_n C dX4_read_0 rfl ?_
  refine V_aload_n C dX4_read_1 rfl ?_
  refine V_putR C fl_X4_15 (ob_K h4.1) rfl rfl dX4_read_2 ?_
  exact at5
end C39
