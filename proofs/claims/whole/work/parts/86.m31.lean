/-! the reference's constructor: what it holds then -/
section M31
variable {l : Launch} {S : HS} {I : HI} {J : HJ}
set_option maxRecDepth 100000 in
set_option maxHeartbeats 1000000 in
theorem m_init (hK : S.1 1000 = 8) (hf : ∀ c, 1000 < c → c < 1053 → S.1 c = 0) (hw : wfS S) (hz : ∀ x, I 1000 x = 0) : Mt l yX7_init cX7_init 1 none (rmc 2 39 15024) (fun c => ¬ (1000 < c ∧ c < 1053)) [.ref 1000] S I J (fun v S' I' J' => v = none ∧ Ob S' 7 1000 ∧ wfS S' ∧ RefR z0C I' J' ∧ ∀ a, (a < 1000 ∨ 1053 ≤ a) → S'.1 a = S.1 a ∧ S'.2.1 a = S.2.1 a ∧ S'.2.2 a = S.2.2 a ∧ I' a = I a ∧ J' a = J a) := by
  refine Mt.of (by decide) (fun ad => by simp [lg_sl, vv, Value.category]) (fun c hc => by show ¬ (1000 < c ∧ c < 1053); omega) (fun X hX hN hF C => ?_)
  refine m_init0 hK hf hw (fun c h1 h2 => by rw [hF]; exact fun q => q ⟨h1, h2⟩) C (fun S1 I1 J1 b w => ?_)
  have o : Ob S1 7 1000 := b.ob (arr_no (by decide))
  obtain ⟨-, w1, -, m, ⟨eI, -, -⟩, zr⟩ := b
  have zi : ∀ x, I1 1000 x = 0 := fun x => by rw [eI]; exact hz x
  have z1 : ∀ y p, y < 52 → arrOf 7 y = some p → I1 (1000 + 1 + y) = fun _ => 0 := fun y p h1 h2 => (zr y p h1 h2).1
  have zrow : ∀ a, 1027 ≤ a → a ≤ 1044 → a ≠ 1035 → a ≠ 1036 → I1 a = fun _ => 0 := by
    intro a h1 h2 h3 h4
    have key : ∀ y, y < 52 → 26 ≤ y → y ≤ 43 → (arrOf 7 y).isSome = true := by decide
    have h5 := key (a - 1001) (by omega) (by omega) (by omega)
    obtain ⟨p, hp⟩ := Option.isSome_iff_exists.mp h5
    have h6 := z1 (a - 1001) p (by omega) hp
    rw [show 1000 + 1 + (a - 1001) = a by omega] at h6
    exact h6
  have e0 : ∀ d, refD I1 J1 d = fun _ _ => 0 := clD_0 zrow
  refine V_aload_n C dX7_init_484 rfl ?_
  refine V_bipush C (v := nI 12) dX7_init_485 rfl ?_
  refine V_callV (F := fun _ => True) C (m_clears o (nI 12)) mi_X7_clears ml_X7_186 rfl (ob_K o) (by decide) (by decide) (by decide) (Nat.le_of_ble_eq_true rfl) (fun _ _ => trivial) (fun v _ => clo_T v) rfl dX7_init_487 ?_
  rintro v S' I2 J2 ⟨hS9, rfl, q2, f2⟩
  obtain rfl := hS9.symm
  rw [e0] at q2
  obtain ⟨f1, f3, f4, f5⟩ := f2
  refine V_aload_n C dX7_init_490 rfl ?_
  refine V_bipush C (v := nI 101) dX7_init_491 rfl ?_
  refine V_putI C fl_X7_190 (ob_K o) rfl rfl dX7_init_493 ?_
  have zk : ∀ x, x ≠ 45 → up2 I2 1000 45 (nI 101) 1000 x = 0 := fun x hx => by rw [up2_row, va_up_ne _ _ hx, f1 1000 (by omega)]; exact zi x
  have zq : ∀ a, a ≠ 1000 → (a < 1023 ∨ a = 1025 ∨ a = 1026 ∨ a = 1045 ∨ a = 1046 ∨ 1049 ≤ a) → up2 I2 1000 45 (nI 101) a = I1 a := fun a h1 h2 => (up2_ne _ _ _ h1).trans (f1 a h2)
  refine V_vret C (by decide) (by decide) dX7_init_496 ⟨rfl, o, w1, ⟨?_, fun d hd => ?_, fun k hk => ?_, ⟨⟨0, by omega, zk 10 (by decide), ?_, by decide, trivial⟩, 0, by omega, zk 10 (by decide), trivial⟩, ⟨0, by omega, zk 10 (by decide), ?_⟩, zk 24 (by decide), zk 44 (by decide), by rw [up2_row, va_up_self]; rfl, ⟨zk 2 (by decide), fun i hi => absurd hi (by show ¬ i < 0; omega)⟩, ⟨zk 48 (by decide), fun i hi => absurd hi (by show ¬ i < 0; omega)⟩, fun i hi => by rw [f4 1010 (by omega) (by omega)]; exact w i hi⟩, fun a ha => ?_⟩
  · rw [refQ_o]; exact q2
  · have e1 : refD (up2 I2 1000 45 (nI 101)) J2 d = refD I2 J2 d := refD_o
    rw [e1]
    by_cases h0 : d = 0
    · subst h0
      have e2 : refD I2 J2 0 = clD (nI 12) (fun _ _ => 0) := congrArg Prod.fst q2
      rw [e2]; decide
    · rw [f3 d hd h0, e0]; decide
  · show up2 I2 1000 45 (nI 101) 1052 k = 0
    rw [zq 1052 (by omega) (by omega), z1 51 (12, 6) (by omega) rfl]
  · rw [zq 1013 (by omega) (by omega), z1 12 (10, 2) (by omega) rfl]; rfl
  · rw [zq 1019 (by omega) (by omega), z1 18 (10, 2) (by omega) rfl]; rfl
  · have : nf 7 = 52 := rfl
    obtain ⟨e1, e2, e3, e4, e5⟩ := m a (by omega)
    exact ⟨e1, e2, e3, (zq a (by omega) (by omega)).trans e4, (f4 a (by omega) (by omega)).trans e5⟩
end M31
