/-! the law from its start; the claim -/
section SP
theorem nrep_m {L : List Nat} : nrep L ↔ L.Nodup := by
  constructor
  · intro h
    rw [List.nodup_iff_pairwise_ne, List.pairwise_iff_getElem]
    intro i j hi hj hij e
    have := h i j L[i] (List.getElem?_eq_getElem hi) (by rw [List.getElem?_eq_getElem hj, e])
    omega
  · intro h i j a hi hj
    rw [List.nodup_iff_pairwise_ne, List.pairwise_iff_getElem] at h
    obtain ⟨li, ei⟩ := List.getElem?_eq_some_iff.mp hi
    obtain ⟨lj, ej⟩ := List.getElem?_eq_some_iff.mp hj
    rcases Nat.lt_trichotomy i j with g | g | g
    · exact absurd (ei.trans ej.symm) (h i j li lj g)
    · exact g
    · exact absurd (ej.trans ei.symm) (h j i lj li g)
theorem wsl_m {cy : Nat → ClassId} {ad : Nat → Nat} {S : HS} {I : HI} {J : HJ} {L : List Nat} {q : Nat × va_E} : q ∈ wsl cy ad S I J L ↔ ∃ k ∈ L, q = (ad k, cel cy ad S I J k) := by
  unfold wsl
  rw [List.mem_map]
  exact ⟨fun ⟨k, h1, h2⟩ => ⟨k, h1, h2.symm⟩, fun ⟨k, h1, h2⟩ => ⟨k, h1, h2.symm⟩⟩
theorem cel_cg {cy : Nat → ClassId} {ad : Nat → Nat} {S S' : HS} {I I' : HI} {J J' : HJ} {k : Nat} (h : S'.1 k = S.1 k ∧ S'.2.1 k = S.2.1 k ∧ S'.2.2 k = S.2.2 k ∧ I' k = I k ∧ J' k = J k) : cel cy ad S' I' J' k = cel cy ad S I J k := by
  unfold cel
  rw [h.1, h.2.1, h.2.2.1, h.2.2.2.1, h.2.2.2.2]
/-- what is made at the start comes apart into the two worlds and the row -/
theorem split_3 {X : VX} {ad : Nat → Nat} {S1 S2 S3 : HS} {I1 I2 I3 : HI} {J1 J2 J3 : HJ} {H : Heap} (h1 : Rl (xD X) (xy X) (xB X) ad S3 I3 J3 H) (h5 : ∀ k, 5000 ≤ k → ad k = xad X k) (hc : ClsR z0C S1 I1 J1) (hob : Ob S2 7 1000) (hrf : RefR z0C I2 J2)
    (e1 : ∀ k, 1100 ≤ k → S3.1 k = S1.1 k ∧ S3.2.1 k = S1.2.1 k ∧ S3.2.2 k = S1.2.2 k ∧ I3 k = I1 k ∧ J3 k = J1 k) (z1 : ∀ k, k < 1100 → S1.1 k = 0) (e2 : ∀ k, k < 1060 → S3.1 k = S2.1 k ∧ S3.2.1 k = S2.2.1 k ∧ S3.2.2 k = S2.2.2 k ∧ I3 k = I2 k ∧ J3 k = J2 k) (z3 : ∀ k, 1060 < k → k < 1100 → S3.1 k = 0) (k3 : S3.1 1060 = 11 ∧ S3.2.1 1060 = 1) :
    PW X (ad 1100) (ad 1000) (ad 1060) z0C z0C (fun _ => True) (J3 1060) H := by
  obtain ⟨L, n1, n2, hP, hD⟩ := h1
  obtain ⟨Lc, hLc⟩ : ∃ Lc, Lc = L.filter (fun k => decide (1100 ≤ k)) := ⟨_, rfl⟩
  obtain ⟨Lr, hLr⟩ : ∃ Lr, Lr = L.filter (fun k => decide (k < 1060)) := ⟨_, rfl⟩
  have mc : ∀ k, k ∈ Lc ↔ k ∈ L ∧ 1100 ≤ k := fun k => by rw [hLc, List.mem_filter]; simp
  have mr : ∀ k, k ∈ Lr ↔ k ∈ L ∧ k < 1060 := fun k => by rw [hLr, List.mem_filter]; simp
  have nL : L.Nodup := nrep_m.mp n1
  have nc : Lc.Nodup := by rw [hLc]; exact nL.filter _
  have nr : Lr.Nodup := by rw [hLr]; exact nL.filter _
  obtain ⟨Sr, hSr⟩ : ∃ Sr : HS, Sr = (fun k => if k < 1060 then S2.1 k else 0, S2.2.1, S2.2.2) := ⟨_, rfl⟩
  have sr : ∀ k, k < 1060 → Sr.1 k = S2.1 k ∧ Sr.2.1 k = S2.2.1 k ∧ Sr.2.2 k = S2.2.2 k := fun k hk => by rw [hSr]; exact ⟨if_pos hk, rfl, rfl⟩
  have h60 : 1060 ∈ L := (n2 1060).mpr (by rw [k3.1]; decide)
  rw [vaP_m] at hP
  have hD' := vaD_m.mp hD
  have inj : ∀ a ∈ L, ∀ b ∈ L, ad a = ad b → a = b := by
    intro a ha b hb e
    obtain ⟨i, gi, wi⟩ := wsl_get (cy := xy X) (ad := ad) (S := S3) (I := I3) (J := J3) ha
    obtain ⟨j, gj, wj⟩ := wsl_get (cy := xy X) (ad := ad) (S := S3) (I := I3) (J := J3) hb
    have := hD.1 i j _ _ wi wj e
    subst this
    rw [gi] at gj
    exact Option.some.inj gj
  have old : ∀ k ∈ L, va_at (xD X) vwCl (ad k, cel (xy X) ad S3 I3 J3 k) H ∧ xB X (ad k) := fun k hk => ⟨hP _ (wsl_m.mpr ⟨k, hk, rfl⟩), hD'.2 _ (wsl_m.mpr ⟨k, hk, rfl⟩)⟩
  have cc : ∀ k, 1100 ≤ k → cel (xy X) ad S1 I1 J1 k = cel (xy X) ad S3 I3 J3 k := fun k hk => by
    obtain ⟨a, b, c, d, e⟩ := e1 k hk
    exact cel_cg ⟨a.symm, b.symm, c.symm, d.symm, e.symm⟩
  have cr : ∀ k, k < 1060 → cel (xy X) ad Sr I2 J2 k = cel (xy X) ad S3 I3 J3 k := fun k hk => by
    obtain ⟨a, b, c, d, e⟩ := e2 k hk
    obtain ⟨a', b', c'⟩ := sr k hk
    exact cel_cg ⟨a'.trans a.symm, b'.trans b.symm, c'.trans c.symm, d.symm, e.symm⟩
  have co : ouW (xy X) (ad 1060) (J3 1060) = (ad 1060, cel (xy X) ad S3 I3 J3 1060) := by rw [cel_l k3.1, k3.2]; rfl
  have all : ∀ q ∈ wsl (xy X) ad S1 I1 J1 Lc ++ (wsl (xy X) ad Sr I2 J2 Lr ++ [ouW (xy X) (ad 1060) (J3 1060)]), va_at (xD X) vwCl q H ∧ xB X q.1 := by
    intro q hq
    rcases List.mem_append.mp hq with g | g
    · obtain ⟨k, hk, rfl⟩ := wsl_m.mp g
      obtain ⟨k1, k2⟩ := (mc k).mp hk
      rw [cc k k2]; exact old k k1
    · rcases List.mem_append.mp g with g | g
      · obtain ⟨k, hk, rfl⟩ := wsl_m.mp g
        obtain ⟨k1, k2⟩ := (mr k).mp hk
        rw [cr k k2]; exact old k k1
      · rw [List.mem_singleton.mp g, co]; exact old 1060 h60
  refine ⟨_, _, ⟨ad, S1, I1, J1, ⟨Lc, nrep_m.mpr nc, fun k => ?_, rfl⟩, hc, rfl, h5⟩, ⟨ad, Sr, I2, J2, ⟨Lr, nrep_m.mpr nr, fun k => ?_, rfl⟩, ⟨?_, hrf, trivial⟩, rfl, h5⟩, vaP_m.mpr (fun q hq => (all q hq).1), vaD_m.mpr ⟨?_, fun q hq => (all q hq).2⟩⟩
  · rw [mc, n2]
    constructor
    · rintro ⟨g1, g2⟩; rw [← (e1 k g2).1]; exact g1
    · intro g
      have g2 : 1100 ≤ k := by
        rcases Nat.lt_or_ge k 1100 with h | h
        · exact absurd (z1 k h) g
        · exact h
      exact ⟨by rw [(e1 k g2).1]; exact g, g2⟩
  · rw [mr, n2]
    constructor
    · rintro ⟨g1, g2⟩; rw [(sr k g2).1, ← (e2 k g2).1]; exact g1
    · intro g
      have g2 : k < 1060 := by
        rcases Nat.lt_or_ge k 1060 with h | h
        · exact h
        · exact absurd (by rw [hSr]; exact if_neg (by omega)) g
      exact ⟨by rw [(e2 k g2).1, ← (sr k g2).1]; exact g, g2⟩
  · refine ⟨(sr 1000 (by decide)).1.trans hob.1, fun x kd ln hx => ?_⟩
    have hxn : x < 52 := arr_nf 7 (by decide) x _ hx
    rw [(sr 1000 (by decide)).2.2, (sr (1000 + 1 + x) (by omega)).1, (sr (1000 + 1 + x) (by omega)).2.1]
    exact hob.2 x kd ln hx
  · have em : (wsl (xy X) ad S1 I1 J1 Lc ++ (wsl (xy X) ad Sr I2 J2 Lr ++ [ouW (xy X) (ad 1060) (J3 1060)])).map Prod.fst = (Lc ++ (Lr ++ [1060])).map ad := by
      unfold wsl
      rw [List.map_append, List.map_append, List.map_map, List.map_map, List.map_append, List.map_append]
      rfl
    rw [em, List.nodup_iff_pairwise_ne, List.pairwise_map]
    have nd : (Lc ++ (Lr ++ [1060])).Nodup := by
      rw [List.nodup_append, List.nodup_append]
      refine ⟨nc, ⟨nr, by simp, fun a ha b hb => ?_⟩, fun a ha b hb => ?_⟩
      · have := ((mr a).mp ha).2
        rw [List.mem_singleton.mp hb]; omega
      · have g := ((mc a).mp ha).2
        rcases List.mem_append.mp hb with h | h
        · have := ((mr b).mp h).2; omega
        · rw [List.mem_singleton.mp h]; omega
    have mem : ∀ a ∈ Lc ++ (Lr ++ [1060]), a ∈ L := fun a ha => by
      rcases List.mem_append.mp ha with h | h
      · exact ((mc a).mp h).1
      · rcases List.mem_append.mp h with h | h
        · exact ((mr a).mp h).1
        · rw [List.mem_singleton.mp h]; exact h60
    rw [List.nodup_iff_pairwise_ne] at nd
    exact nd.imp_of_mem (fun ha hb hne e => hne (inj _ (mem _ ha) _ (mem _ hb) e))
end SP
