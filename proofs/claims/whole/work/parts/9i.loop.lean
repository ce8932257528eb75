/-! the law's loop -/
section LP
variable {X : VX}
set_option maxRecDepth 100000 in
set_option maxHeartbeats 4000000 in
theorem law_loop (C : Cx X cL_law yL_law (some .short) room_1) {b L xa ma oa : Nat} {xs' : Nat → Int32} (hX : va_X b L xs' (xs X) (xs X).heap) (hbl : b < (xs X).heap.size) (hbA : ¬ xB X b) (hL : L ≤ 3584) (htr : (xl X).stackTraces = false) (hZ : Zx (xB X) (xs X)) (hn : ∀ k, k < 7 → k < xn X) (hend : ∀ (PH : Heap → Prop) (nc ns : Nat) (lv : List (Option Value)), nc ≤ 601024 → ns ≤ 7293034 → VL X PH nc ns 1144 lv []) :
    ∀ (c j : Nat) (z : SV) (o : Nat → Int64) (nc ns : Nat) (x5 x6 : Option Value), L ≤ 7 * j + c → 7 * j ≤ L + 7 → nc ≤ 300 + 66 * j → ns ≤ 30000 + 739 * j → OkC z → VL X (PW X xa ma oa z z (fun _ => True) o) nc ns 23 [some (.ref b), some (.ref xa), some (.ref ma), some (.ref oa), some (.int (nI (7 * j))), x5, x6] [] := by
  have sub7 : ∀ q, q < 7 → nI q - nI 7 < 0 := by decide +kernel
  have quit : ∀ (j : Nat) (PH : Heap → Prop) (nc ns : Nat) (x5 x6 : Option Value), L < 7 * j + 7 → 7 * j ≤ L + 7 → nc ≤ 601024 → ns ≤ 7293034 → VL X PH nc ns 23 [some (.ref b), some (.ref xa), some (.ref ma), some (.ref oa), some (.int (nI (7 * j))), x5, x6] [] := by
    intro j PH nc ns x5 x6 h1 h2 h3 h4
    have hgt : nI L - nI 7 < nI (7 * j) := by
      rcases Nat.lt_or_ge L 7 with q | q
      · exact Int32.lt_of_lt_of_le (sub7 L q) (nI_le (a := 0) (by omega) (by omega))
      · rw [pk_sub q]; exact nI_lt (by omega) (by omega)
    refine L_iload C dL_law_23 rfl ?_
    refine L_aload_n C dL_law_25 rfl ?_
    refine L_slen C hX hbl hbA dL_law_26 ?_
    refine L_bipush C (v := nI 7) dL_law_27 (by decide +kernel) ?_
    refine L_isub C dL_law_29 ?_
    exact L_icmp_gt C 1144 dL_law_30 (by decide) (fun _ => hend _ _ _ _ h3 h4) (fun h => absurd hgt h)
  intro c
  induction c with
  | zero =>
    intro j z o nc ns x5 x6 h1 h2 h3 h4 hO
    exact quit j _ _ _ _ _ (by omega) h2 (by omega) (by omega)
  | succ c ih =>
    intro j z o nc ns x5 x6 h1 h2 h3 h4 hO
    by_cases hle : 7 * j + 7 ≤ L
    · have hngt : ¬ nI L - nI 7 < nI (7 * j) := by rw [pk_sub (by omega)]; exact nI_nlt (by omega) (by omega)
      have nx : ∀ (z' : SV) (o' : Nat → Int64) (nc' ns' : Nat) (x5 x6 : Option Value), nc' ≤ nc + 66 → ns' ≤ ns + 739 → OkC z' → VL X (PW X xa ma oa z' z' (fun _ => True) o') nc' ns' 1138 [some (.ref b), some (.ref xa), some (.ref ma), some (.ref oa), some (.int (nI (7 * j))), x5, x6] [] := by
        intro z' o' nc' ns' x5 x6 g1 g2 g3
        refine L_iinc C dL_law_1138 rfl (hn _ (by decide)) ?_
        refine L_goto C 23 dL_law_1141 (by decide) ?_
        have e : nI (7 * j) + Int32.ofInt 7 = nI (7 * (j + 1)) := by rw [show Int32.ofInt 7 = nI 7 by decide, nI_add]; congr 1
        rw [e]
        exact ih (j + 1) z' o' nc' ns' x5 x6 (by omega) (by omega) (by omega) (by omega) g3
      refine L_iload C dL_law_23 rfl ?_
      refine L_aload_n C dL_law_25 rfl ?_
      refine L_slen C hX hbl hbA dL_law_26 ?_
      refine L_bipush C (v := nI 7) dL_law_27 (by decide +kernel) ?_
      refine L_isub C dL_law_29 ?_
      refine L_icmp_gt C 1144 dL_law_30 (by decide) (fun h => absurd h hngt) (fun _ => ?_)
      refine L_aload_n C dL_law_33 rfl ?_
      refine L_iload C dL_law_34 rfl ?_
      refine L_sld C hX hbl hbA (7 * j) rfl (by omega) (by omega) dL_law_36 ?_
      refine L_bipush C (v := nI 31) dL_law_37 (by decide +kernel) ?_
      refine L_iand C dL_law_39 ?_
      obtain ⟨w, hw, ew⟩ := pk_andE (xs' (7 * j)) (m := nI 31) 5 (by decide)
      rw [ew]
      have hw : w < 32 := hw
      match w, hw with
      | 0, _ =>
        refine L_swIn C 152 dL_law_40 (by decide) (by decide) (off := 112) (by decide +kernel) (by decide) ?_
        refine L_aload_n C dL_law_152 rfl ?_
        refine L_aload_n C dL_law_153 rfl ?_
        refine L_iload C dL_law_154 rfl ?_
        refine L_iconst C (v := nI 1) dL_law_156 (by decide +kernel) ?_
        refine L_iadd C dL_law_157 ?_
        refine L_sld C hX hbl hbA (7 * j + 1) (nI_add _ _) (by omega) (by omega) dL_law_158 ?_
        refine L_cls C (fun S I J h => f_rings h hO (xs' (7 * j + 1))) ⟨trivial, fun _ _ => trivial⟩ (fun _ => rfl) (nrv_a ⟨fun _ => rfl, trivial⟩) mi_X6_rings ml_L_19 rfl rfl (by decide) ⟨(by show nc + 0 ≤ 601024; omega), (by show ns + 0 ≤ 7293034; omega)⟩ (Nat.le_of_ble_eq_true rfl) rfl dL_law_159 ?_
        refine L_aload_n C dL_law_162 rfl ?_
        refine L_aload_n C dL_law_163 rfl ?_
        refine L_iload C dL_law_164 rfl ?_
        refine L_iconst C (v := nI 1) dL_law_166 (by decide +kernel) ?_
        refine L_iadd C dL_law_167 ?_
        refine L_sld C hX hbl hbA (7 * j + 1) (nI_add _ _) (by omega) (by omega) dL_law_168 ?_
        refine L_rf C (fun S I J h1 h2 => m_rings h1 h2 (xs' (7 * j + 1))) (fun _ => rfl) (nrv_a ⟨fun _ => rfl, trivial⟩) mi_X7_rings ml_L_23 rfl rfl (by decide) ⟨(by show nc + 0 ≤ 601024; omega), (by show ns + 0 ≤ 7293034; omega)⟩ (Nat.le_of_ble_eq_true rfl) rfl dL_law_169 ?_
        exact L_icmp_eq C 1138 dL_law_172 (by decide) (fun _ => nx _ _ _ _ _ _ (by show nc + 0 ≤ nc + 66; omega) (by show ns + 0 ≤ ns + 739; omega) (ok_rings hO _)) (fun h => absurd rfl h)
      | 1, _ =>
        refine L_swIn C 177 dL_law_40 (by decide) (by decide) (off := 137) (by decide +kernel) (by decide) ?_
        refine L_aload_n C dL_law_177 rfl ?_
        refine L_aload_n C dL_law_178 rfl ?_
        refine L_iload C dL_law_179 rfl ?_
        refine L_iconst C (v := nI 1) dL_law_181 (by decide +kernel) ?_
        refine L_iadd C dL_law_182 ?_
        refine L_sld C hX hbl hbA (7 * j + 1) (nI_add _ _) (by omega) (by omega) dL_law_183 ?_
        refine L_aload_n C dL_law_184 rfl ?_
        refine L_iload C dL_law_185 rfl ?_
        refine L_iconst C (v := nI 2) dL_law_187 (by decide +kernel) ?_
        refine L_iadd C dL_law_188 ?_
        refine L_sld C hX hbl hbA (7 * j + 2) (nI_add _ _) (by omega) (by omega) dL_law_189 ?_
        refine L_aload_n C dL_law_190 rfl ?_
        refine L_iload C dL_law_191 rfl ?_
        refine L_iconst C (v := nI 3) dL_law_193 (by decide +kernel) ?_
        refine L_iadd C dL_law_194 ?_
        refine L_sld C hX hbl hbA (7 * j + 3) (nI_add _ _) (by omega) (by omega) dL_law_195 ?_
        refine L_aload_n C dL_law_196 rfl ?_
        refine L_iload C dL_law_197 rfl ?_
        refine L_iconst C (v := nI 4) dL_law_199 (by decide +kernel) ?_
        refine L_iadd C dL_law_200 ?_
        refine L_sld C hX hbl hbA (7 * j + 4) (nI_add _ _) (by omega) (by omega) dL_law_201 ?_
        refine L_cls C (fun S I J h => f_ring h hO (xs' (7 * j + 1)) (xs' (7 * j + 2)) (xs' (7 * j + 3)) (xs' (7 * j + 4))) ⟨trivial, fun _ _ => trivial⟩ (fun _ => rfl) (nrv_a ⟨fun _ => rfl, fun _ => rfl, fun _ => rfl, fun _ => rfl, trivial⟩) mi_X6_ring ml_L_24 rfl rfl (by decide) ⟨(by show nc + 0 ≤ 601024; omega), (by show ns + 0 ≤ 7293034; omega)⟩ (Nat.le_of_ble_eq_true rfl) rfl dL_law_202 ?_
        refine L_aload_n C dL_law_205 rfl ?_
        refine L_aload_n C dL_law_206 rfl ?_
        refine L_iload C dL_law_207 rfl ?_
        refine L_iconst C (v := nI 1) dL_law_209 (by decide +kernel) ?_
        refine L_iadd C dL_law_210 ?_
        refine L_sld C hX hbl hbA (7 * j + 1) (nI_add _ _) (by omega) (by omega) dL_law_211 ?_
        refine L_aload_n C dL_law_212 rfl ?_
        refine L_iload C dL_law_213 rfl ?_
        refine L_iconst C (v := nI 2) dL_law_215 (by decide +kernel) ?_
        refine L_iadd C dL_law_216 ?_
        refine L_sld C hX hbl hbA (7 * j + 2) (nI_add _ _) (by omega) (by omega) dL_law_217 ?_
        refine L_aload_n C dL_law_218 rfl ?_
        refine L_iload C dL_law_219 rfl ?_
        refine L_iconst C (v := nI 3) dL_law_221 (by decide +kernel) ?_
        refine L_iadd C dL_law_222 ?_
        refine L_sld C hX hbl hbA (7 * j + 3) (nI_add _ _) (by omega) (by omega) dL_law_223 ?_
        refine L_aload_n C dL_law_224 rfl ?_
        refine L_iload C dL_law_225 rfl ?_
        refine L_iconst C (v := nI 4) dL_law_227 (by decide +kernel) ?_
        refine L_iadd C dL_law_228 ?_
        refine L_sld C hX hbl hbA (7 * j + 4) (nI_add _ _) (by omega) (by omega) dL_law_229 ?_
        refine L_rf C (fun S I J h1 h2 => m_ring h1 h2 hO.r (xs' (7 * j + 1)) (xs' (7 * j + 2)) (xs' (7 * j + 3)) (xs' (7 * j + 4))) (fun _ => rfl) (nrv_a ⟨fun _ => rfl, fun _ => rfl, fun _ => rfl, fun _ => rfl, trivial⟩) mi_X7_ring ml_L_28 rfl rfl (by decide) ⟨(by show nc + 0 ≤ 601024; omega), (by show ns + 0 ≤ 7293034; omega)⟩ (Nat.le_of_ble_eq_true rfl) rfl dL_law_230 ?_
        exact L_icmp_eq C 1138 dL_law_233 (by decide) (fun _ => nx _ _ _ _ _ _ (by show nc + 0 ≤ nc + 66; omega) (by show ns + 0 ≤ ns + 739; omega) (ok_ring hO _ _ _ _)) (fun h => absurd rfl h)
      | 2, _ =>
        refine L_swIn C 238 dL_law_40 (by decide) (by decide) (off := 198) (by decide +kernel) (by decide) ?_
        refine L_aload_n C dL_law_238 rfl ?_
        refine L_aload_n C dL_law_239 rfl ?_
        refine L_iload C dL_law_240 rfl ?_
        refine L_iconst C (v := nI 1) dL_law_242 (by decide +kernel) ?_
        refine L_iadd C dL_law_243 ?_
        refine L_sld C hX hbl hbA (7 * j + 1) (nI_add _ _) (by omega) (by omega) dL_law_244 ?_
        refine L_aload_n C dL_law_245 rfl ?_
        refine L_iload C dL_law_246 rfl ?_
        refine L_iconst C (v := nI 2) dL_law_248 (by decide +kernel) ?_
        refine L_iadd C dL_law_249 ?_
        refine L_sld C hX hbl hbA (7 * j + 2) (nI_add _ _) (by omega) (by omega) dL_law_250 ?_
        refine L_aload_n C dL_law_251 rfl ?_
        refine L_iload C dL_law_252 rfl ?_
        refine L_iconst C (v := nI 3) dL_law_254 (by decide +kernel) ?_
        refine L_iadd C dL_law_255 ?_
        refine L_sld C hX hbl hbA (7 * j + 3) (nI_add _ _) (by omega) (by omega) dL_law_256 ?_
        refine L_cls C (fun S I J h => f_dust h hO (xs' (7 * j + 1)) (xs' (7 * j + 2)) (xs' (7 * j + 3))) ⟨trivial, fun _ _ => trivial⟩ (fun _ => rfl) (nrv_a ⟨fun _ => rfl, fun _ => rfl, fun _ => rfl, trivial⟩) mi_X6_dust ml_L_29 rfl rfl (by decide) ⟨(by show nc + 0 ≤ 601024; omega), (by show ns + 0 ≤ 7293034; omega)⟩ (Nat.le_of_ble_eq_true rfl) rfl dL_law_257 ?_
        refine L_aload_n C dL_law_260 rfl ?_
        refine L_aload_n C dL_law_261 rfl ?_
        refine L_iload C dL_law_262 rfl ?_
        refine L_iconst C (v := nI 1) dL_law_264 (by decide +kernel) ?_
        refine L_iadd C dL_law_265 ?_
        refine L_sld C hX hbl hbA (7 * j + 1) (nI_add _ _) (by omega) (by omega) dL_law_266 ?_
        refine L_aload_n C dL_law_267 rfl ?_
        refine L_iload C dL_law_268 rfl ?_
        refine L_iconst C (v := nI 2) dL_law_270 (by decide +kernel) ?_
        refine L_iadd C dL_law_271 ?_
        refine L_sld C hX hbl hbA (7 * j + 2) (nI_add _ _) (by omega) (by omega) dL_law_272 ?_
        refine L_aload_n C dL_law_273 rfl ?_
        refine L_iload C dL_law_274 rfl ?_
        refine L_iconst C (v := nI 3) dL_law_276 (by decide +kernel) ?_
        refine L_iadd C dL_law_277 ?_
        refine L_sld C hX hbl hbA (7 * j + 3) (nI_add _ _) (by omega) (by omega) dL_law_278 ?_
        refine L_rf C (fun S I J h1 h2 => m_dust h1 h2 hO.r (xs' (7 * j + 1)) (xs' (7 * j + 2)) (xs' (7 * j + 3))) (fun _ => rfl) (nrv_a ⟨fun _ => rfl, fun _ => rfl, fun _ => rfl, trivial⟩) mi_X7_dust ml_L_33 rfl rfl (by decide) ⟨(by show nc + 0 ≤ 601024; omega), (by show ns + 0 ≤ 7293034; omega)⟩ (Nat.le_of_ble_eq_true rfl) rfl dL_law_279 ?_
        exact L_icmp_eq C 1138 dL_law_282 (by decide) (fun _ => nx _ _ _ _ _ _ (by show nc + 0 ≤ nc + 66; omega) (by show ns + 0 ≤ ns + 739; omega) (ok_dust hO _ _ _)) (fun h => absurd rfl h)
      | 3, _ =>
        refine L_swIn C 287 dL_law_40 (by decide) (by decide) (off := 247) (by decide +kernel) (by decide) ?_
        refine L_aload_n C dL_law_287 rfl ?_
        refine L_aload_n C dL_law_288 rfl ?_
        refine L_iload C dL_law_289 rfl ?_
        refine L_iconst C (v := nI 1) dL_law_291 (by decide +kernel) ?_
        refine L_iadd C dL_law_292 ?_
        refine L_sld C hX hbl hbA (7 * j + 1) (nI_add _ _) (by omega) (by omega) dL_law_293 ?_
        refine L_aload_n C dL_law_294 rfl ?_
        refine L_iload C dL_law_295 rfl ?_
        refine L_iconst C (v := nI 2) dL_law_297 (by decide +kernel) ?_
        refine L_iadd C dL_law_298 ?_
        refine L_sld C hX hbl hbA (7 * j + 2) (nI_add _ _) (by omega) (by omega) dL_law_299 ?_
        refine L_aload_n C dL_law_300 rfl ?_
        refine L_iload C dL_law_301 rfl ?_
        refine L_iconst C (v := nI 3) dL_law_303 (by decide +kernel) ?_
        refine L_iadd C dL_law_304 ?_
        refine L_sld C hX hbl hbA (7 * j + 3) (nI_add _ _) (by omega) (by omega) dL_law_305 ?_
        refine L_cls C (fun S I J h => f_star h hO (xs' (7 * j + 1)) (xs' (7 * j + 2)) (xs' (7 * j + 3))) ⟨trivial, fun _ _ => trivial⟩ (fun _ => rfl) (nrv_a ⟨fun _ => rfl, fun _ => rfl, fun _ => rfl, trivial⟩) mi_X6_star ml_L_34 rfl rfl (by decide) ⟨(by show nc + 0 ≤ 601024; omega), (by show ns + 0 ≤ 7293034; omega)⟩ (Nat.le_of_ble_eq_true rfl) rfl dL_law_306 ?_
        refine L_aload_n C dL_law_309 rfl ?_
        refine L_aload_n C dL_law_310 rfl ?_
        refine L_iload C dL_law_311 rfl ?_
        refine L_iconst C (v := nI 1) dL_law_313 (by decide +kernel) ?_
        refine L_iadd C dL_law_314 ?_
        refine L_sld C hX hbl hbA (7 * j + 1) (nI_add _ _) (by omega) (by omega) dL_law_315 ?_
        refine L_aload_n C dL_law_316 rfl ?_
        refine L_iload C dL_law_317 rfl ?_
        refine L_iconst C (v := nI 2) dL_law_319 (by decide +kernel) ?_
        refine L_iadd C dL_law_320 ?_
        refine L_sld C hX hbl hbA (7 * j + 2) (nI_add _ _) (by omega) (by omega) dL_law_321 ?_
        refine L_aload_n C dL_law_322 rfl ?_
        refine L_iload C dL_law_323 rfl ?_
        refine L_iconst C (v := nI 3) dL_law_325 (by decide +kernel) ?_
        refine L_iadd C dL_law_326 ?_
        refine L_sld C hX hbl hbA (7 * j + 3) (nI_add _ _) (by omega) (by omega) dL_law_327 ?_
        refine L_rf C (fun S I J h1 h2 => m_star h1 h2 (xs' (7 * j + 1)) (xs' (7 * j + 2)) (xs' (7 * j + 3))) (fun _ => rfl) (nrv_a ⟨fun _ => rfl, fun _ => rfl, fun _ => rfl, trivial⟩) mi_X7_star ml_L_37 rfl rfl (by decide) ⟨(by show nc + 0 ≤ 601024; omega), (by show ns + 0 ≤ 7293034; omega)⟩ (Nat.le_of_ble_eq_true rfl) rfl dL_law_328 ?_
        exact L_icmp_eq C 1138 dL_law_331 (by decide) (fun _ => nx _ _ _ _ _ _ (by show nc + 0 ≤ nc + 66; omega) (by show ns + 0 ≤ ns + 739; omega) (ok_star hO _ _ _)) (fun h => absurd rfl h)
      | 4, _ =>
        refine L_swIn C 336 dL_law_40 (by decide) (by decide) (off := 296) (by decide +kernel) (by decide) ?_
        refine L_aload_n C dL_law_336 rfl ?_
        refine L_aload_n C dL_law_337 rfl ?_
        refine L_iload C dL_law_338 rfl ?_
        refine L_iconst C (v := nI 1) dL_law_340 (by decide +kernel) ?_
        refine L_iadd C dL_law_341 ?_
        refine L_sld C hX hbl hbA (7 * j + 1) (nI_add _ _) (by omega) (by omega) dL_law_342 ?_
        refine L_cls C (fun S I J h => f_seed h hO (xs' (7 * j + 1))) ⟨trivial, fun _ _ => trivial⟩ (fun _ => rfl) (nrv_a ⟨fun _ => rfl, trivial⟩) mi_X6_seed ml_L_38 rfl rfl (by decide) ⟨(by show nc + 0 ≤ 601024; omega), (by show ns + 0 ≤ 7293034; omega)⟩ (Nat.le_of_ble_eq_true rfl) rfl dL_law_343 ?_
        refine L_aload_n C dL_law_346 rfl ?_
        refine L_aload_n C dL_law_347 rfl ?_
        refine L_iload C dL_law_348 rfl ?_
        refine L_iconst C (v := nI 1) dL_law_350 (by decide +kernel) ?_
        refine L_iadd C dL_law_351 ?_
        refine L_sld C hX hbl hbA (7 * j + 1) (nI_add _ _) (by omega) (by omega) dL_law_352 ?_
        refine L_rf C (fun S I J h1 h2 => m_seed h1 h2 (xs' (7 * j + 1))) (fun _ => rfl) (nrv_a ⟨fun _ => rfl, trivial⟩) mi_X7_seed ml_L_41 rfl rfl (by decide) ⟨(by show nc + 0 ≤ 601024; omega), (by show ns + 0 ≤ 7293034; omega)⟩ (Nat.le_of_ble_eq_true rfl) rfl dL_law_353 ?_
        exact L_icmp_eq C 1138 dL_law_356 (by decide) (fun _ => nx _ _ _ _ _ _ (by show nc + 0 ≤ nc + 66; omega) (by show ns + 0 ≤ ns + 739; omega) (ok_seed hO _)) (fun h => absurd rfl h)
      | 5, _ =>
        refine L_swIn C 361 dL_law_40 (by decide) (by decide) (off := 321) (by decide +kernel) (by decide) ?_
        refine L_aload_n C dL_law_361 rfl ?_
        refine L_aload_n C dL_law_362 rfl ?_
        refine L_iload C dL_law_363 rfl ?_
        refine L_iconst C (v := nI 1) dL_law_365 (by decide +kernel) ?_
        refine L_iadd C dL_law_366 ?_
        refine L_sld C hX hbl hbA (7 * j + 1) (nI_add _ _) (by omega) (by omega) dL_law_367 ?_
        refine L_i2l C dL_law_368 ?_
        refine L_bipush C (v := nI 32) dL_law_369 (by decide +kernel) ?_
        refine L_lshl C dL_law_371 ?_
        refine L_aload_n C dL_law_372 rfl ?_
        refine L_iload C dL_law_373 rfl ?_
        refine L_iconst C (v := nI 2) dL_law_375 (by decide +kernel) ?_
        refine L_iadd C dL_law_376 ?_
        refine L_sld C hX hbl hbA (7 * j + 2) (nI_add _ _) (by omega) (by omega) dL_law_377 ?_
        refine L_i2l C dL_law_378 ?_
        refine L_ldc2 C dL_law_379 kl_L_42 ?_
        refine L_land C dL_law_382 ?_
        refine L_lor C dL_law_383 ?_
        refine L_aload_n C dL_law_384 rfl ?_
        refine L_iload C dL_law_385 rfl ?_
        refine L_iconst C (v := nI 3) dL_law_387 (by decide +kernel) ?_
        refine L_iadd C dL_law_388 ?_
        refine L_sld C hX hbl hbA (7 * j + 3) (nI_add _ _) (by omega) (by omega) dL_law_389 ?_
        refine L_i2l C dL_law_390 ?_
        refine L_bipush C (v := nI 32) dL_law_391 (by decide +kernel) ?_
        refine L_lshl C dL_law_393 ?_
        refine L_aload_n C dL_law_394 rfl ?_
        refine L_iload C dL_law_395 rfl ?_
        refine L_iconst C (v := nI 4) dL_law_397 (by decide +kernel) ?_
        refine L_iadd C dL_law_398 ?_
        refine L_sld C hX hbl hbA (7 * j + 4) (nI_add _ _) (by omega) (by omega) dL_law_399 ?_
        refine L_i2l C dL_law_400 ?_
        refine L_ldc2 C dL_law_401 kl_L_42 ?_
        refine L_land C dL_law_404 ?_
        refine L_lor C dL_law_405 ?_
        refine L_aload_n C dL_law_406 rfl ?_
        refine L_iload C dL_law_407 rfl ?_
        refine L_iconst C (v := nI 5) dL_law_409 (by decide +kernel) ?_
        refine L_iadd C dL_law_410 ?_
        refine L_sld C hX hbl hbA (7 * j + 5) (nI_add _ _) (by omega) (by omega) dL_law_411 ?_
        refine L_i2l C dL_law_412 ?_
        refine L_bipush C (v := nI 32) dL_law_413 (by decide +kernel) ?_
        refine L_lshl C dL_law_415 ?_
        refine L_aload_n C dL_law_416 rfl ?_
        refine L_iload C dL_law_417 rfl ?_
        refine L_bipush C (v := nI 6) dL_law_419 (by decide +kernel) ?_
        refine L_iadd C dL_law_421 ?_
        refine L_sld C hX hbl hbA (7 * j + 6) (nI_add _ _) (by omega) (by omega) dL_law_422 ?_
        refine L_i2l C dL_law_423 ?_
        refine L_ldc2 C dL_law_424 kl_L_42 ?_
        refine L_land C dL_law_427 ?_
        refine L_lor C dL_law_428 ?_
        refine L_cls C (fun S I J h => f_feed h hO _ _ _) ⟨trivial, fun _ _ => trivial⟩ (fun _ => rfl) (nrv_a ⟨fun _ => rfl, fun _ => rfl, fun _ => rfl, trivial⟩) mi_X6_feed ml_L_44 rfl rfl (by decide) ⟨(by show nc + 0 ≤ 601024; omega), (by show ns + 0 ≤ 7293034; omega)⟩ (Nat.le_of_ble_eq_true rfl) rfl dL_law_429 ?_
        refine L_aload_n C dL_law_432 rfl ?_
        refine L_aload_n C dL_law_433 rfl ?_
        refine L_iload C dL_law_434 rfl ?_
        refine L_iconst C (v := nI 1) dL_law_436 (by decide +kernel) ?_
        refine L_iadd C dL_law_437 ?_
        refine L_sld C hX hbl hbA (7 * j + 1) (nI_add _ _) (by omega) (by omega) dL_law_438 ?_
        refine L_i2l C dL_law_439 ?_
        refine L_bipush C (v := nI 32) dL_law_440 (by decide +kernel) ?_
        refine L_lshl C dL_law_442 ?_
        refine L_aload_n C dL_law_443 rfl ?_
        refine L_iload C dL_law_444 rfl ?_
        refine L_iconst C (v := nI 2) dL_law_446 (by decide +kernel) ?_
        refine L_iadd C dL_law_447 ?_
        refine L_sld C hX hbl hbA (7 * j + 2) (nI_add _ _) (by omega) (by omega) dL_law_448 ?_
        refine L_i2l C dL_law_449 ?_
        refine L_ldc2 C dL_law_450 kl_L_42 ?_
        refine L_land C dL_law_453 ?_
        refine L_lor C dL_law_454 ?_
        refine L_aload_n C dL_law_455 rfl ?_
        refine L_iload C dL_law_456 rfl ?_
        refine L_iconst C (v := nI 3) dL_law_458 (by decide +kernel) ?_
        refine L_iadd C dL_law_459 ?_
        refine L_sld C hX hbl hbA (7 * j + 3) (nI_add _ _) (by omega) (by omega) dL_law_460 ?_
        refine L_i2l C dL_law_461 ?_
        refine L_bipush C (v := nI 32) dL_law_462 (by decide +kernel) ?_
        refine L_lshl C dL_law_464 ?_
        refine L_aload_n C dL_law_465 rfl ?_
        refine L_iload C dL_law_466 rfl ?_
        refine L_iconst C (v := nI 4) dL_law_468 (by decide +kernel) ?_
        refine L_iadd C dL_law_469 ?_
        refine L_sld C hX hbl hbA (7 * j + 4) (nI_add _ _) (by omega) (by omega) dL_law_470 ?_
        refine L_i2l C dL_law_471 ?_
        refine L_ldc2 C dL_law_472 kl_L_42 ?_
        refine L_land C dL_law_475 ?_
        refine L_lor C dL_law_476 ?_
        refine L_aload_n C dL_law_477 rfl ?_
        refine L_iload C dL_law_478 rfl ?_
        refine L_iconst C (v := nI 5) dL_law_480 (by decide +kernel) ?_
        refine L_iadd C dL_law_481 ?_
        refine L_sld C hX hbl hbA (7 * j + 5) (nI_add _ _) (by omega) (by omega) dL_law_482 ?_
        refine L_i2l C dL_law_483 ?_
        refine L_bipush C (v := nI 32) dL_law_484 (by decide +kernel) ?_
        refine L_lshl C dL_law_486 ?_
        refine L_aload_n C dL_law_487 rfl ?_
        refine L_iload C dL_law_488 rfl ?_
        refine L_bipush C (v := nI 6) dL_law_490 (by decide +kernel) ?_
        refine L_iadd C dL_law_492 ?_
        refine L_sld C hX hbl hbA (7 * j + 6) (nI_add _ _) (by omega) (by omega) dL_law_493 ?_
        refine L_i2l C dL_law_494 ?_
        refine L_ldc2 C dL_law_495 kl_L_42 ?_
        refine L_land C dL_law_498 ?_
        refine L_lor C dL_law_499 ?_
        refine L_rf C (fun S I J h1 h2 => m_feed h1 h2 hO.r _ _ _) (fun _ => rfl) (nrv_a ⟨fun _ => rfl, fun _ => rfl, fun _ => rfl, trivial⟩) mi_X7_feed ml_L_48 rfl rfl (by decide) ⟨(by show nc + 0 ≤ 601024; omega), (by show ns + 0 ≤ 7293034; omega)⟩ (Nat.le_of_ble_eq_true rfl) rfl dL_law_500 ?_
        exact L_icmp_eq C 1138 dL_law_503 (by decide) (fun _ => nx _ _ _ _ _ _ (by show nc + 0 ≤ nc + 66; omega) (by show ns + 0 ≤ ns + 739; omega) (ok_feed hO _ _ _)) (fun h => absurd rfl h)
      | 6, _ =>
        refine L_swIn C 508 dL_law_40 (by decide) (by decide) (off := 468) (by decide +kernel) (by decide) ?_
        refine L_aload_n C dL_law_508 rfl ?_
        refine L_cls C (fun S I J h => f_laws h hO) ⟨trivial, fun _ _ => trivial⟩ (fun _ => rfl) (nrv_a trivial) mi_X6_laws ml_L_49 rfl rfl (by decide) ⟨(by show nc + 0 ≤ 601024; omega), (by show ns + 0 ≤ 7293034; omega)⟩ (Nat.le_of_ble_eq_true rfl) rfl dL_law_509 ?_
        refine L_aload_n C dL_law_512 rfl ?_
        refine L_rf C (fun S I J h1 h2 => m_laws h1 h2 hO.r) (fun _ => rfl) (nrv_a trivial) mi_X7_laws ml_L_53 rfl rfl (by decide) ⟨(by show nc + 0 ≤ 601024; omega), (by show ns + 0 ≤ 7293034; omega)⟩ (Nat.le_of_ble_eq_true rfl) rfl dL_law_513 ?_
        exact L_icmp_eq C 1138 dL_law_516 (by decide) (fun _ => nx _ _ _ _ _ _ (by show nc + 0 ≤ nc + 66; omega) (by show ns + 0 ≤ ns + 739; omega) (ok_laws hO)) (fun h => absurd rfl h)
      | 7, _ =>
        refine L_swIn C 521 dL_law_40 (by decide) (by decide) (off := 481) (by decide +kernel) (by decide) ?_
        refine L_aload_n C dL_law_521 rfl ?_
        refine L_aload_n C dL_law_522 rfl ?_
        refine L_iload C dL_law_523 rfl ?_
        refine L_iconst C (v := nI 1) dL_law_525 (by decide +kernel) ?_
        refine L_iadd C dL_law_526 ?_
        refine L_sld C hX hbl hbA (7 * j + 1) (nI_add _ _) (by omega) (by omega) dL_law_527 ?_
        refine L_cls C (fun S I J h => f_end h hO (xs' (7 * j + 1))) ⟨trivial, fun _ _ => trivial⟩ (fun _ => rfl) (nrv_a ⟨fun _ => rfl, trivial⟩) mi_X6_end ml_L_54 rfl rfl (by decide) ⟨(by show nc + 0 ≤ 601024; omega), (by show ns + 0 ≤ 7293034; omega)⟩ (Nat.le_of_ble_eq_true rfl) rfl dL_law_528 ?_
        refine L_aload_n C dL_law_531 rfl ?_
        refine L_aload_n C dL_law_532 rfl ?_
        refine L_iload C dL_law_533 rfl ?_
        refine L_iconst C (v := nI 1) dL_law_535 (by decide +kernel) ?_
        refine L_iadd C dL_law_536 ?_
        refine L_sld C hX hbl hbA (7 * j + 1) (nI_add _ _) (by omega) (by omega) dL_law_537 ?_
        refine L_rf C (fun S I J h1 h2 => m_end h1 h2 (xs' (7 * j + 1))) (fun _ => rfl) (nrv_a ⟨fun _ => rfl, trivial⟩) mi_X7_end ml_L_57 rfl rfl (by decide) ⟨(by show nc + 0 ≤ 601024; omega), (by show ns + 0 ≤ 7293034; omega)⟩ (Nat.le_of_ble_eq_true rfl) rfl dL_law_538 ?_
        exact L_icmp_eq C 1138 dL_law_541 (by decide) (fun _ => nx _ _ _ _ _ _ (by show nc + 0 ≤ nc + 66; omega) (by show ns + 0 ≤ ns + 739; omega) (ok_end hO _)) (fun h => absurd rfl h)
      | 8, _ =>
        refine L_swIn C 546 dL_law_40 (by decide) (by decide) (off := 506) (by decide +kernel) (by decide) ?_
        refine L_aload_n C dL_law_546 rfl ?_
        refine L_aload_n C dL_law_547 rfl ?_
        refine L_iload C dL_law_548 rfl ?_
        refine L_iconst C (v := nI 1) dL_law_550 (by decide +kernel) ?_
        refine L_iadd C dL_law_551 ?_
        refine L_sld C hX hbl hbA (7 * j + 1) (nI_add _ _) (by omega) (by omega) dL_law_552 ?_
        refine L_cls C (fun S I J h => f_steps h hO (xs' (7 * j + 1))) ⟨trivial, fun _ _ => trivial⟩ (fun _ => rfl) (nrv_a ⟨fun _ => rfl, trivial⟩) mi_X6_steps ml_L_58 rfl rfl (by decide) ⟨(by show nc + 0 ≤ 601024; omega), (by show ns + 0 ≤ 7293034; omega)⟩ (Nat.le_of_ble_eq_true rfl) rfl dL_law_553 ?_
        refine L_aload_n C dL_law_556 rfl ?_
        refine L_aload_n C dL_law_557 rfl ?_
        refine L_iload C dL_law_558 rfl ?_
        refine L_iconst C (v := nI 1) dL_law_560 (by decide +kernel) ?_
        refine L_iadd C dL_law_561 ?_
        refine L_sld C hX hbl hbA (7 * j + 1) (nI_add _ _) (by omega) (by omega) dL_law_562 ?_
        refine L_rf C (fun S I J h1 h2 => m_steps h1 h2 hO.r (xs' (7 * j + 1))) (fun _ => rfl) (nrv_a ⟨fun _ => rfl, trivial⟩) mi_X7_steps ml_L_62 rfl rfl (by decide) ⟨(by show nc + 0 ≤ 601024; omega), (by show ns + 0 ≤ 7293034; omega)⟩ (Nat.le_of_ble_eq_true rfl) rfl dL_law_563 ?_
        exact L_icmp_eq C 1138 dL_law_566 (by decide) (fun _ => nx _ _ _ _ _ _ (by show nc + 0 ≤ nc + 66; omega) (by show ns + 0 ≤ ns + 739; omega) (ok_steps hO _)) (fun h => absurd rfl h)
      | 9, _ =>
        refine L_swIn C 571 dL_law_40 (by decide) (by decide) (off := 531) (by decide +kernel) (by decide) ?_
        refine L_aload_n C dL_law_571 rfl ?_
        refine L_aload_n C dL_law_572 rfl ?_
        refine L_iload C dL_law_573 rfl ?_
        refine L_iconst C (v := nI 1) dL_law_575 (by decide +kernel) ?_
        refine L_iadd C dL_law_576 ?_
        refine L_sld C hX hbl hbA (7 * j + 1) (nI_add _ _) (by omega) (by omega) dL_law_577 ?_
        refine L_aload_n C dL_law_578 rfl ?_
        refine L_iload C dL_law_579 rfl ?_
        refine L_iconst C (v := nI 2) dL_law_581 (by decide +kernel) ?_
        refine L_iadd C dL_law_582 ?_
        refine L_sld C hX hbl hbA (7 * j + 2) (nI_add _ _) (by omega) (by omega) dL_law_583 ?_
        refine L_aload_n C dL_law_584 rfl ?_
        refine L_hs C rfl htr hO hZ (by decide) ⟨(by show nc + 1 ≤ 601024; omega), (by show ns + 6 ≤ 7293034; omega)⟩ (Nat.le_of_ble_eq_true rfl) rfl dL_law_585 ?_
        refine L_istore C dL_law_588 (hn _ (by decide)) ?_
        refine L_aload_n C dL_law_590 rfl ?_
        refine L_aload_n C dL_law_591 rfl ?_
        refine L_iload C dL_law_592 rfl ?_
        refine L_iconst C (v := nI 1) dL_law_594 (by decide +kernel) ?_
        refine L_iadd C dL_law_595 ?_
        refine L_sld C hX hbl hbA (7 * j + 1) (nI_add _ _) (by omega) (by omega) dL_law_596 ?_
        refine L_aload_n C dL_law_597 rfl ?_
        refine L_iload C dL_law_598 rfl ?_
        refine L_iconst C (v := nI 2) dL_law_600 (by decide +kernel) ?_
        refine L_iadd C dL_law_601 ?_
        refine L_sld C hX hbl hbA (7 * j + 2) (nI_add _ _) (by omega) (by omega) dL_law_602 ?_
        refine L_rh C hO.r ml_L_68 (by decide) ⟨(by show nc + 1 ≤ 601024; omega), (by show ns + 6 ≤ 7293034; omega)⟩ (Nat.le_of_ble_eq_true rfl) rfl dL_law_603 (fun x hx => ?_)
        refine L_istore C dL_law_606 (hn _ (by decide)) ?_
        refine L_aload_n C dL_law_608 rfl ?_
        refine L_rt C ml_L_69 (by decide) ⟨(by show nc + 1 ≤ 601024; omega), (by show ns + 6 ≤ 7293034; omega)⟩ (Nat.le_of_ble_eq_true rfl) rfl dL_law_609 ?_
        refine L_iload C dL_law_612 rfl ?_
        by_cases ok : okHas z (xs' (7 * j + 1)) (xs' (7 * j + 2))
        · have e1 : bI (¬ okHas z (xs' (7 * j + 1)) (xs' (7 * j + 2))) = (if okHas z (xs' (7 * j + 1)) (xs' (7 * j + 2)) then nI 0 else nI 1) := by rw [if_pos ok]; exact bI_f (fun h => h ok)
          refine L_icmp_eq C 619 dL_law_614 (by decide) (fun _ => ?_) (fun h => absurd e1 h)
          refine L_iload C dL_law_619 rfl ?_
          refine L_if_ne C 636 dL_law_621 (by decide) (fun h => absurd (by rw [if_pos ok]; rfl) h) (fun _ => ?_)
          refine L_aload_n C dL_law_624 rfl ?_
          refine L_iconst C (v := nI 0) dL_law_625 (by decide +kernel) ?_
          refine L_lald C dL_law_626 ?_
          refine L_iload C dL_law_627 rfl ?_
          refine L_i2l C dL_law_629 ?_
          refine L_lcmp C dL_law_630 ?_
          have e2 : lg_cmp (hsO z (xs' (7 * j + 1)) (xs' (7 * j + 2)) o 0) x.toInt64 = 0 := by
            rw [hx ok, lg_cmp_eq]
            unfold hsO
            rw [if_pos ok]
            rfl
          refine L_if_eq C 636 dL_law_631 (by decide) (fun _ => ?_) (fun h => absurd e2 h)
          refine L_goto C 1138 dL_law_636 (by decide) ?_
          exact nx _ _ _ _ _ _ (by show nc + 1 ≤ nc + 66; omega) (by show ns + 6 ≤ ns + 739; omega) hO
        · have e1 : bI (¬ okHas z (xs' (7 * j + 1)) (xs' (7 * j + 2))) = (if okHas z (xs' (7 * j + 1)) (xs' (7 * j + 2)) then nI 0 else nI 1) := by rw [if_neg ok]; exact bI_t ok
          refine L_icmp_eq C 619 dL_law_614 (by decide) (fun _ => ?_) (fun h => absurd e1 h)
          refine L_iload C dL_law_619 rfl ?_
          refine L_if_ne C 636 dL_law_621 (by decide) (fun _ => ?_) (fun h => absurd h (by rw [if_neg ok]; decide))
          refine L_goto C 1138 dL_law_636 (by decide) ?_
          exact nx _ _ _ _ _ _ (by show nc + 1 ≤ nc + 66; omega) (by show ns + 6 ≤ ns + 739; omega) hO
      | 10, _ =>
        refine L_swIn C 639 dL_law_40 (by decide) (by decide) (off := 599) (by decide +kernel) (by decide) ?_
        refine L_aload_n C dL_law_639 rfl ?_
        refine L_aload_n C dL_law_640 rfl ?_
        refine L_iload C dL_law_641 rfl ?_
        refine L_iconst C (v := nI 1) dL_law_643 (by decide +kernel) ?_
        refine L_iadd C dL_law_644 ?_
        refine L_sld C hX hbl hbA (7 * j + 1) (nI_add _ _) (by omega) (by omega) dL_law_645 ?_
        refine L_aload_n C dL_law_646 rfl ?_
        refine L_iload C dL_law_647 rfl ?_
        refine L_iconst C (v := nI 2) dL_law_649 (by decide +kernel) ?_
        refine L_iadd C dL_law_650 ?_
        refine L_sld C hX hbl hbA (7 * j + 2) (nI_add _ _) (by omega) (by omega) dL_law_651 ?_
        refine L_cls C (fun S I J h => f_look h hO (xs' (7 * j + 1)) (xs' (7 * j + 2))) ⟨trivial, fun _ _ => trivial⟩ (fun _ => rfl) (nrv_a ⟨fun _ => rfl, fun _ => rfl, trivial⟩) mi_X6_look ml_L_72 rfl rfl (by decide) ⟨(by show nc + 0 ≤ 601024; omega), (by show ns + 0 ≤ 7293034; omega)⟩ (Nat.le_of_ble_eq_true rfl) rfl dL_law_652 ?_
        refine L_aload_n C dL_law_655 rfl ?_
        refine L_aload_n C dL_law_656 rfl ?_
        refine L_iload C dL_law_657 rfl ?_
        refine L_iconst C (v := nI 1) dL_law_659 (by decide +kernel) ?_
        refine L_iadd C dL_law_660 ?_
        refine L_sld C hX hbl hbA (7 * j + 1) (nI_add _ _) (by omega) (by omega) dL_law_661 ?_
        refine L_aload_n C dL_law_662 rfl ?_
        refine L_iload C dL_law_663 rfl ?_
        refine L_iconst C (v := nI 2) dL_law_665 (by decide +kernel) ?_
        refine L_iadd C dL_law_666 ?_
        refine L_sld C hX hbl hbA (7 * j + 2) (nI_add _ _) (by omega) (by omega) dL_law_667 ?_
        refine L_rf C (fun S I J h1 h2 => m_look h1 h2 hO.r (xs' (7 * j + 1)) (xs' (7 * j + 2))) (fun _ => rfl) (nrv_a ⟨fun _ => rfl, fun _ => rfl, trivial⟩) mi_X7_look ml_L_75 rfl rfl (by decide) ⟨(by show nc + 0 ≤ 601024; omega), (by show ns + 0 ≤ 7293034; omega)⟩ (Nat.le_of_ble_eq_true rfl) rfl dL_law_668 ?_
        exact L_icmp_eq C 1138 dL_law_671 (by decide) (fun _ => nx _ _ _ _ _ _ (by show nc + 0 ≤ nc + 66; omega) (by show ns + 0 ≤ ns + 739; omega) (hO)) (fun h => absurd rfl h)
      | 11, _ =>
        refine L_swIn C 676 dL_law_40 (by decide) (by decide) (off := 636) (by decide +kernel) (by decide) ?_
        refine L_aload_n C dL_law_676 rfl ?_
        refine L_aload_n C dL_law_677 rfl ?_
        refine L_iload C dL_law_678 rfl ?_
        refine L_iconst C (v := nI 1) dL_law_680 (by decide +kernel) ?_
        refine L_iadd C dL_law_681 ?_
        refine L_sld C hX hbl hbA (7 * j + 1) (nI_add _ _) (by omega) (by omega) dL_law_682 ?_
        refine L_aload_n C dL_law_683 rfl ?_
        refine L_iload C dL_law_684 rfl ?_
        refine L_iconst C (v := nI 2) dL_law_686 (by decide +kernel) ?_
        refine L_iadd C dL_law_687 ?_
        refine L_sld C hX hbl hbA (7 * j + 2) (nI_add _ _) (by omega) (by omega) dL_law_688 ?_
        refine L_cls C (fun S I J h => f_made h hO (xs' (7 * j + 1)) (xs' (7 * j + 2))) ⟨trivial, fun _ _ => trivial⟩ (fun _ => rfl) (nrv_a ⟨fun _ => rfl, fun _ => rfl, trivial⟩) mi_X6_made ml_L_76 rfl rfl (by decide) ⟨(by show nc + 0 ≤ 601024; omega), (by show ns + 0 ≤ 7293034; omega)⟩ (Nat.le_of_ble_eq_true rfl) rfl dL_law_689 ?_
        refine L_aload_n C dL_law_692 rfl ?_
        refine L_aload_n C dL_law_693 rfl ?_
        refine L_iload C dL_law_694 rfl ?_
        refine L_iconst C (v := nI 1) dL_law_696 (by decide +kernel) ?_
        refine L_iadd C dL_law_697 ?_
        refine L_sld C hX hbl hbA (7 * j + 1) (nI_add _ _) (by omega) (by omega) dL_law_698 ?_
        refine L_aload_n C dL_law_699 rfl ?_
        refine L_iload C dL_law_700 rfl ?_
        refine L_iconst C (v := nI 2) dL_law_702 (by decide +kernel) ?_
        refine L_iadd C dL_law_703 ?_
        refine L_sld C hX hbl hbA (7 * j + 2) (nI_add _ _) (by omega) (by omega) dL_law_704 ?_
        refine L_rf C (fun S I J h1 h2 => m_made h1 h2 hO.r (xs' (7 * j + 1)) (xs' (7 * j + 2))) (fun _ => rfl) (nrv_a ⟨fun _ => rfl, fun _ => rfl, trivial⟩) mi_X7_made ml_L_79 rfl rfl (by decide) ⟨(by show nc + 0 ≤ 601024; omega), (by show ns + 0 ≤ 7293034; omega)⟩ (Nat.le_of_ble_eq_true rfl) rfl dL_law_705 ?_
        exact L_icmp_eq C 1138 dL_law_708 (by decide) (fun _ => nx _ _ _ _ _ _ (by show nc + 0 ≤ nc + 66; omega) (by show ns + 0 ≤ ns + 739; omega) (hO)) (fun h => absurd rfl h)
      | 12, _ =>
        refine L_swIn C 713 dL_law_40 (by decide) (by decide) (off := 673) (by decide +kernel) (by decide) ?_
        refine L_aload_n C dL_law_713 rfl ?_
        refine L_aload_n C dL_law_714 rfl ?_
        refine L_iload C dL_law_715 rfl ?_
        refine L_iconst C (v := nI 1) dL_law_717 (by decide +kernel) ?_
        refine L_iadd C dL_law_718 ?_
        refine L_sld C hX hbl hbA (7 * j + 1) (nI_add _ _) (by omega) (by omega) dL_law_719 ?_
        refine L_cls C (fun S I J h => f_parts h hO (xs' (7 * j + 1))) ⟨trivial, fun _ _ => trivial⟩ (fun _ => rfl) (nrv_a ⟨fun _ => rfl, trivial⟩) mi_X6_parts ml_L_80 rfl rfl (by decide) ⟨(by show nc + 0 ≤ 601024; omega), (by show ns + 0 ≤ 7293034; omega)⟩ (Nat.le_of_ble_eq_true rfl) rfl dL_law_720 ?_
        refine L_aload_n C dL_law_723 rfl ?_
        refine L_aload_n C dL_law_724 rfl ?_
        refine L_iload C dL_law_725 rfl ?_
        refine L_iconst C (v := nI 1) dL_law_727 (by decide +kernel) ?_
        refine L_iadd C dL_law_728 ?_
        refine L_sld C hX hbl hbA (7 * j + 1) (nI_add _ _) (by omega) (by omega) dL_law_729 ?_
        refine L_rf C (fun S I J h1 h2 => m_parts h1 h2 hO.r (xs' (7 * j + 1))) (fun _ => rfl) (nrv_a ⟨fun _ => rfl, trivial⟩) mi_X7_parts ml_L_84 rfl rfl (by decide) ⟨(by show nc + 0 ≤ 601024; omega), (by show ns + 0 ≤ 7293034; omega)⟩ (Nat.le_of_ble_eq_true rfl) rfl dL_law_730 ?_
        refine L_lcmp C dL_law_733 ?_
        exact L_if_eq C 1138 dL_law_734 (by decide) (fun _ => nx _ _ _ _ _ _ (by show nc + 0 ≤ nc + 66; omega) (by show ns + 0 ≤ ns + 739; omega) (hO)) (fun h => absurd ((lg_cmp_eq _ _).mpr rfl) h)
      | 13, _ =>
        refine L_swIn C 739 dL_law_40 (by decide) (by decide) (off := 699) (by decide +kernel) (by decide) ?_
        refine L_aload_n C dL_law_739 rfl ?_
        refine L_aload_n C dL_law_740 rfl ?_
        refine L_iload C dL_law_741 rfl ?_
        refine L_iconst C (v := nI 1) dL_law_743 (by decide +kernel) ?_
        refine L_iadd C dL_law_744 ?_
        refine L_sld C hX hbl hbA (7 * j + 1) (nI_add _ _) (by omega) (by omega) dL_law_745 ?_
        refine L_aload_n C dL_law_746 rfl ?_
        refine L_iload C dL_law_747 rfl ?_
        refine L_iconst C (v := nI 2) dL_law_749 (by decide +kernel) ?_
        refine L_iadd C dL_law_750 ?_
        refine L_sld C hX hbl hbA (7 * j + 2) (nI_add _ _) (by omega) (by omega) dL_law_751 ?_
        refine L_aload_n C dL_law_752 rfl ?_
        refine L_iload C dL_law_753 rfl ?_
        refine L_iconst C (v := nI 3) dL_law_755 (by decide +kernel) ?_
        refine L_iadd C dL_law_756 ?_
        refine L_sld C hX hbl hbA (7 * j + 3) (nI_add _ _) (by omega) (by omega) dL_law_757 ?_
        refine L_aload_n C dL_law_758 rfl ?_
        refine L_iload C dL_law_759 rfl ?_
        refine L_iconst C (v := nI 4) dL_law_761 (by decide +kernel) ?_
        refine L_iadd C dL_law_762 ?_
        refine L_sld C hX hbl hbA (7 * j + 4) (nI_add _ _) (by omega) (by omega) dL_law_763 ?_
        refine L_cls C (fun S I J h => f_asked h hO (xs' (7 * j + 1)) (xs' (7 * j + 2)) (xs' (7 * j + 3)) (xs' (7 * j + 4))) ⟨trivial, fun _ _ => trivial⟩ (fun _ => rfl) (nrv_a ⟨fun _ => rfl, fun _ => rfl, fun _ => rfl, fun _ => rfl, trivial⟩) mi_X6_asked ml_L_85 rfl rfl (by decide) ⟨(by show nc + 0 ≤ 601024; omega), (by show ns + 0 ≤ 7293034; omega)⟩ (Nat.le_of_ble_eq_true rfl) rfl dL_law_764 ?_
        refine L_aload_n C dL_law_767 rfl ?_
        refine L_aload_n C dL_law_768 rfl ?_
        refine L_iload C dL_law_769 rfl ?_
        refine L_iconst C (v := nI 1) dL_law_771 (by decide +kernel) ?_
        refine L_iadd C dL_law_772 ?_
        refine L_sld C hX hbl hbA (7 * j + 1) (nI_add _ _) (by omega) (by omega) dL_law_773 ?_
        refine L_aload_n C dL_law_774 rfl ?_
        refine L_iload C dL_law_775 rfl ?_
        refine L_iconst C (v := nI 2) dL_law_777 (by decide +kernel) ?_
        refine L_iadd C dL_law_778 ?_
        refine L_sld C hX hbl hbA (7 * j + 2) (nI_add _ _) (by omega) (by omega) dL_law_779 ?_
        refine L_aload_n C dL_law_780 rfl ?_
        refine L_iload C dL_law_781 rfl ?_
        refine L_iconst C (v := nI 3) dL_law_783 (by decide +kernel) ?_
        refine L_iadd C dL_law_784 ?_
        refine L_sld C hX hbl hbA (7 * j + 3) (nI_add _ _) (by omega) (by omega) dL_law_785 ?_
        refine L_aload_n C dL_law_786 rfl ?_
        refine L_iload C dL_law_787 rfl ?_
        refine L_iconst C (v := nI 4) dL_law_789 (by decide +kernel) ?_
        refine L_iadd C dL_law_790 ?_
        refine L_sld C hX hbl hbA (7 * j + 4) (nI_add _ _) (by omega) (by omega) dL_law_791 ?_
        refine L_rf C (fun S I J h1 h2 => m_asked h1 h2 hO.r (xs' (7 * j + 1)) (xs' (7 * j + 2)) (xs' (7 * j + 3)) (xs' (7 * j + 4))) (fun _ => rfl) (nrv_a ⟨fun _ => rfl, fun _ => rfl, fun _ => rfl, fun _ => rfl, trivial⟩) mi_X7_asked ml_L_89 rfl rfl (by decide) ⟨(by show nc + 0 ≤ 601024; omega), (by show ns + 0 ≤ 7293034; omega)⟩ (Nat.le_of_ble_eq_true rfl) rfl dL_law_792 ?_
        exact L_icmp_eq C 1138 dL_law_795 (by decide) (fun _ => nx _ _ _ _ _ _ (by show nc + 0 ≤ nc + 66; omega) (by show ns + 0 ≤ ns + 739; omega) (hO)) (fun h => absurd rfl h)
      | 14, _ =>
        refine L_swIn C 800 dL_law_40 (by decide) (by decide) (off := 760) (by decide +kernel) (by decide) ?_
        refine L_aload_n C dL_law_800 rfl ?_
        refine L_aload_n C dL_law_801 rfl ?_
        refine L_iload C dL_law_802 rfl ?_
        refine L_iconst C (v := nI 1) dL_law_804 (by decide +kernel) ?_
        refine L_iadd C dL_law_805 ?_
        refine L_sld C hX hbl hbA (7 * j + 1) (nI_add _ _) (by omega) (by omega) dL_law_806 ?_
        refine L_aload_n C dL_law_807 rfl ?_
        refine L_iload C dL_law_808 rfl ?_
        refine L_iconst C (v := nI 2) dL_law_810 (by decide +kernel) ?_
        refine L_iadd C dL_law_811 ?_
        refine L_sld C hX hbl hbA (7 * j + 2) (nI_add _ _) (by omega) (by omega) dL_law_812 ?_
        refine L_aload_n C dL_law_813 rfl ?_
        refine L_iload C dL_law_814 rfl ?_
        refine L_iconst C (v := nI 3) dL_law_816 (by decide +kernel) ?_
        refine L_iadd C dL_law_817 ?_
        refine L_sld C hX hbl hbA (7 * j + 3) (nI_add _ _) (by omega) (by omega) dL_law_818 ?_
        refine L_cls C (fun S I J h => f_sure h hO (xs' (7 * j + 1)) (xs' (7 * j + 2)) (xs' (7 * j + 3))) ⟨trivial, fun _ _ => trivial⟩ (fun _ => rfl) (nrv_a ⟨fun _ => rfl, fun _ => rfl, fun _ => rfl, trivial⟩) mi_X6_sure ml_L_90 rfl rfl (by decide) ⟨(by show nc + 0 ≤ 601024; omega), (by show ns + 0 ≤ 7293034; omega)⟩ (Nat.le_of_ble_eq_true rfl) rfl dL_law_819 ?_
        refine L_aload_n C dL_law_822 rfl ?_
        refine L_aload_n C dL_law_823 rfl ?_
        refine L_iload C dL_law_824 rfl ?_
        refine L_iconst C (v := nI 1) dL_law_826 (by decide +kernel) ?_
        refine L_iadd C dL_law_827 ?_
        refine L_sld C hX hbl hbA (7 * j + 1) (nI_add _ _) (by omega) (by omega) dL_law_828 ?_
        refine L_aload_n C dL_law_829 rfl ?_
        refine L_iload C dL_law_830 rfl ?_
        refine L_iconst C (v := nI 2) dL_law_832 (by decide +kernel) ?_
        refine L_iadd C dL_law_833 ?_
        refine L_sld C hX hbl hbA (7 * j + 2) (nI_add _ _) (by omega) (by omega) dL_law_834 ?_
        refine L_aload_n C dL_law_835 rfl ?_
        refine L_iload C dL_law_836 rfl ?_
        refine L_iconst C (v := nI 3) dL_law_838 (by decide +kernel) ?_
        refine L_iadd C dL_law_839 ?_
        refine L_sld C hX hbl hbA (7 * j + 3) (nI_add _ _) (by omega) (by omega) dL_law_840 ?_
        refine L_rf C (fun S I J h1 h2 => m_sure h1 h2 hO.r (xs' (7 * j + 1)) (xs' (7 * j + 2)) (xs' (7 * j + 3))) (fun _ => rfl) (nrv_a ⟨fun _ => rfl, fun _ => rfl, fun _ => rfl, trivial⟩) mi_X7_sure ml_L_94 rfl rfl (by decide) ⟨(by show nc + 0 ≤ 601024; omega), (by show ns + 0 ≤ 7293034; omega)⟩ (Nat.le_of_ble_eq_true rfl) rfl dL_law_841 ?_
        exact L_icmp_eq C 1138 dL_law_844 (by decide) (fun _ => nx _ _ _ _ _ _ (by show nc + 0 ≤ nc + 66; omega) (by show ns + 0 ≤ ns + 739; omega) (hO)) (fun h => absurd rfl h)
      | 15, _ =>
        refine L_swIn C 849 dL_law_40 (by decide) (by decide) (off := 809) (by decide +kernel) (by decide) ?_
        refine L_aload_n C dL_law_849 rfl ?_
        refine L_aload_n C dL_law_850 rfl ?_
        refine L_iload C dL_law_851 rfl ?_
        refine L_iconst C (v := nI 1) dL_law_853 (by decide +kernel) ?_
        refine L_iadd C dL_law_854 ?_
        refine L_sld C hX hbl hbA (7 * j + 1) (nI_add _ _) (by omega) (by omega) dL_law_855 ?_
        refine L_aload_n C dL_law_856 rfl ?_
        refine L_iload C dL_law_857 rfl ?_
        refine L_iconst C (v := nI 2) dL_law_859 (by decide +kernel) ?_
        refine L_iadd C dL_law_860 ?_
        refine L_sld C hX hbl hbA (7 * j + 2) (nI_add _ _) (by omega) (by omega) dL_law_861 ?_
        refine L_cls C (fun S I J h => f_empty h hO (xs' (7 * j + 1)) (xs' (7 * j + 2))) ⟨trivial, fun _ _ => trivial⟩ (fun _ => rfl) (nrv_a ⟨fun _ => rfl, fun _ => rfl, trivial⟩) mi_X6_empty ml_L_95 rfl rfl (by decide) ⟨(by show nc + 0 ≤ 601024; omega), (by show ns + 0 ≤ 7293034; omega)⟩ (Nat.le_of_ble_eq_true rfl) rfl dL_law_862 ?_
        refine L_aload_n C dL_law_865 rfl ?_
        refine L_aload_n C dL_law_866 rfl ?_
        refine L_iload C dL_law_867 rfl ?_
        refine L_iconst C (v := nI 1) dL_law_869 (by decide +kernel) ?_
        refine L_iadd C dL_law_870 ?_
        refine L_sld C hX hbl hbA (7 * j + 1) (nI_add _ _) (by omega) (by omega) dL_law_871 ?_
        refine L_aload_n C dL_law_872 rfl ?_
        refine L_iload C dL_law_873 rfl ?_
        refine L_iconst C (v := nI 2) dL_law_875 (by decide +kernel) ?_
        refine L_iadd C dL_law_876 ?_
        refine L_sld C hX hbl hbA (7 * j + 2) (nI_add _ _) (by omega) (by omega) dL_law_877 ?_
        refine L_rf C (fun S I J h1 h2 => m_empty h1 h2 hO.r (xs' (7 * j + 1)) (xs' (7 * j + 2))) (fun _ => rfl) (nrv_a ⟨fun _ => rfl, fun _ => rfl, trivial⟩) mi_X7_empty ml_L_98 rfl rfl (by decide) ⟨(by show nc + 0 ≤ 601024; omega), (by show ns + 0 ≤ 7293034; omega)⟩ (Nat.le_of_ble_eq_true rfl) rfl dL_law_878 ?_
        exact L_icmp_eq C 1138 dL_law_881 (by decide) (fun _ => nx _ _ _ _ _ _ (by show nc + 0 ≤ nc + 66; omega) (by show ns + 0 ≤ ns + 739; omega) (hO)) (fun h => absurd rfl h)
      | 16, _ =>
        refine L_swIn C 886 dL_law_40 (by decide) (by decide) (off := 846) (by decide +kernel) (by decide) ?_
        refine L_aload_n C dL_law_886 rfl ?_
        refine L_aload_n C dL_law_887 rfl ?_
        refine L_iload C dL_law_888 rfl ?_
        refine L_iconst C (v := nI 1) dL_law_890 (by decide +kernel) ?_
        refine L_iadd C dL_law_891 ?_
        refine L_sld C hX hbl hbA (7 * j + 1) (nI_add _ _) (by omega) (by omega) dL_law_892 ?_
        refine L_aload_n C dL_law_893 rfl ?_
        refine L_iload C dL_law_894 rfl ?_
        refine L_iconst C (v := nI 2) dL_law_896 (by decide +kernel) ?_
        refine L_iadd C dL_law_897 ?_
        refine L_sld C hX hbl hbA (7 * j + 2) (nI_add _ _) (by omega) (by omega) dL_law_898 ?_
        refine L_aload_n C dL_law_899 rfl ?_
        refine L_iload C dL_law_900 rfl ?_
        refine L_iconst C (v := nI 3) dL_law_902 (by decide +kernel) ?_
        refine L_iadd C dL_law_903 ?_
        refine L_sld C hX hbl hbA (7 * j + 3) (nI_add _ _) (by omega) (by omega) dL_law_904 ?_
        refine L_cls C (fun S I J h => f_runs h hO (xs' (7 * j + 1)) (xs' (7 * j + 2)) (xs' (7 * j + 3))) ⟨trivial, fun _ _ => trivial⟩ (fun _ => rfl) (nrv_a ⟨fun _ => rfl, fun _ => rfl, fun _ => rfl, trivial⟩) mi_X6_runs ml_L_99 rfl rfl (by decide) ⟨(by show nc + 0 ≤ 601024; omega), (by show ns + 0 ≤ 7293034; omega)⟩ (Nat.le_of_ble_eq_true rfl) rfl dL_law_905 ?_
        refine L_aload_n C dL_law_908 rfl ?_
        refine L_aload_n C dL_law_909 rfl ?_
        refine L_iload C dL_law_910 rfl ?_
        refine L_iconst C (v := nI 1) dL_law_912 (by decide +kernel) ?_
        refine L_iadd C dL_law_913 ?_
        refine L_sld C hX hbl hbA (7 * j + 1) (nI_add _ _) (by omega) (by omega) dL_law_914 ?_
        refine L_aload_n C dL_law_915 rfl ?_
        refine L_iload C dL_law_916 rfl ?_
        refine L_iconst C (v := nI 2) dL_law_918 (by decide +kernel) ?_
        refine L_iadd C dL_law_919 ?_
        refine L_sld C hX hbl hbA (7 * j + 2) (nI_add _ _) (by omega) (by omega) dL_law_920 ?_
        refine L_aload_n C dL_law_921 rfl ?_
        refine L_iload C dL_law_922 rfl ?_
        refine L_iconst C (v := nI 3) dL_law_924 (by decide +kernel) ?_
        refine L_iadd C dL_law_925 ?_
        refine L_sld C hX hbl hbA (7 * j + 3) (nI_add _ _) (by omega) (by omega) dL_law_926 ?_
        refine L_rf C (fun S I J h1 h2 => m_runs h1 h2 hO.r (xs' (7 * j + 1)) (xs' (7 * j + 2)) (xs' (7 * j + 3))) (fun _ => rfl) (nrv_a ⟨fun _ => rfl, fun _ => rfl, fun _ => rfl, trivial⟩) mi_X7_runs ml_L_102 rfl rfl (by decide) ⟨(by show nc + 0 ≤ 601024; omega), (by show ns + 0 ≤ 7293034; omega)⟩ (Nat.le_of_ble_eq_true rfl) rfl dL_law_927 ?_
        exact L_icmp_eq C 1138 dL_law_930 (by decide) (fun _ => nx _ _ _ _ _ _ (by show nc + 0 ≤ nc + 66; omega) (by show ns + 0 ≤ ns + 739; omega) (hO)) (fun h => absurd rfl h)
      | 17, _ =>
        refine L_swIn C 935 dL_law_40 (by decide) (by decide) (off := 895) (by decide +kernel) (by decide) ?_
        refine L_aload_n C dL_law_935 rfl ?_
        refine L_cls C (fun S I J h => f_back h hO) ⟨trivial, fun _ _ => trivial⟩ (fun _ => rfl) (nrv_a trivial) mi_X6_back ml_L_103 rfl rfl (by decide) ⟨(by show nc + 0 ≤ 601024; omega), (by show ns + 0 ≤ 7293034; omega)⟩ (Nat.le_of_ble_eq_true rfl) rfl dL_law_936 ?_
        refine L_aload_n C dL_law_939 rfl ?_
        refine L_rf C (fun S I J h1 h2 => m_back h1 h2 hO.r) (fun _ => rfl) (nrv_a trivial) mi_X7_back ml_L_106 rfl rfl (by decide) ⟨(by show nc + 0 ≤ 601024; omega), (by show ns + 0 ≤ 7293034; omega)⟩ (Nat.le_of_ble_eq_true rfl) rfl dL_law_940 ?_
        exact L_icmp_eq C 1138 dL_law_943 (by decide) (fun _ => nx _ _ _ _ _ _ (by show nc + 0 ≤ nc + 66; omega) (by show ns + 0 ≤ ns + 739; omega) (hO)) (fun h => absurd rfl h)
      | 18, _ =>
        refine L_swIn C 948 dL_law_40 (by decide) (by decide) (off := 908) (by decide +kernel) (by decide) ?_
        refine L_aload_n C dL_law_948 rfl ?_
        refine L_aload_n C dL_law_949 rfl ?_
        refine L_iload C dL_law_950 rfl ?_
        refine L_iconst C (v := nI 1) dL_law_952 (by decide +kernel) ?_
        refine L_iadd C dL_law_953 ?_
        refine L_sld C hX hbl hbA (7 * j + 1) (nI_add _ _) (by omega) (by omega) dL_law_954 ?_
        refine L_aload_n C dL_law_955 rfl ?_
        refine L_iload C dL_law_956 rfl ?_
        refine L_iconst C (v := nI 2) dL_law_958 (by decide +kernel) ?_
        refine L_iadd C dL_law_959 ?_
        refine L_sld C hX hbl hbA (7 * j + 2) (nI_add _ _) (by omega) (by omega) dL_law_960 ?_
        refine L_cls C (fun S I J h => f_told h hO (xs' (7 * j + 1)) (xs' (7 * j + 2))) ⟨trivial, fun _ _ => trivial⟩ (fun _ => rfl) (nrv_a ⟨fun _ => rfl, fun _ => rfl, trivial⟩) mi_X6_told ml_L_107 rfl rfl (by decide) ⟨(by show nc + 0 ≤ 601024; omega), (by show ns + 0 ≤ 7293034; omega)⟩ (Nat.le_of_ble_eq_true rfl) rfl dL_law_961 ?_
        refine L_aload_n C dL_law_964 rfl ?_
        refine L_aload_n C dL_law_965 rfl ?_
        refine L_iload C dL_law_966 rfl ?_
        refine L_iconst C (v := nI 1) dL_law_968 (by decide +kernel) ?_
        refine L_iadd C dL_law_969 ?_
        refine L_sld C hX hbl hbA (7 * j + 1) (nI_add _ _) (by omega) (by omega) dL_law_970 ?_
        refine L_aload_n C dL_law_971 rfl ?_
        refine L_iload C dL_law_972 rfl ?_
        refine L_iconst C (v := nI 2) dL_law_974 (by decide +kernel) ?_
        refine L_iadd C dL_law_975 ?_
        refine L_sld C hX hbl hbA (7 * j + 2) (nI_add _ _) (by omega) (by omega) dL_law_976 ?_
        refine L_rf C (fun S I J h1 h2 => m_told h1 h2 hO.r (xs' (7 * j + 1)) (xs' (7 * j + 2))) (fun _ => rfl) (nrv_a ⟨fun _ => rfl, fun _ => rfl, trivial⟩) mi_X7_told ml_L_110 rfl rfl (by decide) ⟨(by show nc + 0 ≤ 601024; omega), (by show ns + 0 ≤ 7293034; omega)⟩ (Nat.le_of_ble_eq_true rfl) rfl dL_law_977 ?_
        exact L_icmp_eq C 1138 dL_law_980 (by decide) (fun _ => nx _ _ _ _ _ _ (by show nc + 0 ≤ nc + 66; omega) (by show ns + 0 ≤ ns + 739; omega) (ok_told hO _ _)) (fun h => absurd rfl h)
      | 19, _ =>
        refine L_swIn C 985 dL_law_40 (by decide) (by decide) (off := 945) (by decide +kernel) (by decide) ?_
        refine L_aload_n C dL_law_985 rfl ?_
        refine L_cls C (fun S I J h => f_forget h) ⟨trivial, fun _ _ => trivial⟩ (fun _ => rfl) (nrv_a trivial) mi_X6_forget ml_L_111 rfl rfl (by decide) ⟨(by show nc + 0 ≤ 601024; omega), (by show ns + 0 ≤ 7293034; omega)⟩ (Nat.le_of_ble_eq_true rfl) rfl dL_law_986 ?_
        refine L_aload_n C dL_law_989 rfl ?_
        refine L_rf C (fun S I J h1 h2 => m_forget h1 h2) (fun _ => rfl) (nrv_a trivial) mi_X7_forget ml_L_114 rfl rfl (by decide) ⟨(by show nc + 0 ≤ 601024; omega), (by show ns + 0 ≤ 7293034; omega)⟩ (Nat.le_of_ble_eq_true rfl) rfl dL_law_990 ?_
        exact L_icmp_eq C 1138 dL_law_993 (by decide) (fun _ => nx _ _ _ _ _ _ (by show nc + 0 ≤ nc + 66; omega) (by show ns + 0 ≤ ns + 739; omega) (ok_forget hO)) (fun h => absurd rfl h)
      | 20, _ =>
        refine L_swIn C 998 dL_law_40 (by decide) (by decide) (off := 958) (by decide +kernel) (by decide) ?_
        refine L_aload_n C dL_law_998 rfl ?_
        refine L_aload_n C dL_law_999 rfl ?_
        refine L_iload C dL_law_1000 rfl ?_
        refine L_iconst C (v := nI 1) dL_law_1002 (by decide +kernel) ?_
        refine L_iadd C dL_law_1003 ?_
        refine L_sld C hX hbl hbA (7 * j + 1) (nI_add _ _) (by omega) (by omega) dL_law_1004 ?_
        refine L_cls C (fun S I J h => f_fits h hO (xs' (7 * j + 1))) ⟨trivial, fun _ _ => trivial⟩ (fun _ => rfl) (nrv_a ⟨fun _ => rfl, trivial⟩) mi_X6_fits ml_L_115 rfl rfl (by decide) ⟨(by show nc + 0 ≤ 601024; omega), (by show ns + 0 ≤ 7293034; omega)⟩ (Nat.le_of_ble_eq_true rfl) rfl dL_law_1005 ?_
        refine L_aload_n C dL_law_1008 rfl ?_
        refine L_aload_n C dL_law_1009 rfl ?_
        refine L_iload C dL_law_1010 rfl ?_
        refine L_iconst C (v := nI 1) dL_law_1012 (by decide +kernel) ?_
        refine L_iadd C dL_law_1013 ?_
        refine L_sld C hX hbl hbA (7 * j + 1) (nI_add _ _) (by omega) (by omega) dL_law_1014 ?_
        refine L_rf C (fun S I J h1 h2 => m_fits h1 h2 hO.r (xs' (7 * j + 1))) (fun _ => rfl) (nrv_a ⟨fun _ => rfl, trivial⟩) mi_X7_fits ml_L_118 rfl rfl (by decide) ⟨(by show nc + 0 ≤ 601024; omega), (by show ns + 0 ≤ 7293034; omega)⟩ (Nat.le_of_ble_eq_true rfl) rfl dL_law_1015 ?_
        exact L_icmp_eq C 1138 dL_law_1018 (by decide) (fun _ => nx _ _ _ _ _ _ (by show nc + 0 ≤ nc + 66; omega) (by show ns + 0 ≤ ns + 739; omega) (hO)) (fun h => absurd rfl h)
      | 21, _ =>
        refine L_swIn C 1023 dL_law_40 (by decide) (by decide) (off := 983) (by decide +kernel) (by decide) ?_
        refine L_aload_n C dL_law_1023 rfl ?_
        refine L_aload_n C dL_law_1024 rfl ?_
        refine L_iload C dL_law_1025 rfl ?_
        refine L_iconst C (v := nI 1) dL_law_1027 (by decide +kernel) ?_
        refine L_iadd C dL_law_1028 ?_
        refine L_sld C hX hbl hbA (7 * j + 1) (nI_add _ _) (by omega) (by omega) dL_law_1029 ?_
        refine L_aload_n C dL_law_1030 rfl ?_
        refine L_iload C dL_law_1031 rfl ?_
        refine L_iconst C (v := nI 2) dL_law_1033 (by decide +kernel) ?_
        refine L_iadd C dL_law_1034 ?_
        refine L_sld C hX hbl hbA (7 * j + 2) (nI_add _ _) (by omega) (by omega) dL_law_1035 ?_
        refine L_cls C (fun S I J h => f_barred h hO (xs' (7 * j + 1)) (xs' (7 * j + 2))) ⟨trivial, fun _ _ => trivial⟩ (fun _ => rfl) (nrv_a ⟨fun _ => rfl, fun _ => rfl, trivial⟩) mi_X6_barred ml_L_119 rfl rfl (by decide) ⟨(by show nc + 0 ≤ 601024; omega), (by show ns + 0 ≤ 7293034; omega)⟩ (Nat.le_of_ble_eq_true rfl) rfl dL_law_1036 ?_
        refine L_aload_n C dL_law_1039 rfl ?_
        refine L_aload_n C dL_law_1040 rfl ?_
        refine L_iload C dL_law_1041 rfl ?_
        refine L_iconst C (v := nI 1) dL_law_1043 (by decide +kernel) ?_
        refine L_iadd C dL_law_1044 ?_
        refine L_sld C hX hbl hbA (7 * j + 1) (nI_add _ _) (by omega) (by omega) dL_law_1045 ?_
        refine L_aload_n C dL_law_1046 rfl ?_
        refine L_iload C dL_law_1047 rfl ?_
        refine L_iconst C (v := nI 2) dL_law_1049 (by decide +kernel) ?_
        refine L_iadd C dL_law_1050 ?_
        refine L_sld C hX hbl hbA (7 * j + 2) (nI_add _ _) (by omega) (by omega) dL_law_1051 ?_
        refine L_rf C (fun S I J h1 h2 => m_barred h1 h2 hO.r (xs' (7 * j + 1)) (xs' (7 * j + 2))) (fun _ => rfl) (nrv_a ⟨fun _ => rfl, fun _ => rfl, trivial⟩) mi_X7_barred ml_L_122 rfl rfl (by decide) ⟨(by show nc + 0 ≤ 601024; omega), (by show ns + 0 ≤ 7293034; omega)⟩ (Nat.le_of_ble_eq_true rfl) rfl dL_law_1052 ?_
        exact L_icmp_eq C 1138 dL_law_1055 (by decide) (fun _ => nx _ _ _ _ _ _ (by show nc + 0 ≤ nc + 66; omega) (by show ns + 0 ≤ ns + 739; omega) (hO)) (fun h => absurd rfl h)
      | 22, _ =>
        refine L_swIn C 1060 dL_law_40 (by decide) (by decide) (off := 1020) (by decide +kernel) (by decide) ?_
        by_cases hz : xs' (7 * j + 2) = 0
        · refine L_aload_n C dL_law_1060 rfl ?_
          refine L_aload_n C dL_law_1061 rfl ?_
          refine L_iload C dL_law_1062 rfl ?_
          refine L_iconst C (v := nI 1) dL_law_1064 (by decide +kernel) ?_
          refine L_iadd C dL_law_1065 ?_
          refine L_sld C hX hbl hbA (7 * j + 1) (nI_add _ _) (by omega) (by omega) dL_law_1066 ?_
          refine L_aload_n C dL_law_1067 rfl ?_
          refine L_iload C dL_law_1068 rfl ?_
          refine L_iconst C (v := nI 2) dL_law_1070 (by decide +kernel) ?_
          refine L_iadd C dL_law_1071 ?_
          refine L_sld C hX hbl hbA (7 * j + 2) (nI_add _ _) (by omega) (by omega) dL_law_1072 ?_
          refine L_if_eq C 1080 dL_law_1073 (by decide) (fun _ => ?_) (fun h => absurd hz h)
          refine L_iconst C (v := nI 0) dL_law_1080 (by decide +kernel) ?_
          refine L_cls C (fun S I J h => f_mark h hO (xs' (7 * j + 1)) (nI 0)) ⟨by decide, fun k hk => by omega⟩ (fun _ => rfl) (nrv_a ⟨fun _ => rfl, fun _ => rfl, trivial⟩) mi_X6_mark ml_L_123 rfl rfl (by decide) ⟨(by show nc + 66 ≤ 601024; omega), (by show ns + 739 ≤ 7293034; omega)⟩ (Nat.le_of_ble_eq_true rfl) rfl dL_law_1081 ?_
          refine L_aload_n C dL_law_1084 rfl ?_
          refine L_aload_n C dL_law_1085 rfl ?_
          refine L_iload C dL_law_1086 rfl ?_
          refine L_iconst C (v := nI 1) dL_law_1088 (by decide +kernel) ?_
          refine L_iadd C dL_law_1089 ?_
          refine L_sld C hX hbl hbA (7 * j + 1) (nI_add _ _) (by omega) (by omega) dL_law_1090 ?_
          refine L_aload_n C dL_law_1091 rfl ?_
          refine L_iload C dL_law_1092 rfl ?_
          refine L_iconst C (v := nI 2) dL_law_1094 (by decide +kernel) ?_
          refine L_iadd C dL_law_1095 ?_
          refine L_sld C hX hbl hbA (7 * j + 2) (nI_add _ _) (by omega) (by omega) dL_law_1096 ?_
          refine L_if_eq C 1104 dL_law_1097 (by decide) (fun _ => ?_) (fun h => absurd hz h)
          refine L_iconst C (v := nI 0) dL_law_1104 (by decide +kernel) ?_
          refine L_rf C (fun S I J h1 h2 => m_mark h1 h2 hO.r (xs' (7 * j + 1)) (nI 0)) (fun _ => rfl) (nrv_a ⟨fun _ => rfl, fun _ => rfl, trivial⟩) mi_X7_mark ml_L_127 rfl rfl (by decide) ⟨(by show nc + 66 ≤ 601024; omega), (by show ns + 739 ≤ 7293034; omega)⟩ (Nat.le_of_ble_eq_true rfl) rfl dL_law_1105 ?_
          exact L_icmp_eq C 1138 dL_law_1108 (by decide) (fun _ => nx _ _ _ _ _ _ (by show nc + 66 ≤ nc + 66; omega) (by show ns + 739 ≤ ns + 739; omega) (ok_mark hO _ _)) (fun h => absurd rfl h)
        · refine L_aload_n C dL_law_1060 rfl ?_
          refine L_aload_n C dL_law_1061 rfl ?_
          refine L_iload C dL_law_1062 rfl ?_
          refine L_iconst C (v := nI 1) dL_law_1064 (by decide +kernel) ?_
          refine L_iadd C dL_law_1065 ?_
          refine L_sld C hX hbl hbA (7 * j + 1) (nI_add _ _) (by omega) (by omega) dL_law_1066 ?_
          refine L_aload_n C dL_law_1067 rfl ?_
          refine L_iload C dL_law_1068 rfl ?_
          refine L_iconst C (v := nI 2) dL_law_1070 (by decide +kernel) ?_
          refine L_iadd C dL_law_1071 ?_
          refine L_sld C hX hbl hbA (7 * j + 2) (nI_add _ _) (by omega) (by omega) dL_law_1072 ?_
          refine L_if_eq C 1080 dL_law_1073 (by decide) (fun h => absurd h hz) (fun _ => ?_)
          refine L_iconst C (v := nI 1) dL_law_1076 (by decide +kernel) ?_
          refine L_goto C 1081 dL_law_1077 (by decide) ?_
          refine L_cls C (fun S I J h => f_mark h hO (xs' (7 * j + 1)) (nI 1)) ⟨by decide, fun k hk => by omega⟩ (fun _ => rfl) (nrv_a ⟨fun _ => rfl, fun _ => rfl, trivial⟩) mi_X6_mark ml_L_123 rfl rfl (by decide) ⟨(by show nc + 66 ≤ 601024; omega), (by show ns + 739 ≤ 7293034; omega)⟩ (Nat.le_of_ble_eq_true rfl) rfl dL_law_1081 ?_
          refine L_aload_n C dL_law_1084 rfl ?_
          refine L_aload_n C dL_law_1085 rfl ?_
          refine L_iload C dL_law_1086 rfl ?_
          refine L_iconst C (v := nI 1) dL_law_1088 (by decide +kernel) ?_
          refine L_iadd C dL_law_1089 ?_
          refine L_sld C hX hbl hbA (7 * j + 1) (nI_add _ _) (by omega) (by omega) dL_law_1090 ?_
          refine L_aload_n C dL_law_1091 rfl ?_
          refine L_iload C dL_law_1092 rfl ?_
          refine L_iconst C (v := nI 2) dL_law_1094 (by decide +kernel) ?_
          refine L_iadd C dL_law_1095 ?_
          refine L_sld C hX hbl hbA (7 * j + 2) (nI_add _ _) (by omega) (by omega) dL_law_1096 ?_
          refine L_if_eq C 1104 dL_law_1097 (by decide) (fun h => absurd h hz) (fun _ => ?_)
          refine L_iconst C (v := nI 1) dL_law_1100 (by decide +kernel) ?_
          refine L_goto C 1105 dL_law_1101 (by decide) ?_
          refine L_rf C (fun S I J h1 h2 => m_mark h1 h2 hO.r (xs' (7 * j + 1)) (nI 1)) (fun _ => rfl) (nrv_a ⟨fun _ => rfl, fun _ => rfl, trivial⟩) mi_X7_mark ml_L_127 rfl rfl (by decide) ⟨(by show nc + 66 ≤ 601024; omega), (by show ns + 739 ≤ 7293034; omega)⟩ (Nat.le_of_ble_eq_true rfl) rfl dL_law_1105 ?_
          exact L_icmp_eq C 1138 dL_law_1108 (by decide) (fun _ => nx _ _ _ _ _ _ (by show nc + 66 ≤ nc + 66; omega) (by show ns + 739 ≤ ns + 739; omega) (ok_mark hO _ _)) (fun h => absurd rfl h)
      | 23, _ =>
        refine L_swIn C 1113 dL_law_40 (by decide) (by decide) (off := 1073) (by decide +kernel) (by decide) ?_
        refine L_aload_n C dL_law_1113 rfl ?_
        refine L_aload_n C dL_law_1114 rfl ?_
        refine L_iload C dL_law_1115 rfl ?_
        refine L_iconst C (v := nI 1) dL_law_1117 (by decide +kernel) ?_
        refine L_iadd C dL_law_1118 ?_
        refine L_sld C hX hbl hbA (7 * j + 1) (nI_add _ _) (by omega) (by omega) dL_law_1119 ?_
        refine L_cls C (fun S I J h => f_count h hO (xs' (7 * j + 1))) ⟨trivial, fun _ _ => trivial⟩ (fun _ => rfl) (nrv_a ⟨fun _ => rfl, trivial⟩) mi_X6_count ml_L_128 rfl rfl (by decide) ⟨(by show nc + 0 ≤ 601024; omega), (by show ns + 0 ≤ 7293034; omega)⟩ (Nat.le_of_ble_eq_true rfl) rfl dL_law_1120 ?_
        refine L_aload_n C dL_law_1123 rfl ?_
        refine L_aload_n C dL_law_1124 rfl ?_
        refine L_iload C dL_law_1125 rfl ?_
        refine L_iconst C (v := nI 1) dL_law_1127 (by decide +kernel) ?_
        refine L_iadd C dL_law_1128 ?_
        refine L_sld C hX hbl hbA (7 * j + 1) (nI_add _ _) (by omega) (by omega) dL_law_1129 ?_
        refine L_rf C (fun S I J h1 h2 => m_count h1 h2 hO.r (xs' (7 * j + 1))) (fun _ => rfl) (nrv_a ⟨fun _ => rfl, trivial⟩) mi_X7_count ml_L_131 rfl rfl (by decide) ⟨(by show nc + 0 ≤ 601024; omega), (by show ns + 0 ≤ 7293034; omega)⟩ (Nat.le_of_ble_eq_true rfl) rfl dL_law_1130 ?_
        exact L_icmp_eq C 1138 dL_law_1133 (by decide) (fun _ => nx _ _ _ _ _ _ (by show nc + 0 ≤ nc + 66; omega) (by show ns + 0 ≤ ns + 739; omega) (hO)) (fun h => absurd rfl h)
      | 24, _ =>
        refine L_swOut C 1138 dL_law_40 (Or.inr (by decide)) (by decide) ?_
        exact nx _ _ _ _ _ _ (by omega) (by omega) hO
      | 25, _ =>
        refine L_swOut C 1138 dL_law_40 (Or.inr (by decide)) (by decide) ?_
        exact nx _ _ _ _ _ _ (by omega) (by omega) hO
      | 26, _ =>
        refine L_swOut C 1138 dL_law_40 (Or.inr (by decide)) (by decide) ?_
        exact nx _ _ _ _ _ _ (by omega) (by omega) hO
      | 27, _ =>
        refine L_swOut C 1138 dL_law_40 (Or.inr (by decide)) (by decide) ?_
        exact nx _ _ _ _ _ _ (by omega) (by omega) hO
      | 28, _ =>
        refine L_swOut C 1138 dL_law_40 (Or.inr (by decide)) (by decide) ?_
        exact nx _ _ _ _ _ _ (by omega) (by omega) hO
      | 29, _ =>
        refine L_swOut C 1138 dL_law_40 (Or.inr (by decide)) (by decide) ?_
        exact nx _ _ _ _ _ _ (by omega) (by omega) hO
      | 30, _ =>
        refine L_swOut C 1138 dL_law_40 (Or.inr (by decide)) (by decide) ?_
        exact nx _ _ _ _ _ _ (by omega) (by omega) hO
      | 31, _ =>
        refine L_swOut C 1138 dL_law_40 (Or.inr (by decide)) (by decide) ?_
        exact nx _ _ _ _ _ _ (by omega) (by omega) hO
      | w + 32, h => exact absurd h (by omega)
    · exact quit j _ _ _ _ _ (by omega) h2 (by omega) (by omega)
end LP
