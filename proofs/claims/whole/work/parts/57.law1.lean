set_option maxRecDepth 100000 in
set_option maxHeartbeats 4000000 in
theorem lc_0 {g : Gx} {Φ : Fx} {k n b L : Nat} {xs : Nat → Int32} {i : Nat} {o w x0 : Nat} {ar : Nat → Nat} {M c : Tb} {v : Int64} {σ : Wd} (hst : g.1.stackTraces = false) (C : Ok g Φ code "OperaMachinesLaw" ret 40 601024 7293034) (hnc : NCx Φ) (X : SX Φ b L xs) (hN : fN Φ = 7) (hL : L ≤ 2560) (hi : i + 5 ≤ L) (hJ : LJ g o w x0 ar M c v σ) (hc : cut M = c) (hk : k + 20 ≤ 601024) (hn : n + 200 ≤ 7293034) (K : ∀ (σ' : Wd) (M' c' : Tb) (v' : Int64), LJ g o w x0 ar M' c' v' σ' → cut M' = c' → N Φ (k + 20) (n + 200) σ' 1193 [(4, iv (i : Int)), (3, .ref w), (2, .ref o), (1, .ref x0), (0, .ref b)] []) : N Φ k n σ 136 [(4, iv (i : Int)), (3, .ref w), (2, .ref o), (1, .ref x0), (0, .ref b)] [] := by
  obtain ⟨hR, -, A0, D0, f0, -, -, -, hw, -⟩ := id hJ
  refine n_aload_n C dL_law_136 rfl ?_
  refine n_aload_n C dL_law_137 rfl ?_
  refine n_iload C dL_law_138 rfl ?_
  refine n_iconst (x := 1) C dL_law_140 ?_
  refine n_iadd C dL_law_141 ?_
  refine n_sld C X (i + 1) (by omega) (by omega) hL dL_law_142 ?_
  refine n_aload_n C dL_law_143 rfl ?_
  refine n_iload C dL_law_144 rfl ?_
  refine n_iconst (x := 2) C dL_law_146 ?_
  refine n_iadd C dL_law_147 ?_
  refine n_sld C X (i + 2) (by omega) (by omega) hL dL_law_148 ?_
  refine n_aload_n C dL_law_149 rfl ?_
  refine n_iload C dL_law_150 rfl ?_
  refine n_iconst (x := 3) C dL_law_152 ?_
  refine n_iadd C dL_law_153 ?_
  refine n_sld C X (i + 3) (by omega) (by omega) hL dL_law_154 ?_
  refine n_aload_n C dL_law_155 rfl ?_
  refine n_iload C dL_law_156 rfl ?_
  refine n_iconst (x := 4) C dL_law_158 ?_
  refine n_iadd C dL_law_159 ?_
  refine n_sld C X (i + 4) (by omega) (by omega) hL dL_law_160 ?_
  refine n_aload_n C dL_law_161 rfl ?_
  refine n_invSW C hnc (w_wagon hst (zz_rg xs (i + 1)) (zz_rg xs (i + 2)) (zz_rg xs (i + 3)) (zz_rg xs (i + 4)) hJ) ⟨w1_238, w2_0, w1_0, ⟨by decide, by decide⟩, by show _ = some 6; decide +kernel, by decide⟩ w1_239 (by decide) (by omega) (by omega) (Nat.le_of_ble_eq_true rfl) rfl dL_law_162 (fun r σ1 h' => ?_)
  obtain ⟨v1, rfl, hJ1, hv1⟩ := h'
  refine n_istore (lv' := [(5, iv (cdWagon c (zz xs (i + 1)) (zz xs (i + 2)) (zz xs (i + 3)) (zz xs (i + 4)))), (4, iv (i : Int)), (3, .ref w), (2, .ref o), (1, .ref x0), (0, .ref b)]) C dL_law_165 (by rw [hN]; decide) rfl ?_
  refine n_aload_n C dL_law_167 rfl ?_
  refine n_aload_n C dL_law_168 rfl ?_
  refine n_iload C dL_law_169 rfl ?_
  refine n_iconst (x := 1) C dL_law_171 ?_
  refine n_iadd C dL_law_172 ?_
  refine n_sld C X (i + 1) (by omega) (by omega) hL dL_law_173 ?_
  refine n_aload_n C dL_law_174 rfl ?_
  refine n_iload C dL_law_175 rfl ?_
  refine n_iconst (x := 2) C dL_law_177 ?_
  refine n_iadd C dL_law_178 ?_
  refine n_sld C X (i + 2) (by omega) (by omega) hL dL_law_179 ?_
  refine n_aload_n C dL_law_180 rfl ?_
  refine n_iload C dL_law_181 rfl ?_
  refine n_iconst (x := 3) C dL_law_183 ?_
  refine n_iadd C dL_law_184 ?_
  refine n_sld C X (i + 3) (by omega) (by omega) hL dL_law_185 ?_
  refine n_aload_n C dL_law_186 rfl ?_
  refine n_iload C dL_law_187 rfl ?_
  refine n_iconst (x := 4) C dL_law_189 ?_
  refine n_iadd C dL_law_190 ?_
  refine n_sld C X (i + 4) (by omega) (by omega) hL dL_law_191 ?_
  refine n_invV C (c_rwagon hst (zz_rg xs (i + 1)) (zz_rg xs (i + 2)) (zz_rg xs (i + 3)) (zz_rg xs (i + 4)) hR hJ1.2.1 hc hw) ⟨w4_214, w4_217, w1_5, ⟨by decide, by decide⟩, by show _ = some 4; decide +kernel, by decide⟩ w4_215 w4_216 hJ1.2.1.1 (show vwCl[6]? = some ("OperaMachinesModel", TX3, 27) from rfl) (by decide) (by omega) (by omega) (Nat.le_of_ble_eq_true rfl) rfl dL_law_192 (fun r σ2 h' => ?_) (fun _ _ h => h.elim)
  obtain ⟨y, M1, rfl, hM1, ht1, hy0, hy1⟩ := h'
  have hJ2 := hJ1.ref hM1
  have hc2 : cut M1 = (if cdWagon c (zz xs (i + 1)) (zz xs (i + 2)) (zz xs (i + 3)) (zz xs (i + 4)) = 0 then nxWagon c (zz xs (i + 1)) (zz xs (i + 2)) (zz xs (i + 3)) (zz xs (i + 4)) else c) := by
    by_cases h : cdWagon c (zz xs (i + 1)) (zz xs (i + 2)) (zz xs (i + 3)) (zz xs (i + 4)) = 0
    · rw [if_pos h]; exact (hy0 h).2
    · rw [if_neg h]; exact hy1 h
  refine n_istore (lv' := [(6, iv y), (5, iv (cdWagon c (zz xs (i + 1)) (zz xs (i + 2)) (zz xs (i + 3)) (zz xs (i + 4)))), (4, iv (i : Int)), (3, .ref w), (2, .ref o), (1, .ref x0), (0, .ref b)]) C dL_law_195 (by rw [hN]; decide) rfl ?_
  refine n_aload_n C dL_law_197 rfl ?_
  refine n_invV C (c_thrown hst hR hJ2.2.1 rfl) ⟨w4_210, w4_213, w1_5, ⟨by decide, by decide⟩, by show _ = some 0; decide +kernel, by decide⟩ w4_211 w4_212 hJ2.2.1.1 (show vwCl[6]? = some ("OperaMachinesModel", TX3, 27) from rfl) (by decide) (by omega) (by omega) (Nat.le_of_ble_eq_true rfl) rfl dL_law_198 (fun r σ3 h' => ?_) (fun _ _ h => h.elim)
  obtain ⟨rfl, hσ⟩ := h'
  rw [hσ, ht1]
  refine n_iload C dL_law_201 rfl ?_
  refine n_icmpE C 208 rfl dL_law_203 (by decide) ?_
  refine n_iload C dL_law_208 rfl ?_
  refine n_if_ne C 225 dL_law_210 (by decide) (cdWagon_rg c (zz xs (i + 1)) (zz xs (i + 2)) (zz xs (i + 3)) (zz xs (i + 4))) (fun _ => ?_) (fun h0 => ?_)
  · refine n_goto C 1193 dL_law_225 (by decide) ?_
    refine n_keep (lv' := [(4, iv (i : Int)), (3, .ref w), (2, .ref o), (1, .ref x0), (0, .ref b)]) [4, 3, 2, 1, 0] rfl ?_
    refine n_widen (k' := k + 20) (n' := n + 200) (by omega) (by omega) ?_
    exact K _ _ _ _ hJ2 hc2
  · obtain ⟨-, -, A2, D2, f2, -, -, -, -, hw2, hf2, -⟩ := id hJ2
    refine n_aload_n C dL_law_213 rfl ?_
    refine n_iconst (x := 0) C dL_law_214 ?_
    refine n_lald C hw2 (by omega) (by omega) (by omega) dL_law_215 ?_
    refine n_iload C dL_law_216 rfl ?_
    refine n_i2l C dL_law_218 ?_
    refine n_lcmpE C (show f2 0 = (iI y).toInt64 from by rw [hf2, hv1 _ rfl h0]; rw [(hy0 h0).1]) dL_law_219 ?_
    refine n_if_eq C 225 dL_law_220 (by decide) rg_0 (fun _ => ?_) (fun h => (h rfl).elim)
    refine n_goto C 1193 dL_law_225 (by decide) ?_
    refine n_keep (lv' := [(4, iv (i : Int)), (3, .ref w), (2, .ref o), (1, .ref x0), (0, .ref b)]) [4, 3, 2, 1, 0] rfl ?_
    refine n_widen (k' := k + 20) (n' := n + 200) (by omega) (by omega) ?_
    exact K _ _ _ _ hJ2 hc2
set_option maxRecDepth 100000 in
set_option maxHeartbeats 4000000 in
theorem lc_1 {g : Gx} {Φ : Fx} {k n b L : Nat} {xs : Nat → Int32} {i : Nat} {o w x0 : Nat} {ar : Nat → Nat} {M c : Tb} {v : Int64} {σ : Wd} (hst : g.1.stackTraces = false) (C : Ok g Φ code "OperaMachinesLaw" ret 40 601024 7293034) (hnc : NCx Φ) (X : SX Φ b L xs) (hN : fN Φ = 7) (hL : L ≤ 2560) (hi : i + 5 ≤ L) (hJ : LJ g o w x0 ar M c v σ) (hc : cut M = c) (hk : k + 20 ≤ 601024) (hn : n + 200 ≤ 7293034) (K : ∀ (σ' : Wd) (M' c' : Tb) (v' : Int64), LJ g o w x0 ar M' c' v' σ' → cut M' = c' → N Φ (k + 20) (n + 200) σ' 1193 [(4, iv (i : Int)), (3, .ref w), (2, .ref o), (1, .ref x0), (0, .ref b)] []) : N Φ k n σ 228 [(4, iv (i : Int)), (3, .ref w), (2, .ref o), (1, .ref x0), (0, .ref b)] [] := by
  obtain ⟨hR, -, A0, D0, f0, -, -, -, hw, -⟩ := id hJ
  refine n_aload_n C dL_law_228 rfl ?_
  refine n_aload_n C dL_law_229 rfl ?_
  refine n_iload C dL_law_230 rfl ?_
  refine n_iconst (x := 1) C dL_law_232 ?_
  refine n_iadd C dL_law_233 ?_
  refine n_sld C X (i + 1) (by omega) (by omega) hL dL_law_234 ?_
  refine n_aload_n C dL_law_235 rfl ?_
  refine n_iload C dL_law_236 rfl ?_
  refine n_iconst (x := 2) C dL_law_238 ?_
  refine n_iadd C dL_law_239 ?_
  refine n_sld C X (i + 2) (by omega) (by omega) hL dL_law_240 ?_
  refine n_aload_n C dL_law_241 rfl ?_
  refine n_invSW C hnc (w_turntable hst (zz_rg xs (i + 1)) (zz_rg xs (i + 2)) hJ) ⟨w2_185, w2_187, w1_0, ⟨by decide, by decide⟩, by show _ = some 4; decide +kernel, by decide⟩ w2_186 (by decide) (by omega) (by omega) (Nat.le_of_ble_eq_true rfl) rfl dL_law_242 (fun r σ1 h' => ?_)
  obtain ⟨v1, rfl, hJ1, hv1⟩ := h'
  refine n_istore (lv' := [(5, iv (cdTable c (zz xs (i + 1)) (zz xs (i + 2)))), (4, iv (i : Int)), (3, .ref w), (2, .ref o), (1, .ref x0), (0, .ref b)]) C dL_law_245 (by rw [hN]; decide) rfl ?_
  refine n_aload_n C dL_law_247 rfl ?_
  refine n_aload_n C dL_law_248 rfl ?_
  refine n_iload C dL_law_249 rfl ?_
  refine n_iconst (x := 1) C dL_law_251 ?_
  refine n_iadd C dL_law_252 ?_
  refine n_sld C X (i + 1) (by omega) (by omega) hL dL_law_253 ?_
  refine n_aload_n C dL_law_254 rfl ?_
  refine n_iload C dL_law_255 rfl ?_
  refine n_iconst (x := 2) C dL_law_257 ?_
  refine n_iadd C dL_law_258 ?_
  refine n_sld C X (i + 2) (by omega) (by omega) hL dL_law_259 ?_
  refine n_invV C (c_rturntable hst (zz_rg xs (i + 1)) (zz_rg xs (i + 2)) hR hJ1.2.1 hc hw) ⟨w4_225, w4_228, w1_5, ⟨by decide, by decide⟩, by show _ = some 2; decide +kernel, by decide⟩ w4_226 w4_227 hJ1.2.1.1 (show vwCl[6]? = some ("OperaMachinesModel", TX3, 27) from rfl) (by decide) (by omega) (by omega) (Nat.le_of_ble_eq_true rfl) rfl dL_law_260 (fun r σ2 h' => ?_) (fun _ _ h => h.elim)
  obtain ⟨y, M1, rfl, hM1, ht1, hy0, hy1⟩ := h'
  have hJ2 := hJ1.ref hM1
  have hc2 : cut M1 = (if cdTable c (zz xs (i + 1)) (zz xs (i + 2)) = 0 then nxTable c (zz xs (i + 1)) (zz xs (i + 2)) else c) := by
    by_cases h : cdTable c (zz xs (i + 1)) (zz xs (i + 2)) = 0
    · rw [if_pos h]; exact (hy0 h).2
    · rw [if_neg h]; exact hy1 h
  refine n_istore (lv' := [(6, iv y), (5, iv (cdTable c (zz xs (i + 1)) (zz xs (i + 2)))), (4, iv (i : Int)), (3, .ref w), (2, .ref o), (1, .ref x0), (0, .ref b)]) C dL_law_263 (by rw [hN]; decide) rfl ?_
  refine n_aload_n C dL_law_265 rfl ?_
  refine n_invV C (c_thrown hst hR hJ2.2.1 rfl) ⟨w4_210, w4_213, w1_5, ⟨by decide, by decide⟩, by show _ = some 0; decide +kernel, by decide⟩ w4_211 w4_212 hJ2.2.1.1 (show vwCl[6]? = some ("OperaMachinesModel", TX3, 27) from rfl) (by decide) (by omega) (by omega) (Nat.le_of_ble_eq_true rfl) rfl dL_law_266 (fun r σ3 h' => ?_) (fun _ _ h => h.elim)
  obtain ⟨rfl, hσ⟩ := h'
  rw [hσ, ht1]
  refine n_iload C dL_law_269 rfl ?_
  refine n_icmpE C 276 rfl dL_law_271 (by decide) ?_
  refine n_iload C dL_law_276 rfl ?_
  refine n_if_ne C 293 dL_law_278 (by decide) (cdTable_rg c (zz xs (i + 1)) (zz xs (i + 2))) (fun _ => ?_) (fun h0 => ?_)
  · refine n_goto C 1193 dL_law_293 (by decide) ?_
    refine n_keep (lv' := [(4, iv (i : Int)), (3, .ref w), (2, .ref o), (1, .ref x0), (0, .ref b)]) [4, 3, 2, 1, 0] rfl ?_
    refine n_widen (k' := k + 20) (n' := n + 200) (by omega) (by omega) ?_
    exact K _ _ _ _ hJ2 hc2
  · obtain ⟨-, -, A2, D2, f2, -, -, -, -, hw2, hf2, -⟩ := id hJ2
    refine n_aload_n C dL_law_281 rfl ?_
    refine n_iconst (x := 0) C dL_law_282 ?_
    refine n_lald C hw2 (by omega) (by omega) (by omega) dL_law_283 ?_
    refine n_iload C dL_law_284 rfl ?_
    refine n_i2l C dL_law_286 ?_
    refine n_lcmpE C (show f2 0 = (iI y).toInt64 from by rw [hf2, hv1 _ rfl h0]; rw [(hy0 h0).1]) dL_law_287 ?_
    refine n_if_eq C 293 dL_law_288 (by decide) rg_0 (fun _ => ?_) (fun h => (h rfl).elim)
    refine n_goto C 1193 dL_law_293 (by decide) ?_
    refine n_keep (lv' := [(4, iv (i : Int)), (3, .ref w), (2, .ref o), (1, .ref x0), (0, .ref b)]) [4, 3, 2, 1, 0] rfl ?_
    refine n_widen (k' := k + 20) (n' := n + 200) (by omega) (by omega) ?_
    exact K _ _ _ _ hJ2 hc2
set_option maxRecDepth 100000 in
set_option maxHeartbeats 4000000 in
theorem lc_2 {g : Gx} {Φ : Fx} {k n b L : Nat} {xs : Nat → Int32} {i : Nat} {o w x0 : Nat} {ar : Nat → Nat} {M c : Tb} {v : Int64} {σ : Wd} (hst : g.1.stackTraces = false) (C : Ok g Φ code "OperaMachinesLaw" ret 40 601024 7293034) (hnc : NCx Φ) (X : SX Φ b L xs) (hN : fN Φ = 7) (hL : L ≤ 2560) (hi : i + 5 ≤ L) (hJ : LJ g o w x0 ar M c v σ) (hc : cut M = c) (hk : k + 20 ≤ 601024) (hn : n + 200 ≤ 7293034) (K : ∀ (σ' : Wd) (M' c' : Tb) (v' : Int64), LJ g o w x0 ar M' c' v' σ' → cut M' = c' → N Φ (k + 20) (n + 200) σ' 1193 [(4, iv (i : Int)), (3, .ref w), (2, .ref o), (1, .ref x0), (0, .ref b)] []) : N Φ k n σ 296 [(4, iv (i : Int)), (3, .ref w), (2, .ref o), (1, .ref x0), (0, .ref b)] [] := by
  obtain ⟨hR, -, A0, D0, f0, -, -, -, hw, -⟩ := id hJ
  refine n_aload_n C dL_law_296 rfl ?_
  refine n_aload_n C dL_law_297 rfl ?_
  refine n_iload C dL_law_298 rfl ?_
  refine n_iconst (x := 1) C dL_law_300 ?_
  refine n_iadd C dL_law_301 ?_
  refine n_sld C X (i + 1) (by omega) (by omega) hL dL_law_302 ?_
  refine n_aload_n C dL_law_303 rfl ?_
  refine n_iload C dL_law_304 rfl ?_
  refine n_iconst (x := 2) C dL_law_306 ?_
  refine n_iadd C dL_law_307 ?_
  refine n_sld C X (i + 2) (by omega) (by omega) hL dL_law_308 ?_
  refine n_invSW C hnc (w_setScore hst (zz_rg xs (i + 1)) (zz_rg xs (i + 2)) hJ) ⟨w2_192, w2_194, w1_0, ⟨by decide, by decide⟩, by show _ = some 3; decide +kernel, by decide⟩ w2_193 (by decide) (by omega) (by omega) (Nat.le_of_ble_eq_true rfl) rfl dL_law_309 (fun r σ1 h' => ?_)
  obtain ⟨v1, rfl, hJ1, hv1⟩ := h'
  refine n_istore (lv' := [(5, iv (cdScore c (zz xs (i + 1)) (zz xs (i + 2)))), (4, iv (i : Int)), (3, .ref w), (2, .ref o), (1, .ref x0), (0, .ref b)]) C dL_law_312 (by rw [hN]; decide) rfl ?_
  refine n_aload_n C dL_law_314 rfl ?_
  refine n_aload_n C dL_law_315 rfl ?_
  refine n_iload C dL_law_316 rfl ?_
  refine n_iconst (x := 1) C dL_law_318 ?_
  refine n_iadd C dL_law_319 ?_
  refine n_sld C X (i + 1) (by omega) (by omega) hL dL_law_320 ?_
  refine n_aload_n C dL_law_321 rfl ?_
  refine n_iload C dL_law_322 rfl ?_
  refine n_iconst (x := 2) C dL_law_324 ?_
  refine n_iadd C dL_law_325 ?_
  refine n_sld C X (i + 2) (by omega) (by omega) hL dL_law_326 ?_
  refine n_invV C (c_rsetScore hst (zz_rg xs (i + 1)) (zz_rg xs (i + 2)) hR hJ1.2.1 hc hw) ⟨w4_229, w4_232, w1_5, ⟨by decide, by decide⟩, by show _ = some 2; decide +kernel, by decide⟩ w4_230 w4_231 hJ1.2.1.1 (show vwCl[6]? = some ("OperaMachinesModel", TX3, 27) from rfl) (by decide) (by omega) (by omega) (Nat.le_of_ble_eq_true rfl) rfl dL_law_327 (fun r σ2 h' => ?_) (fun _ _ h => h.elim)
  obtain ⟨M1, rfl, hM1, ht1, hy0, hy1⟩ := h'
  have hJ2 := hJ1.ref hM1
  have hc2 : cut M1 = (if cdScore c (zz xs (i + 1)) (zz xs (i + 2)) = 0 then nxScore c (zz xs (i + 1)) (zz xs (i + 2)) else c) := by
    by_cases h : cdScore c (zz xs (i + 1)) (zz xs (i + 2)) = 0
    · rw [if_pos h]; exact (hy0 h)
    · rw [if_neg h]; exact hy1 h
  refine n_aload_n C dL_law_330 rfl ?_
  refine n_invV C (c_thrown hst hR hJ2.2.1 rfl) ⟨w4_210, w4_213, w1_5, ⟨by decide, by decide⟩, by show _ = some 0; decide +kernel, by decide⟩ w4_211 w4_212 hJ2.2.1.1 (show vwCl[6]? = some ("OperaMachinesModel", TX3, 27) from rfl) (by decide) (by omega) (by omega) (Nat.le_of_ble_eq_true rfl) rfl dL_law_331 (fun r σ3 h' => ?_) (fun _ _ h => h.elim)
  obtain ⟨rfl, hσ⟩ := h'
  rw [hσ, ht1]
  refine n_iload C dL_law_334 rfl ?_
  refine n_icmpE C 341 rfl dL_law_336 (by decide) ?_
  refine n_goto C 1193 dL_law_341 (by decide) ?_
  refine n_keep (lv' := [(4, iv (i : Int)), (3, .ref w), (2, .ref o), (1, .ref x0), (0, .ref b)]) [4, 3, 2, 1, 0] rfl ?_
  refine n_widen (k' := k + 20) (n' := n + 200) (by omega) (by omega) ?_
  exact K _ _ _ _ hJ2 hc2
set_option maxRecDepth 100000 in
set_option maxHeartbeats 4000000 in
theorem lc_3 {g : Gx} {Φ : Fx} {k n b L : Nat} {xs : Nat → Int32} {i : Nat} {o w x0 : Nat} {ar : Nat → Nat} {M c : Tb} {v : Int64} {σ : Wd} (hst : g.1.stackTraces = false) (C : Ok g Φ code "OperaMachinesLaw" ret 40 601024 7293034) (hnc : NCx Φ) (X : SX Φ b L xs) (hN : fN Φ = 7) (hL : L ≤ 2560) (hi : i + 5 ≤ L) (hJ : LJ g o w x0 ar M c v σ) (hc : cut M = c) (hk : k + 20 ≤ 601024) (hn : n + 200 ≤ 7293034) (K : ∀ (σ' : Wd) (M' c' : Tb) (v' : Int64), LJ g o w x0 ar M' c' v' σ' → cut M' = c' → N Φ (k + 20) (n + 200) σ' 1193 [(4, iv (i : Int)), (3, .ref w), (2, .ref o), (1, .ref x0), (0, .ref b)] []) : N Φ k n σ 344 [(4, iv (i : Int)), (3, .ref w), (2, .ref o), (1, .ref x0), (0, .ref b)] [] := by
  obtain ⟨hR, -, A0, D0, f0, -, -, -, hw, -⟩ := id hJ
  refine n_aload_n C dL_law_344 rfl ?_
  refine n_aload_n C dL_law_345 rfl ?_
  refine n_iload C dL_law_346 rfl ?_
  refine n_iconst (x := 1) C dL_law_348 ?_
  refine n_iadd C dL_law_349 ?_
  refine n_sld C X (i + 1) (by omega) (by omega) hL dL_law_350 ?_
  refine n_aload_n C dL_law_351 rfl ?_
  refine n_iload C dL_law_352 rfl ?_
  refine n_iconst (x := 2) C dL_law_354 ?_
  refine n_iadd C dL_law_355 ?_
  refine n_sld C X (i + 2) (by omega) (by omega) hL dL_law_356 ?_
  refine n_aload_n C dL_law_357 rfl ?_
  refine n_iload C dL_law_358 rfl ?_
  refine n_iconst (x := 3) C dL_law_360 ?_
  refine n_iadd C dL_law_361 ?_
  refine n_sld C X (i + 3) (by omega) (by omega) hL dL_law_362 ?_
  refine n_aload_n C dL_law_363 rfl ?_
  refine n_iload C dL_law_364 rfl ?_
  refine n_iconst (x := 4) C dL_law_366 ?_
  refine n_iadd C dL_law_367 ?_
  refine n_sld C X (i + 4) (by omega) (by omega) hL dL_law_368 ?_
  refine n_aload_n C dL_law_369 rfl ?_
  refine n_invSW C hnc (w_cue hst (zz_rg xs (i + 1)) (zz_rg xs (i + 2)) (zz_rg xs (i + 3)) (zz_rg xs (i + 4)) hJ) ⟨w2_200, w2_202, w1_0, ⟨by decide, by decide⟩, by show _ = some 6; decide +kernel, by decide⟩ w2_201 (by decide) (by omega) (by omega) (Nat.le_of_ble_eq_true rfl) rfl dL_law_370 (fun r σ1 h' => ?_)
  obtain ⟨v1, rfl, hJ1, hv1⟩ := h'
  refine n_istore (lv' := [(5, iv (cdCue c (zz xs (i + 1)) (zz xs (i + 2)) (zz xs (i + 3)) (zz xs (i + 4)))), (4, iv (i : Int)), (3, .ref w), (2, .ref o), (1, .ref x0), (0, .ref b)]) C dL_law_373 (by rw [hN]; decide) rfl ?_
  refine n_aload_n C dL_law_375 rfl ?_
  refine n_aload_n C dL_law_376 rfl ?_
  refine n_iload C dL_law_377 rfl ?_
  refine n_iconst (x := 1) C dL_law_379 ?_
  refine n_iadd C dL_law_380 ?_
  refine n_sld C X (i + 1) (by omega) (by omega) hL dL_law_381 ?_
  refine n_aload_n C dL_law_382 rfl ?_
  refine n_iload C dL_law_383 rfl ?_
  refine n_iconst (x := 2) C dL_law_385 ?_
  refine n_iadd C dL_law_386 ?_
  refine n_sld C X (i + 2) (by omega) (by omega) hL dL_law_387 ?_
  refine n_aload_n C dL_law_388 rfl ?_
  refine n_iload C dL_law_389 rfl ?_
  refine n_iconst (x := 3) C dL_law_391 ?_
  refine n_iadd C dL_law_392 ?_
  refine n_sld C X (i + 3) (by omega) (by omega) hL dL_law_393 ?_
  refine n_aload_n C dL_law_394 rfl ?_
  refine n_iload C dL_law_395 rfl ?_
  refine n_iconst (x := 4) C dL_law_397 ?_
  refine n_iadd C dL_law_398 ?_
  refine n_sld C X (i + 4) (by omega) (by omega) hL dL_law_399 ?_
  refine n_invV C (c_rcue hst (zz_rg xs (i + 1)) (zz_rg xs (i + 2)) (zz_rg xs (i + 3)) (zz_rg xs (i + 4)) hR hJ1.2.1 hc hw) ⟨w4_233, w4_236, w1_5, ⟨by decide, by decide⟩, by show _ = some 4; decide +kernel, by decide⟩ w4_234 w4_235 hJ1.2.1.1 (show vwCl[6]? = some ("OperaMachinesModel", TX3, 27) from rfl) (by decide) (by omega) (by omega) (Nat.le_of_ble_eq_true rfl) rfl dL_law_400 (fun r σ2 h' => ?_) (fun _ _ h => h.elim)
  obtain ⟨y, M1, rfl, hM1, ht1, hy0, hy1⟩ := h'
  have hJ2 := hJ1.ref hM1
  have hc2 : cut M1 = (if cdCue c (zz xs (i + 1)) (zz xs (i + 2)) (zz xs (i + 3)) (zz xs (i + 4)) = 0 then nxCue c (zz xs (i + 1)) (zz xs (i + 2)) (zz xs (i + 3)) (zz xs (i + 4)) else c) := by
    by_cases h : cdCue c (zz xs (i + 1)) (zz xs (i + 2)) (zz xs (i + 3)) (zz xs (i + 4)) = 0
    · rw [if_pos h]; exact (hy0 h).2
    · rw [if_neg h]; exact hy1 h
  refine n_istore (lv' := [(6, iv y), (5, iv (cdCue c (zz xs (i + 1)) (zz xs (i + 2)) (zz xs (i + 3)) (zz xs (i + 4)))), (4, iv (i : Int)), (3, .ref w), (2, .ref o), (1, .ref x0), (0, .ref b)]) C dL_law_403 (by rw [hN]; decide) rfl ?_
  refine n_aload_n C dL_law_405 rfl ?_
  refine n_invV C (c_thrown hst hR hJ2.2.1 rfl) ⟨w4_210, w4_213, w1_5, ⟨by decide, by decide⟩, by show _ = some 0; decide +kernel, by decide⟩ w4_211 w4_212 hJ2.2.1.1 (show vwCl[6]? = some ("OperaMachinesModel", TX3, 27) from rfl) (by decide) (by omega) (by omega) (Nat.le_of_ble_eq_true rfl) rfl dL_law_406 (fun r σ3 h' => ?_) (fun _ _ h => h.elim)
  obtain ⟨rfl, hσ⟩ := h'
  rw [hσ, ht1]
  refine n_iload C dL_law_409 rfl ?_
  refine n_icmpE C 416 rfl dL_law_411 (by decide) ?_
  refine n_iload C dL_law_416 rfl ?_
  refine n_if_ne C 433 dL_law_418 (by decide) (cdCue_rg c (zz xs (i + 1)) (zz xs (i + 2)) (zz xs (i + 3)) (zz xs (i + 4))) (fun _ => ?_) (fun h0 => ?_)
  · refine n_goto C 1193 dL_law_433 (by decide) ?_
    refine n_keep (lv' := [(4, iv (i : Int)), (3, .ref w), (2, .ref o), (1, .ref x0), (0, .ref b)]) [4, 3, 2, 1, 0] rfl ?_
    refine n_widen (k' := k + 20) (n' := n + 200) (by omega) (by omega) ?_
    exact K _ _ _ _ hJ2 hc2
  · obtain ⟨-, -, A2, D2, f2, -, -, -, -, hw2, hf2, -⟩ := id hJ2
    refine n_aload_n C dL_law_421 rfl ?_
    refine n_iconst (x := 0) C dL_law_422 ?_
    refine n_lald C hw2 (by omega) (by omega) (by omega) dL_law_423 ?_
    refine n_iload C dL_law_424 rfl ?_
    refine n_i2l C dL_law_426 ?_
    refine n_lcmpE C (show f2 0 = (iI y).toInt64 from by rw [hf2, hv1 _ rfl h0]; rw [(hy0 h0).1]) dL_law_427 ?_
    refine n_if_eq C 433 dL_law_428 (by decide) rg_0 (fun _ => ?_) (fun h => (h rfl).elim)
    refine n_goto C 1193 dL_law_433 (by decide) ?_
    refine n_keep (lv' := [(4, iv (i : Int)), (3, .ref w), (2, .ref o), (1, .ref x0), (0, .ref b)]) [4, 3, 2, 1, 0] rfl ?_
    refine n_widen (k' := k + 20) (n' := n + 200) (by omega) (by omega) ?_
    exact K _ _ _ _ hJ2 hc2
set_option maxRecDepth 100000 in
set_option maxHeartbeats 4000000 in
theorem lc_4 {g : Gx} {Φ : Fx} {k n b L : Nat} {xs : Nat → Int32} {i : Nat} {o w x0 : Nat} {ar : Nat → Nat} {M c : Tb} {v : Int64} {σ : Wd} (hst : g.1.stackTraces = false) (C : Ok g Φ code "OperaMachinesLaw" ret 40 601024 7293034) (hnc : NCx Φ) (X : SX Φ b L xs) (hN : fN Φ = 7) (hL : L ≤ 2560) (hi : i + 5 ≤ L) (hJ : LJ g o w x0 ar M c v σ) (hc : cut M = c) (hk : k + 20 ≤ 601024) (hn : n + 200 ≤ 7293034) (K : ∀ (σ' : Wd) (M' c' : Tb) (v' : Int64), LJ g o w x0 ar M' c' v' σ' → cut M' = c' → N Φ (k + 20) (n + 200) σ' 1193 [(4, iv (i : Int)), (3, .ref w), (2, .ref o), (1, .ref x0), (0, .ref b)] []) : N Φ k n σ 436 [(4, iv (i : Int)), (3, .ref w), (2, .ref o), (1, .ref x0), (0, .ref b)] [] := by
  obtain ⟨hR, -, A0, D0, f0, -, -, -, hw, -⟩ := id hJ
  refine n_aload_n C dL_law_436 rfl ?_
  refine n_aload_n C dL_law_437 rfl ?_
  refine n_iload C dL_law_438 rfl ?_
  refine n_iconst (x := 1) C dL_law_440 ?_
  refine n_iadd C dL_law_441 ?_
  refine n_sld C X (i + 1) (by omega) (by omega) hL dL_law_442 ?_
  refine n_aload_n C dL_law_443 rfl ?_
  refine n_invSW C hnc (w_strikeOut hst (zz_rg xs (i + 1)) hJ) ⟨w4_36, w4_38, w1_0, ⟨by decide, by decide⟩, by show _ = some 3; decide +kernel, by decide⟩ w4_37 (by decide) (by omega) (by omega) (Nat.le_of_ble_eq_true rfl) rfl dL_law_444 (fun r σ1 h' => ?_)
  obtain ⟨v1, rfl, hJ1, hv1⟩ := h'
  refine n_istore (lv' := [(5, iv (cdIs c (zz xs (i + 1)))), (4, iv (i : Int)), (3, .ref w), (2, .ref o), (1, .ref x0), (0, .ref b)]) C dL_law_447 (by rw [hN]; decide) rfl ?_
  refine n_aload_n C dL_law_449 rfl ?_
  refine n_aload_n C dL_law_450 rfl ?_
  refine n_iload C dL_law_451 rfl ?_
  refine n_iconst (x := 1) C dL_law_453 ?_
  refine n_iadd C dL_law_454 ?_
  refine n_sld C X (i + 1) (by omega) (by omega) hL dL_law_455 ?_
  refine n_invV C (c_rstrikeOut hst (zz_rg xs (i + 1)) hR hJ1.2.1 hc hw) ⟨w5_4, w5_7, w1_5, ⟨by decide, by decide⟩, by show _ = some 1; decide +kernel, by decide⟩ w5_5 w5_6 hJ1.2.1.1 (show vwCl[6]? = some ("OperaMachinesModel", TX3, 27) from rfl) (by decide) (by omega) (by omega) (Nat.le_of_ble_eq_true rfl) rfl dL_law_456 (fun r σ2 h' => ?_) (fun _ _ h => h.elim)
  obtain ⟨y, M1, rfl, hM1, ht1, hy0, hy1⟩ := h'
  have hJ2 := hJ1.ref hM1
  have hc2 : cut M1 = (if cdIs c (zz xs (i + 1)) = 0 then nxOut c (zz xs (i + 1)) else c) := by
    by_cases h : cdIs c (zz xs (i + 1)) = 0
    · rw [if_pos h]; exact (hy0 h).2
    · rw [if_neg h]; exact hy1 h
  refine n_istore (lv' := [(6, iv y), (5, iv (cdIs c (zz xs (i + 1)))), (4, iv (i : Int)), (3, .ref w), (2, .ref o), (1, .ref x0), (0, .ref b)]) C dL_law_459 (by rw [hN]; decide) rfl ?_
  refine n_aload_n C dL_law_461 rfl ?_
  refine n_invV C (c_thrown hst hR hJ2.2.1 rfl) ⟨w4_210, w4_213, w1_5, ⟨by decide, by decide⟩, by show _ = some 0; decide +kernel, by decide⟩ w4_211 w4_212 hJ2.2.1.1 (show vwCl[6]? = some ("OperaMachinesModel", TX3, 27) from rfl) (by decide) (by omega) (by omega) (Nat.le_of_ble_eq_true rfl) rfl dL_law_462 (fun r σ3 h' => ?_) (fun _ _ h => h.elim)
  obtain ⟨rfl, hσ⟩ := h'
  rw [hσ, ht1]
  refine n_iload C dL_law_465 rfl ?_
  refine n_icmpE C 472 rfl dL_law_467 (by decide) ?_
  refine n_iload C dL_law_472 rfl ?_
  refine n_if_ne C 489 dL_law_474 (by decide) (cdIs_rg c (zz xs (i + 1))) (fun _ => ?_) (fun h0 => ?_)
  · refine n_goto C 1193 dL_law_489 (by decide) ?_
    refine n_keep (lv' := [(4, iv (i : Int)), (3, .ref w), (2, .ref o), (1, .ref x0), (0, .ref b)]) [4, 3, 2, 1, 0] rfl ?_
    refine n_widen (k' := k + 20) (n' := n + 200) (by omega) (by omega) ?_
    exact K _ _ _ _ hJ2 hc2
  · obtain ⟨-, -, A2, D2, f2, -, -, -, -, hw2, hf2, -⟩ := id hJ2
    refine n_aload_n C dL_law_477 rfl ?_
    refine n_iconst (x := 0) C dL_law_478 ?_
    refine n_lald C hw2 (by omega) (by omega) (by omega) dL_law_479 ?_
    refine n_iload C dL_law_480 rfl ?_
    refine n_i2l C dL_law_482 ?_
    refine n_lcmpE C (show f2 0 = (iI y).toInt64 from by rw [hf2, hv1 _ rfl h0]; rw [(hy0 h0).1]) dL_law_483 ?_
    refine n_if_eq C 489 dL_law_484 (by decide) rg_0 (fun _ => ?_) (fun h => (h rfl).elim)
    refine n_goto C 1193 dL_law_489 (by decide) ?_
    refine n_keep (lv' := [(4, iv (i : Int)), (3, .ref w), (2, .ref o), (1, .ref x0), (0, .ref b)]) [4, 3, 2, 1, 0] rfl ?_
    refine n_widen (k' := k + 20) (n' := n + 200) (by omega) (by omega) ?_
    exact K _ _ _ _ hJ2 hc2
set_option maxRecDepth 100000 in
set_option maxHeartbeats 4000000 in
theorem lc_5 {g : Gx} {Φ : Fx} {k n b L : Nat} {xs : Nat → Int32} {i : Nat} {o w x0 : Nat} {ar : Nat → Nat} {M c : Tb} {v : Int64} {σ : Wd} (hst : g.1.stackTraces = false) (C : Ok g Φ code "OperaMachinesLaw" ret 40 601024 7293034) (hnc : NCx Φ) (X : SX Φ b L xs) (hN : fN Φ = 7) (hL : L ≤ 2560) (hi : i + 5 ≤ L) (hJ : LJ g o w x0 ar M c v σ) (hc : cut M = c) (hk : k + 20 ≤ 601024) (hn : n + 200 ≤ 7293034) (K : ∀ (σ' : Wd) (M' c' : Tb) (v' : Int64), LJ g o w x0 ar M' c' v' σ' → cut M' = c' → N Φ (k + 20) (n + 200) σ' 1193 [(4, iv (i : Int)), (3, .ref w), (2, .ref o), (1, .ref x0), (0, .ref b)] []) : N Φ k n σ 492 [(4, iv (i : Int)), (3, .ref w), (2, .ref o), (1, .ref x0), (0, .ref b)] [] := by
  obtain ⟨hR, -, A0, D0, f0, -, -, -, hw, -⟩ := id hJ
  refine n_aload_n C dL_law_492 rfl ?_
  refine n_aload_n C dL_law_493 rfl ?_
  refine n_iload C dL_law_494 rfl ?_
  refine n_iconst (x := 1) C dL_law_496 ?_
  refine n_iadd C dL_law_497 ?_
  refine n_sld C X (i + 1) (by omega) (by omega) hL dL_law_498 ?_
  refine n_aload_n C dL_law_499 rfl ?_
  refine n_invSW C hnc (w_setTempo hst (zz_rg xs (i + 1)) hJ) ⟨w4_52, w4_54, w1_0, ⟨by decide, by decide⟩, by show _ = some 3; decide +kernel, by decide⟩ w4_53 (by decide) (by omega) (by omega) (Nat.le_of_ble_eq_true rfl) rfl dL_law_500 (fun r σ1 h' => ?_)
  obtain ⟨v1, rfl, hJ1, hv1⟩ := h'
  refine n_istore (lv' := [(5, iv (cdTempo (zz xs (i + 1)))), (4, iv (i : Int)), (3, .ref w), (2, .ref o), (1, .ref x0), (0, .ref b)]) C dL_law_503 (by rw [hN]; decide) rfl ?_
  refine n_aload_n C dL_law_505 rfl ?_
  refine n_aload_n C dL_law_506 rfl ?_
  refine n_iload C dL_law_507 rfl ?_
  refine n_iconst (x := 1) C dL_law_509 ?_
  refine n_iadd C dL_law_510 ?_
  refine n_sld C X (i + 1) (by omega) (by omega) hL dL_law_511 ?_
  refine n_invV C (c_rsetTempo hst (zz_rg xs (i + 1)) hR hJ1.2.1 hc hw) ⟨w5_12, w5_15, w1_5, ⟨by decide, by decide⟩, by show _ = some 1; decide +kernel, by decide⟩ w5_13 w5_14 hJ1.2.1.1 (show vwCl[6]? = some ("OperaMachinesModel", TX3, 27) from rfl) (by decide) (by omega) (by omega) (Nat.le_of_ble_eq_true rfl) rfl dL_law_512 (fun r σ2 h' => ?_) (fun _ _ h => h.elim)
  obtain ⟨y, M1, rfl, hM1, ht1, hy0, hy1⟩ := h'
  have hJ2 := hJ1.ref hM1
  have hc2 : cut M1 = (if cdTempo (zz xs (i + 1)) = 0 then nxTempo c (zz xs (i + 1)) else c) := by
    by_cases h : cdTempo (zz xs (i + 1)) = 0
    · rw [if_pos h]; exact (hy0 h).2
    · rw [if_neg h]; exact hy1 h
  refine n_istore (lv' := [(6, iv y), (5, iv (cdTempo (zz xs (i + 1)))), (4, iv (i : Int)), (3, .ref w), (2, .ref o), (1, .ref x0), (0, .ref b)]) C dL_law_515 (by rw [hN]; decide) rfl ?_
  refine n_aload_n C dL_law_517 rfl ?_
  refine n_invV C (c_thrown hst hR hJ2.2.1 rfl) ⟨w4_210, w4_213, w1_5, ⟨by decide, by decide⟩, by show _ = some 0; decide +kernel, by decide⟩ w4_211 w4_212 hJ2.2.1.1 (show vwCl[6]? = some ("OperaMachinesModel", TX3, 27) from rfl) (by decide) (by omega) (by omega) (Nat.le_of_ble_eq_true rfl) rfl dL_law_518 (fun r σ3 h' => ?_) (fun _ _ h => h.elim)
  obtain ⟨rfl, hσ⟩ := h'
  rw [hσ, ht1]
  refine n_iload C dL_law_521 rfl ?_
  refine n_icmpE C 528 rfl dL_law_523 (by decide) ?_
  refine n_iload C dL_law_528 rfl ?_
  refine n_if_ne C 545 dL_law_530 (by decide) (cdTempo_rg (zz xs (i + 1))) (fun _ => ?_) (fun h0 => ?_)
  · refine n_goto C 1193 dL_law_545 (by decide) ?_
    refine n_keep (lv' := [(4, iv (i : Int)), (3, .ref w), (2, .ref o), (1, .ref x0), (0, .ref b)]) [4, 3, 2, 1, 0] rfl ?_
    refine n_widen (k' := k + 20) (n' := n + 200) (by omega) (by omega) ?_
    exact K _ _ _ _ hJ2 hc2
  · obtain ⟨-, -, A2, D2, f2, -, -, -, -, hw2, hf2, -⟩ := id hJ2
    refine n_aload_n C dL_law_533 rfl ?_
    refine n_iconst (x := 0) C dL_law_534 ?_
    refine n_lald C hw2 (by omega) (by omega) (by omega) dL_law_535 ?_
    refine n_iload C dL_law_536 rfl ?_
    refine n_i2l C dL_law_538 ?_
    refine n_lcmpE C (show f2 0 = (iI y).toInt64 from by rw [hf2, hv1 _ rfl h0]; rw [(hy0 h0).1]) dL_law_539 ?_
    refine n_if_eq C 545 dL_law_540 (by decide) rg_0 (fun _ => ?_) (fun h => (h rfl).elim)
    refine n_goto C 1193 dL_law_545 (by decide) ?_
    refine n_keep (lv' := [(4, iv (i : Int)), (3, .ref w), (2, .ref o), (1, .ref x0), (0, .ref b)]) [4, 3, 2, 1, 0] rfl ?_
    refine n_widen (k' := k + 20) (n' := n + 200) (by omega) (by omega) ?_
    exact K _ _ _ _ hJ2 hc2
set_option maxRecDepth 100000 in
set_option maxHeartbeats 4000000 in
theorem lc_6 {g : Gx} {Φ : Fx} {k n b L : Nat} {xs : Nat → Int32} {i : Nat} {o w x0 : Nat} {ar : Nat → Nat} {M c : Tb} {v : Int64} {σ : Wd} (hst : g.1.stackTraces = false) (C : Ok g Φ code "OperaMachinesLaw" ret 40 601024 7293034) (hnc : NCx Φ) (X : SX Φ b L xs) (hN : fN Φ = 7) (hL : L ≤ 2560) (hi : i + 5 ≤ L) (hJ : LJ g o w x0 ar M c v σ) (hc : cut M = c) (hk : k + 20 ≤ 601024) (hn : n + 200 ≤ 7293034) (K : ∀ (σ' : Wd) (M' c' : Tb) (v' : Int64), LJ g o w x0 ar M' c' v' σ' → cut M' = c' → N Φ (k + 20) (n + 200) σ' 1193 [(4, iv (i : Int)), (3, .ref w), (2, .ref o), (1, .ref x0), (0, .ref b)] []) : N Φ k n σ 548 [(4, iv (i : Int)), (3, .ref w), (2, .ref o), (1, .ref x0), (0, .ref b)] [] := by
  obtain ⟨hR, -, A0, D0, f0, -, -, -, hw, -⟩ := id hJ
  refine n_aload_n C dL_law_548 rfl ?_
  refine n_aload_n C dL_law_549 rfl ?_
  refine n_iload C dL_law_550 rfl ?_
  refine n_iconst (x := 1) C dL_law_552 ?_
  refine n_iadd C dL_law_553 ?_
  refine n_sld C X (i + 1) (by omega) (by omega) hL dL_law_554 ?_
  refine n_aload_n C dL_law_555 rfl ?_
  refine n_iload C dL_law_556 rfl ?_
  refine n_iconst (x := 2) C dL_law_558 ?_
  refine n_iadd C dL_law_559 ?_
  refine n_sld C X (i + 2) (by omega) (by omega) hL dL_law_560 ?_
  refine n_invSW C hnc (w_setRules hst (zz_rg xs (i + 1)) (zz_rg xs (i + 2)) hJ) ⟨w4_59, w4_61, w1_0, ⟨by decide, by decide⟩, by show _ = some 3; decide +kernel, by decide⟩ w4_60 (by decide) (by omega) (by omega) (Nat.le_of_ble_eq_true rfl) rfl dL_law_561 (fun r σ1 h' => ?_)
  obtain ⟨v1, rfl, hJ1, hv1⟩ := h'
  refine n_istore (lv' := [(5, iv (cdRules (zz xs (i + 1)) (zz xs (i + 2)))), (4, iv (i : Int)), (3, .ref w), (2, .ref o), (1, .ref x0), (0, .ref b)]) C dL_law_564 (by rw [hN]; decide) rfl ?_
  refine n_aload_n C dL_law_566 rfl ?_
  refine n_aload_n C dL_law_567 rfl ?_
  refine n_iload C dL_law_568 rfl ?_
  refine n_iconst (x := 1) C dL_law_570 ?_
  refine n_iadd C dL_law_571 ?_
  refine n_sld C X (i + 1) (by omega) (by omega) hL dL_law_572 ?_
  refine n_aload_n C dL_law_573 rfl ?_
  refine n_iload C dL_law_574 rfl ?_
  refine n_iconst (x := 2) C dL_law_576 ?_
  refine n_iadd C dL_law_577 ?_
  refine n_sld C X (i + 2) (by omega) (by omega) hL dL_law_578 ?_
  refine n_invV C (c_rsetRules hst (zz_rg xs (i + 1)) (zz_rg xs (i + 2)) hR hJ1.2.1 hc hw) ⟨w5_16, w5_19, w1_5, ⟨by decide, by decide⟩, by show _ = some 2; decide +kernel, by decide⟩ w5_17 w5_18 hJ1.2.1.1 (show vwCl[6]? = some ("OperaMachinesModel", TX3, 27) from rfl) (by decide) (by omega) (by omega) (Nat.le_of_ble_eq_true rfl) rfl dL_law_579 (fun r σ2 h' => ?_) (fun _ _ h => h.elim)
  obtain ⟨M1, rfl, hM1, ht1, hy0, hy1⟩ := h'
  have hJ2 := hJ1.ref hM1
  have hc2 : cut M1 = (if cdRules (zz xs (i + 1)) (zz xs (i + 2)) = 0 then nxRules c (zz xs (i + 1)) (zz xs (i + 2)) else c) := by
    by_cases h : cdRules (zz xs (i + 1)) (zz xs (i + 2)) = 0
    · rw [if_pos h]; exact (hy0 h)
    · rw [if_neg h]; exact hy1 h
  refine n_aload_n C dL_law_582 rfl ?_
  refine n_invV C (c_thrown hst hR hJ2.2.1 rfl) ⟨w4_210, w4_213, w1_5, ⟨by decide, by decide⟩, by show _ = some 0; decide +kernel, by decide⟩ w4_211 w4_212 hJ2.2.1.1 (show vwCl[6]? = some ("OperaMachinesModel", TX3, 27) from rfl) (by decide) (by omega) (by omega) (Nat.le_of_ble_eq_true rfl) rfl dL_law_583 (fun r σ3 h' => ?_) (fun _ _ h => h.elim)
  obtain ⟨rfl, hσ⟩ := h'
  rw [hσ, ht1]
  refine n_iload C dL_law_586 rfl ?_
  refine n_icmpE C 593 rfl dL_law_588 (by decide) ?_
  refine n_goto C 1193 dL_law_593 (by decide) ?_
  refine n_keep (lv' := [(4, iv (i : Int)), (3, .ref w), (2, .ref o), (1, .ref x0), (0, .ref b)]) [4, 3, 2, 1, 0] rfl ?_
  refine n_widen (k' := k + 20) (n' := n + 200) (by omega) (by omega) ?_
  exact K _ _ _ _ hJ2 hc2
set_option maxRecDepth 100000 in
set_option maxHeartbeats 4000000 in
theorem lc_7 {g : Gx} {Φ : Fx} {k n b L : Nat} {xs : Nat → Int32} {i : Nat} {o w x0 : Nat} {ar : Nat → Nat} {M c : Tb} {v : Int64} {σ : Wd} (hst : g.1.stackTraces = false) (C : Ok g Φ code "OperaMachinesLaw" ret 40 601024 7293034) (hnc : NCx Φ) (X : SX Φ b L xs) (hN : fN Φ = 7) (hL : L ≤ 2560) (hi : i + 5 ≤ L) (hJ : LJ g o w x0 ar M c v σ) (hc : cut M = c) (hk : k + 20 ≤ 601024) (hn : n + 200 ≤ 7293034) (K : ∀ (σ' : Wd) (M' c' : Tb) (v' : Int64), LJ g o w x0 ar M' c' v' σ' → cut M' = c' → N Φ (k + 20) (n + 200) σ' 1193 [(4, iv (i : Int)), (3, .ref w), (2, .ref o), (1, .ref x0), (0, .ref b)] []) : N Φ k n σ 596 [(4, iv (i : Int)), (3, .ref w), (2, .ref o), (1, .ref x0), (0, .ref b)] [] := by
  obtain ⟨hR, -, A0, D0, f0, -, -, -, hw, -⟩ := id hJ
  by_cases hz : zz xs (i + 2) = 0
  · refine n_aload_n C dL_law_596 rfl ?_
    refine n_aload_n C dL_law_597 rfl ?_
    refine n_iload C dL_law_598 rfl ?_
    refine n_iconst (x := 1) C dL_law_600 ?_
    refine n_iadd C dL_law_601 ?_
    refine n_sld C X (i + 1) (by omega) (by omega) hL dL_law_602 ?_
    refine n_aload_n C dL_law_603 rfl ?_
    refine n_iload C dL_law_604 rfl ?_
    refine n_iconst (x := 2) C dL_law_606 ?_
    refine n_iadd C dL_law_607 ?_
    refine n_sld C X (i + 2) (by omega) (by omega) hL dL_law_608 ?_
    refine n_if_eq C 616 dL_law_609 (by decide) (zz_rg xs (i + 2)) (fun _ => ?_) (fun h => (h hz).elim)
    refine n_iconst (x := 0) C dL_law_616 ?_
    refine n_aload_n C dL_law_617 rfl ?_
    refine n_invSW C hnc (w_strike hst (zz_rg xs (i + 1)) (Or.inl rfl) hJ) ⟨w4_66, w4_68, w1_0, ⟨by decide, by decide⟩, by show _ = some 4; decide +kernel, by decide⟩ w4_67 (by decide) (by omega) (by omega) (Nat.le_of_ble_eq_true rfl) rfl dL_law_618 (fun r σ1 h' => ?_)
    obtain ⟨v1, rfl, hJ1, hv1⟩ := h'
    refine n_istore (lv' := [(5, iv (cdWork (zz xs (i + 1)))), (4, iv (i : Int)), (3, .ref w), (2, .ref o), (1, .ref x0), (0, .ref b)]) C dL_law_621 (by rw [hN]; decide) rfl ?_
    refine n_aload_n C dL_law_623 rfl ?_
    refine n_aload_n C dL_law_624 rfl ?_
    refine n_iload C dL_law_625 rfl ?_
    refine n_iconst (x := 1) C dL_law_627 ?_
    refine n_iadd C dL_law_628 ?_
    refine n_sld C X (i + 1) (by omega) (by omega) hL dL_law_629 ?_
    refine n_aload_n C dL_law_630 rfl ?_
    refine n_iload C dL_law_631 rfl ?_
    refine n_iconst (x := 2) C dL_law_633 ?_
    refine n_iadd C dL_law_634 ?_
    refine n_sld C X (i + 2) (by omega) (by omega) hL dL_law_635 ?_
    refine n_if_eq C 643 dL_law_636 (by decide) (zz_rg xs (i + 2)) (fun _ => ?_) (fun h => (h hz).elim)
    refine n_iconst (x := 0) C dL_law_643 ?_
    refine n_invV C (c_rstrike hst (zz_rg xs (i + 1)) (Or.inl rfl) hR hJ1.2.1 hc hw) ⟨w5_20, w5_23, w1_5, ⟨by decide, by decide⟩, by show _ = some 2; decide +kernel, by decide⟩ w5_21 w5_22 hJ1.2.1.1 (show vwCl[6]? = some ("OperaMachinesModel", TX3, 27) from rfl) (by decide) (by omega) (by omega) (Nat.le_of_ble_eq_true rfl) rfl dL_law_644 (fun r σ2 h' => ?_) (fun _ _ h => h.elim)
    obtain ⟨y, M1, rfl, hM1, ht1, hy0, hy1⟩ := h'
    have hJ2 := hJ1.ref hM1
    have hc2 : cut M1 = (if cdWork (zz xs (i + 1)) = 0 then nxStrike c (zz xs (i + 1)) 0 else c) := by
      by_cases h : cdWork (zz xs (i + 1)) = 0
      · rw [if_pos h]; exact (hy0 h).2
      · rw [if_neg h]; exact hy1 h
    refine n_istore (lv' := [(6, iv y), (5, iv (cdWork (zz xs (i + 1)))), (4, iv (i : Int)), (3, .ref w), (2, .ref o), (1, .ref x0), (0, .ref b)]) C dL_law_647 (by rw [hN]; decide) rfl ?_
    refine n_aload_n C dL_law_649 rfl ?_
    refine n_invV C (c_thrown hst hR hJ2.2.1 rfl) ⟨w4_210, w4_213, w1_5, ⟨by decide, by decide⟩, by show _ = some 0; decide +kernel, by decide⟩ w4_211 w4_212 hJ2.2.1.1 (show vwCl[6]? = some ("OperaMachinesModel", TX3, 27) from rfl) (by decide) (by omega) (by omega) (Nat.le_of_ble_eq_true rfl) rfl dL_law_650 (fun r σ3 h' => ?_) (fun _ _ h => h.elim)
    obtain ⟨rfl, hσ⟩ := h'
    rw [hσ, ht1]
    refine n_iload C dL_law_653 rfl ?_
    refine n_icmpE C 660 rfl dL_law_655 (by decide) ?_
    refine n_iload C dL_law_660 rfl ?_
    refine n_if_ne C 684 dL_law_662 (by decide) (cdWork_rg (zz xs (i + 1))) (fun _ => ?_) (fun h0 => ?_)
    · refine n_goto C 1193 dL_law_684 (by decide) ?_
      refine n_keep (lv' := [(4, iv (i : Int)), (3, .ref w), (2, .ref o), (1, .ref x0), (0, .ref b)]) [4, 3, 2, 1, 0] rfl ?_
      refine n_widen (k' := k + 20) (n' := n + 200) (by omega) (by omega) ?_
      exact K _ _ _ _ hJ2 hc2
    · obtain ⟨-, -, A2, D2, f2, -, -, -, -, hw2, hf2, -⟩ := id hJ2
      refine n_aload_n C dL_law_665 rfl ?_
      refine n_iconst (x := 0) C dL_law_666 ?_
      refine n_lald C hw2 (by omega) (by omega) (by omega) dL_law_667 ?_
      have w17 := (hw.2.2.2.2.2.2.2.2.2 (zz xs (i + 1)).toNat).1
      have hy : y = c 17 (zz xs (i + 1)).toNat := (hy0 h0).1
      refine n_iload C dL_law_668 rfl ?_
      refine n_if_eq C 677 dL_law_670 (by decide) (by unfold rg; omega) (fun hq => ?_) (fun hq => ?_)
      · refine n_lconst C (Int64.ofNat 0) dL_law_677 rfl ?_
        refine n_lcmpE C (show f2 0 = Int64.ofNat 0 from by rw [hf2, hv1 _ rfl h0]; rw [show c 17 (zz xs (i + 1)).toNat = 0 by omega]; decide) dL_law_678 ?_
        refine n_if_eq C 684 dL_law_679 (by decide) rg_0 (fun _ => ?_) (fun h => (h rfl).elim)
        refine n_goto C 1193 dL_law_684 (by decide) ?_
        refine n_keep (lv' := [(4, iv (i : Int)), (3, .ref w), (2, .ref o), (1, .ref x0), (0, .ref b)]) [4, 3, 2, 1, 0] rfl ?_
        refine n_widen (k' := k + 20) (n' := n + 200) (by omega) (by omega) ?_
        exact K _ _ _ _ hJ2 hc2
      · refine n_lconst C (Int64.ofNat 1) dL_law_673 rfl ?_
        refine n_goto C 678 dL_law_674 (by decide) ?_
        refine n_lcmpE C (show f2 0 = Int64.ofNat 1 from by rw [hf2, hv1 _ rfl h0]; rw [show c 17 (zz xs (i + 1)).toNat = 1 by omega]; decide) dL_law_678 ?_
        refine n_if_eq C 684 dL_law_679 (by decide) rg_0 (fun _ => ?_) (fun h => (h rfl).elim)
        refine n_goto C 1193 dL_law_684 (by decide) ?_
        refine n_keep (lv' := [(4, iv (i : Int)), (3, .ref w), (2, .ref o), (1, .ref x0), (0, .ref b)]) [4, 3, 2, 1, 0] rfl ?_
        refine n_widen (k' := k + 20) (n' := n + 200) (by omega) (by omega) ?_
        exact K _ _ _ _ hJ2 hc2
  · refine n_aload_n C dL_law_596 rfl ?_
    refine n_aload_n C dL_law_597 rfl ?_
    refine n_iload C dL_law_598 rfl ?_
    refine n_iconst (x := 1) C dL_law_600 ?_
    refine n_iadd C dL_law_601 ?_
    refine n_sld C X (i + 1) (by omega) (by omega) hL dL_law_602 ?_
    refine n_aload_n C dL_law_603 rfl ?_
    refine n_iload C dL_law_604 rfl ?_
    refine n_iconst (x := 2) C dL_law_606 ?_
    refine n_iadd C dL_law_607 ?_
    refine n_sld C X (i + 2) (by omega) (by omega) hL dL_law_608 ?_
    refine n_if_eq C 616 dL_law_609 (by decide) (zz_rg xs (i + 2)) (fun h => (hz h).elim) (fun _ => ?_)
    refine n_iconst (x := 1) C dL_law_612 ?_
    refine n_goto C 617 dL_law_613 (by decide) ?_
    refine n_aload_n C dL_law_617 rfl ?_
    refine n_invSW C hnc (w_strike hst (zz_rg xs (i + 1)) (Or.inr rfl) hJ) ⟨w4_66, w4_68, w1_0, ⟨by decide, by decide⟩, by show _ = some 4; decide +kernel, by decide⟩ w4_67 (by decide) (by omega) (by omega) (Nat.le_of_ble_eq_true rfl) rfl dL_law_618 (fun r σ1 h' => ?_)
    obtain ⟨v1, rfl, hJ1, hv1⟩ := h'
    refine n_istore (lv' := [(5, iv (cdWork (zz xs (i + 1)))), (4, iv (i : Int)), (3, .ref w), (2, .ref o), (1, .ref x0), (0, .ref b)]) C dL_law_621 (by rw [hN]; decide) rfl ?_
    refine n_aload_n C dL_law_623 rfl ?_
    refine n_aload_n C dL_law_624 rfl ?_
    refine n_iload C dL_law_625 rfl ?_
    refine n_iconst (x := 1) C dL_law_627 ?_
    refine n_iadd C dL_law_628 ?_
    refine n_sld C X (i + 1) (by omega) (by omega) hL dL_law_629 ?_
    refine n_aload_n C dL_law_630 rfl ?_
    refine n_iload C dL_law_631 rfl ?_
    refine n_iconst (x := 2) C dL_law_633 ?_
    refine n_iadd C dL_law_634 ?_
    refine n_sld C X (i + 2) (by omega) (by omega) hL dL_law_635 ?_
    refine n_if_eq C 643 dL_law_636 (by decide) (zz_rg xs (i + 2)) (fun h => (hz h).elim) (fun _ => ?_)
    refine n_iconst (x := 1) C dL_law_639 ?_
    refine n_goto C 644 dL_law_640 (by decide) ?_
    refine n_invV C (c_rstrike hst (zz_rg xs (i + 1)) (Or.inr rfl) hR hJ1.2.1 hc hw) ⟨w5_20, w5_23, w1_5, ⟨by decide, by decide⟩, by show _ = some 2; decide +kernel, by decide⟩ w5_21 w5_22 hJ1.2.1.1 (show vwCl[6]? = some ("OperaMachinesModel", TX3, 27) from rfl) (by decide) (by omega) (by omega) (Nat.le_of_ble_eq_true rfl) rfl dL_law_644 (fun r σ2 h' => ?_) (fun _ _ h => h.elim)
    obtain ⟨y, M1, rfl, hM1, ht1, hy0, hy1⟩ := h'
    have hJ2 := hJ1.ref hM1
    have hc2 : cut M1 = (if cdWork (zz xs (i + 1)) = 0 then nxStrike c (zz xs (i + 1)) 1 else c) := by
      by_cases h : cdWork (zz xs (i + 1)) = 0
      · rw [if_pos h]; exact (hy0 h).2
      · rw [if_neg h]; exact hy1 h
    refine n_istore (lv' := [(6, iv y), (5, iv (cdWork (zz xs (i + 1)))), (4, iv (i : Int)), (3, .ref w), (2, .ref o), (1, .ref x0), (0, .ref b)]) C dL_law_647 (by rw [hN]; decide) rfl ?_
    refine n_aload_n C dL_law_649 rfl ?_
    refine n_invV C (c_thrown hst hR hJ2.2.1 rfl) ⟨w4_210, w4_213, w1_5, ⟨by decide, by decide⟩, by show _ = some 0; decide +kernel, by decide⟩ w4_211 w4_212 hJ2.2.1.1 (show vwCl[6]? = some ("OperaMachinesModel", TX3, 27) from rfl) (by decide) (by omega) (by omega) (Nat.le_of_ble_eq_true rfl) rfl dL_law_650 (fun r σ3 h' => ?_) (fun _ _ h => h.elim)
    obtain ⟨rfl, hσ⟩ := h'
    rw [hσ, ht1]
    refine n_iload C dL_law_653 rfl ?_
    refine n_icmpE C 660 rfl dL_law_655 (by decide) ?_
    refine n_iload C dL_law_660 rfl ?_
    refine n_if_ne C 684 dL_law_662 (by decide) (cdWork_rg (zz xs (i + 1))) (fun _ => ?_) (fun h0 => ?_)
    · refine n_goto C 1193 dL_law_684 (by decide) ?_
      refine n_keep (lv' := [(4, iv (i : Int)), (3, .ref w), (2, .ref o), (1, .ref x0), (0, .ref b)]) [4, 3, 2, 1, 0] rfl ?_
      refine n_widen (k' := k + 20) (n' := n + 200) (by omega) (by omega) ?_
      exact K _ _ _ _ hJ2 hc2
    · obtain ⟨-, -, A2, D2, f2, -, -, -, -, hw2, hf2, -⟩ := id hJ2
      refine n_aload_n C dL_law_665 rfl ?_
      refine n_iconst (x := 0) C dL_law_666 ?_
      refine n_lald C hw2 (by omega) (by omega) (by omega) dL_law_667 ?_
      have w17 := (hw.2.2.2.2.2.2.2.2.2 (zz xs (i + 1)).toNat).1
      have hy : y = c 17 (zz xs (i + 1)).toNat := (hy0 h0).1
      refine n_iload C dL_law_668 rfl ?_
      refine n_if_eq C 677 dL_law_670 (by decide) (by unfold rg; omega) (fun hq => ?_) (fun hq => ?_)
      · refine n_lconst C (Int64.ofNat 0) dL_law_677 rfl ?_
        refine n_lcmpE C (show f2 0 = Int64.ofNat 0 from by rw [hf2, hv1 _ rfl h0]; rw [show c 17 (zz xs (i + 1)).toNat = 0 by omega]; decide) dL_law_678 ?_
        refine n_if_eq C 684 dL_law_679 (by decide) rg_0 (fun _ => ?_) (fun h => (h rfl).elim)
        refine n_goto C 1193 dL_law_684 (by decide) ?_
        refine n_keep (lv' := [(4, iv (i : Int)), (3, .ref w), (2, .ref o), (1, .ref x0), (0, .ref b)]) [4, 3, 2, 1, 0] rfl ?_
        refine n_widen (k' := k + 20) (n' := n + 200) (by omega) (by omega) ?_
        exact K _ _ _ _ hJ2 hc2
      · refine n_lconst C (Int64.ofNat 1) dL_law_673 rfl ?_
        refine n_goto C 678 dL_law_674 (by decide) ?_
        refine n_lcmpE C (show f2 0 = Int64.ofNat 1 from by rw [hf2, hv1 _ rfl h0]; rw [show c 17 (zz xs (i + 1)).toNat = 1 by omega]; decide) dL_law_678 ?_
        refine n_if_eq C 684 dL_law_679 (by decide) rg_0 (fun _ => ?_) (fun h => (h rfl).elim)
        refine n_goto C 1193 dL_law_684 (by decide) ?_
        refine n_keep (lv' := [(4, iv (i : Int)), (3, .ref w), (2, .ref o), (1, .ref x0), (0, .ref b)]) [4, 3, 2, 1, 0] rfl ?_
        refine n_widen (k' := k + 20) (n' := n + 200) (by omega) (by omega) ?_
        exact K _ _ _ _ hJ2 hc2
set_option maxRecDepth 100000 in
set_option maxHeartbeats 4000000 in
theorem lc_8 {g : Gx} {Φ : Fx} {k n b L : Nat} {xs : Nat → Int32} {i : Nat} {o w x0 : Nat} {ar : Nat → Nat} {M c : Tb} {v : Int64} {σ : Wd} (hst : g.1.stackTraces = false) (C : Ok g Φ code "OperaMachinesLaw" ret 40 601024 7293034) (hnc : NCx Φ) (X : SX Φ b L xs) (hN : fN Φ = 7) (hL : L ≤ 2560) (hi : i + 5 ≤ L) (hJ : LJ g o w x0 ar M c v σ) (hc : cut M = c) (hk : k + 20 ≤ 601024) (hn : n + 200 ≤ 7293034) (K : ∀ (σ' : Wd) (M' c' : Tb) (v' : Int64), LJ g o w x0 ar M' c' v' σ' → cut M' = c' → N Φ (k + 20) (n + 200) σ' 1193 [(4, iv (i : Int)), (3, .ref w), (2, .ref o), (1, .ref x0), (0, .ref b)] []) : N Φ k n σ 687 [(4, iv (i : Int)), (3, .ref w), (2, .ref o), (1, .ref x0), (0, .ref b)] [] := by
  obtain ⟨hR, -, A0, D0, f0, -, -, -, hw, -⟩ := id hJ
  refine n_aload_n C dL_law_687 rfl ?_
  refine n_aload_n C dL_law_688 rfl ?_
  refine n_iload C dL_law_689 rfl ?_
  refine n_iconst (x := 1) C dL_law_691 ?_
  refine n_iadd C dL_law_692 ?_
  refine n_sld C X (i + 1) (by omega) (by omega) hL dL_law_693 ?_
  refine n_aload_n C dL_law_694 rfl ?_
  refine n_iload C dL_law_695 rfl ?_
  refine n_iconst (x := 2) C dL_law_697 ?_
  refine n_iadd C dL_law_698 ?_
  refine n_sld C X (i + 2) (by omega) (by omega) hL dL_law_699 ?_
  refine n_aload_n C dL_law_700 rfl ?_
  refine n_invSW C hnc (w_substitute hst (zz_rg xs (i + 1)) (zz_rg xs (i + 2)) hJ) ⟨w4_73, w4_75, w1_0, ⟨by decide, by decide⟩, by show _ = some 4; decide +kernel, by decide⟩ w4_74 (by decide) (by omega) (by omega) (Nat.le_of_ble_eq_true rfl) rfl dL_law_701 (fun r σ1 h' => ?_)
  obtain ⟨v1, rfl, hJ1, hv1⟩ := h'
  refine n_istore (lv' := [(5, iv (cdSub (zz xs (i + 1)) (zz xs (i + 2)))), (4, iv (i : Int)), (3, .ref w), (2, .ref o), (1, .ref x0), (0, .ref b)]) C dL_law_704 (by rw [hN]; decide) rfl ?_
  refine n_aload_n C dL_law_706 rfl ?_
  refine n_aload_n C dL_law_707 rfl ?_
  refine n_iload C dL_law_708 rfl ?_
  refine n_iconst (x := 1) C dL_law_710 ?_
  refine n_iadd C dL_law_711 ?_
  refine n_sld C X (i + 1) (by omega) (by omega) hL dL_law_712 ?_
  refine n_aload_n C dL_law_713 rfl ?_
  refine n_iload C dL_law_714 rfl ?_
  refine n_iconst (x := 2) C dL_law_716 ?_
  refine n_iadd C dL_law_717 ?_
  refine n_sld C X (i + 2) (by omega) (by omega) hL dL_law_718 ?_
  refine n_invV C (c_rsubstitute hst (zz_rg xs (i + 1)) (zz_rg xs (i + 2)) hR hJ1.2.1 hc hw) ⟨w5_24, w5_27, w1_5, ⟨by decide, by decide⟩, by show _ = some 2; decide +kernel, by decide⟩ w5_25 w5_26 hJ1.2.1.1 (show vwCl[6]? = some ("OperaMachinesModel", TX3, 27) from rfl) (by decide) (by omega) (by omega) (Nat.le_of_ble_eq_true rfl) rfl dL_law_719 (fun r σ2 h' => ?_) (fun _ _ h => h.elim)
  obtain ⟨y, M1, rfl, hM1, ht1, hy0, hy1⟩ := h'
  have hJ2 := hJ1.ref hM1
  have hc2 : cut M1 = (if cdSub (zz xs (i + 1)) (zz xs (i + 2)) = 0 then nxSub c (zz xs (i + 1)) (zz xs (i + 2)) else c) := by
    by_cases h : cdSub (zz xs (i + 1)) (zz xs (i + 2)) = 0
    · rw [if_pos h]; exact (hy0 h).2
    · rw [if_neg h]; exact hy1 h
  refine n_istore (lv' := [(6, iv y), (5, iv (cdSub (zz xs (i + 1)) (zz xs (i + 2)))), (4, iv (i : Int)), (3, .ref w), (2, .ref o), (1, .ref x0), (0, .ref b)]) C dL_law_722 (by rw [hN]; decide) rfl ?_
  refine n_aload_n C dL_law_724 rfl ?_
  refine n_invV C (c_thrown hst hR hJ2.2.1 rfl) ⟨w4_210, w4_213, w1_5, ⟨by decide, by decide⟩, by show _ = some 0; decide +kernel, by decide⟩ w4_211 w4_212 hJ2.2.1.1 (show vwCl[6]? = some ("OperaMachinesModel", TX3, 27) from rfl) (by decide) (by omega) (by omega) (Nat.le_of_ble_eq_true rfl) rfl dL_law_725 (fun r σ3 h' => ?_) (fun _ _ h => h.elim)
  obtain ⟨rfl, hσ⟩ := h'
  rw [hσ, ht1]
  refine n_iload C dL_law_728 rfl ?_
  refine n_icmpE C 735 rfl dL_law_730 (by decide) ?_
  refine n_iload C dL_law_735 rfl ?_
  refine n_if_ne C 752 dL_law_737 (by decide) (cdSub_rg (zz xs (i + 1)) (zz xs (i + 2))) (fun _ => ?_) (fun h0 => ?_)
  · refine n_goto C 1193 dL_law_752 (by decide) ?_
    refine n_keep (lv' := [(4, iv (i : Int)), (3, .ref w), (2, .ref o), (1, .ref x0), (0, .ref b)]) [4, 3, 2, 1, 0] rfl ?_
    refine n_widen (k' := k + 20) (n' := n + 200) (by omega) (by omega) ?_
    exact K _ _ _ _ hJ2 hc2
  · obtain ⟨-, -, A2, D2, f2, -, -, -, -, hw2, hf2, -⟩ := id hJ2
    refine n_aload_n C dL_law_740 rfl ?_
    refine n_iconst (x := 0) C dL_law_741 ?_
    refine n_lald C hw2 (by omega) (by omega) (by omega) dL_law_742 ?_
    refine n_iload C dL_law_743 rfl ?_
    refine n_i2l C dL_law_745 ?_
    refine n_lcmpE C (show f2 0 = (iI y).toInt64 from by rw [hf2, hv1 _ rfl h0]; rw [(hy0 h0).1]) dL_law_746 ?_
    refine n_if_eq C 752 dL_law_747 (by decide) rg_0 (fun _ => ?_) (fun h => (h rfl).elim)
    refine n_goto C 1193 dL_law_752 (by decide) ?_
    refine n_keep (lv' := [(4, iv (i : Int)), (3, .ref w), (2, .ref o), (1, .ref x0), (0, .ref b)]) [4, 3, 2, 1, 0] rfl ?_
    refine n_widen (k' := k + 20) (n' := n + 200) (by omega) (by omega) ?_
    exact K _ _ _ _ hJ2 hc2
