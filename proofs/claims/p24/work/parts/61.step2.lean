set_option maxRecDepth 100000 in
set_option maxHeartbeats 4000000 in
theorem st_cue {g : Gx} {Φ : Fx} (hst : g.1.stackTraces = false) (C : Ok g Φ cL_step "OperaMachinesLaw" (some .boolean) 9 5 146) {x am aq ac az : Nat} {c : Tb} {σ0 σ : Wd} (Rr : Rt Φ σ0 (STP g x am aq ac az) (fun _ _ => False) 5 146) (hN : fN Φ = 12) (hJ : SJ g x am aq ac az c c σ) {wh u v : Int} (hwh : 0 ≤ wh ∧ wh < 12) (hu : 0 ≤ u ∧ u < 1073741824) (hv : 0 ≤ v ∧ v < 1073741824) (h00 : 1 ≤ c 0 0) : N Φ 0 0 σ 226 [(0, .ref x), (1, iv wh), (2, iv u), (3, iv v), (4, .ref am), (5, .ref aq), (6, .ref ac), (7, .ref az)] [] := by
  obtain ⟨hdis, -, ⟨fm, hmI, hm⟩, ⟨fq, hqI, hq⟩, ⟨fc, hcI, hc⟩, fz, hzI, hz⟩ := id hJ
  have hw := hJ.wf
  obtain ⟨w0, w6, w12, w13, w14, w15, w16, wm, wq, ww⟩ := id hw
  have hLr := lenB_rg hw (T := c 14 0) w14.1
  obtain ⟨L, hL⟩ : ∃ L : Nat, lenB c (c 14 0) = L := ⟨(lenB c (c 14 0)).toNat, by omega⟩
  rw [hL] at hLr
  have hLL : LL c = L := by unfold LL; omega
  obtain ⟨n12, h12⟩ : ∃ n : Nat, c 12 0 = n := ⟨(c 12 0).toNat, by omega⟩
  obtain ⟨n0, hn0⟩ : ∃ n : Nat, c 0 0 = n := ⟨(c 0 0).toNat, by omega⟩
  obtain ⟨n6, hn6⟩ : ∃ n : Nat, c 6 0 = n := ⟨(c 6 0).toNat, by omega⟩
  obtain ⟨NN, hNd⟩ : ∃ NN : Nat, n12 * L = NN := ⟨_, rfl⟩
  have hNN : NN ≤ 2400 := by
    rw [← hNd]
    exact Nat.mul_le_mul (show n12 ≤ 30 by omega) (show L ≤ 80 by omega)
  have hNL : c 12 0 * lenB c (c 14 0) = (NN : Int) := by rw [h12, hL, ← Int.natCast_mul, hNd]
  have hNT : NT c L = NN := by
    unfold NT
    rw [show (c 12 0).toNat = n12 by omega]
    exact hNd
  obtain ⟨d1, d2, d3, d4, d5, d6⟩ := id hdis
  have hO : OBp g x am aq ac az c σ := hJ.2.1
  refine n_iload_n C dL_step_226 rfl ?_
  refine n_aload C dL_step_227 rfl ?_
  refine n_iconst (x := 0) C dL_step_229 ?_
  refine n_ialdv C (c 0 0) hc (by omega) (by omega) (by omega) hcI.1 dL_step_230 ?_
  refine n_iremP C dL_step_231 (by unfold rg; omega) (by unfold rg; omega) (by omega) (by omega) ?_
  have hi0 : 0 ≤ u % c 0 0 := Int.emod_nonneg _ (by omega)
  have hi1 : u % c 0 0 < c 0 0 := Int.emod_lt_of_pos _ (by omega)
  obtain ⟨i, hi⟩ : ∃ i : Nat, u % c 0 0 = i := ⟨(u % c 0 0).toNat, by omega⟩
  rw [hi] at hi0 hi1 ⊢
  refine n_istore (lv' := [(8, iv (i : Int)), (0, .ref x), (1, iv wh), (2, iv u), (3, iv v), (4, .ref am), (5, .ref aq), (6, .ref ac), (7, .ref az)]) C dL_step_232 (by rw [hN]; decide) rfl ?_
  refine n_iload_n C dL_step_234 rfl ?_
  refine n_aload C dL_step_235 rfl ?_
  refine n_iconst (x := 2) C dL_step_237 ?_
  refine n_ialdv C (c 12 0) hc (by omega) (by omega) (by omega) hcI.2.2.1 dL_step_238 ?_
  refine n_iremP C dL_step_239 (by unfold rg; omega) (by unfold rg; omega) (by omega) (by omega) ?_
  have hb0 : 0 ≤ v % c 12 0 := Int.emod_nonneg _ (by omega)
  have hb1 : v % c 12 0 < c 12 0 := Int.emod_lt_of_pos _ (by omega)
  obtain ⟨b, hb⟩ : ∃ b : Nat, v % c 12 0 = b := ⟨(v % c 12 0).toNat, by omega⟩
  rw [hb] at hb0 hb1 ⊢
  have htk := tkL_at hw i
  have h12' := w12
  refine n_istore (lv' := [(9, iv (b : Int)), (8, iv (i : Int)), (0, .ref x), (1, iv wh), (2, iv u), (3, iv v), (4, .ref am), (5, .ref aq), (6, .ref ac), (7, .ref az)]) C dL_step_240 (by rw [hN]; decide) rfl ?_
  refine n_aload C dL_step_242 rfl ?_
  refine n_iconst (x := 4) C dL_step_244 ?_
  refine n_iload C dL_step_245 rfl ?_
  refine n_imul C dL_step_247 ?_
  refine n_ialdv C (tkL c i) hm (by omega) (by omega) (by omega) (by rw [show ((4 * (i : Int))).toNat = 4 * i by omega]; exact (hmI i (by omega)).1) dL_step_248 ?_
  refine n_iconst (x := 3) C dL_step_249 ?_
  have J272 : ∀ t0 : Int, ((c 1 i = 1 ∧ 0 ≤ t0 ∧ t0 ≤ 359) ∨ (c 1 i = 0 ∧ 0 ≤ t0 ∧ t0 ≤ 200)) → N Φ 0 0 σ 272 [(9, iv (b : Int)), (8, iv (i : Int)), (0, .ref x), (1, iv wh), (2, iv u), (3, iv v), (4, .ref am), (5, .ref aq), (6, .ref ac), (7, .ref az)] [iv t0] := by
    intro t0 ht0
    obtain ⟨t, rfl⟩ : ∃ t : Nat, t0 = t := ⟨t0.toNat, by omega⟩
    refine n_istore (lv' := [(10, iv (t : Int)), (9, iv (b : Int)), (8, iv (i : Int)), (0, .ref x), (1, iv wh), (2, iv u), (3, iv v), (4, .ref am), (5, .ref aq), (6, .ref ac), (7, .ref az)]) C dL_step_272 (by rw [hN]; decide) rfl ?_
    refine n_iload_n C dL_step_274 rfl ?_
    refine n_bipush (x := 6) C dL_step_275 (by decide) ?_
    refine n_idivP C dL_step_277 (by unfold rg; omega) (by unfold rg; omega) (by omega) (by omega) ?_
    refine n_bipush (x := 6) C dL_step_278 (by decide) ?_
    refine n_iremP C dL_step_280 (by unfold rg; omega) (by unfold rg; omega) (by omega) (by omega) ?_
    have he0 : 0 ≤ u / 6 % 6 := Int.emod_nonneg _ (by omega)
    have he1 : u / 6 % 6 < 6 := Int.emod_lt_of_pos _ (by omega)
    obtain ⟨e, he⟩ : ∃ e : Nat, u / 6 % 6 = e := ⟨(u / 6 % 6).toNat, by omega⟩
    rw [he] at he0 he1 ⊢
    refine n_istore (lv' := [(11, iv (e : Int)), (10, iv (t : Int)), (9, iv (b : Int)), (8, iv (i : Int)), (0, .ref x), (1, iv wh), (2, iv u), (3, iv v), (4, .ref am), (5, .ref aq), (6, .ref ac), (7, .ref az)]) C dL_step_281 (by rw [hN]; decide) rfl ?_
    refine n_aload C dL_step_283 rfl ?_
    refine n_iconst (x := 1) C dL_step_285 ?_
    refine n_ialdv C (c 6 0) hc (by omega) (by omega) (by omega) hcI.2.1 dL_step_286 ?_
    refine n_bipush (x := 24) C dL_step_287 (by decide) ?_
    refine n_icmp_ne C 294 dL_step_289 (by decide) (by unfold rg; omega) (by unfold rg; omega) (fun b289 => ?_) (fun b289 => ?_)
    · have hn24 : n6 < 24 := by omega
      refine n_aload C dL_step_294 rfl ?_
      refine n_aload C dL_step_296 rfl ?_
      refine n_iconst (x := 1) C dL_step_298 ?_
      refine n_ialdv C (c 6 0) hc (by omega) (by omega) (by omega) hcI.2.1 dL_step_299 ?_
      rw [hn6]
      have zq := z_orq (b := b) (i := i) (w := e) (t := t) (by omega) (by omega) (by omega) (by omega)
      refine n_iload C dL_step_300 rfl ?_
      refine n_iload C dL_step_302 rfl ?_
      refine n_iconst (x := 5) C dL_step_304 ?_
      refine n_ishl C dL_step_305 (z_shl (x := i) (k := 5) (by omega) (by decide)) ?_
      refine n_ior C dL_step_306 zq.1 ?_
      refine n_iload C dL_step_307 rfl ?_
      refine n_bipush (x := 8) C dL_step_309 (by decide) ?_
      refine n_ishl C dL_step_311 (z_shl (x := e) (k := 8) (by omega) (by decide)) ?_
      refine n_ior C dL_step_312 zq.2.1 ?_
      refine n_iload C dL_step_313 rfl ?_
      refine n_bipush (x := 11) C dL_step_315 (by decide) ?_
      refine n_ishl C dL_step_317 (z_shl (x := t) (k := 11) (by omega) (by decide)) ?_
      refine n_ior C dL_step_318 zq.2.2 ?_
      refine n_iast C hq (by omega) (by omega) (by omega) dL_step_319 ?_
      refine wab (fun σ H O => ?_)
      rw [show ((n6 : Int) : Int).toNat = n6 by omega] at H
      obtain ⟨fq1, hf1⟩ : ∃ f : Nat → Int, upI fq n6 ((b + i * 2 ^ 5 + e * 2 ^ 8 + t * 2 ^ 11 : Nat) : Int) = f := ⟨_, rfl⟩
      rw [hf1] at H
      have hs1 : fq1 n6 = ((b + i * 2 ^ 5 + e * 2 ^ 8 + t * 2 ^ 11 : Nat) : Int) := by rw [← hf1]; exact upI_s ..
      have hn1 : ∀ j : Nat, j ≠ n6 → fq1 j = fq j := fun j hj => by rw [← hf1]; exact upI_n hj
      clear hf1
      replace hO := hO.wr (Or.inr (Or.inl rfl)) O
      replace hm := (O am d1).trans hm
      replace hc := (O ac d4.symm).trans hc
      replace hz := (O az d5.symm).trans hz
      replace hq := H
      clear H O
      refine n_aload C dL_step_320 rfl ?_
      refine n_iconst (x := 1) C dL_step_322 ?_
      refine n_dup2 C dL_step_323 rfl rfl ?_
      refine n_ialdv C (c 6 0) hc (by omega) (by omega) (by omega) hcI.2.1 dL_step_324 ?_
      refine n_iconst (x := 1) C dL_step_325 ?_
      refine n_iadd C dL_step_326 ?_
      refine n_iast C hc (by omega) (by omega) (by omega) dL_step_327 ?_
      refine wab (fun σ H O => ?_)
      rw [show Int.toNat 1 = 1 from rfl] at H
      obtain ⟨fc2, hf2⟩ : ∃ f : Nat → Int, upI fc 1 ((c 6 0) + 1) = f := ⟨_, rfl⟩
      rw [hf2] at H
      have hs2 : fc2 1 = ((c 6 0) + 1) := by rw [← hf2]; exact upI_s ..
      have hn2 : ∀ j : Nat, j ≠ 1 → fc2 j = fc j := fun j hj => by rw [← hf2]; exact upI_n hj
      clear hf2
      replace hO := hO.wr (Or.inr (Or.inr (Or.inl rfl))) O
      replace hm := (O am d2).trans hm
      replace hq := (O aq d4).trans hq
      replace hz := (O az d6.symm).trans hz
      replace hc := H
      clear H O
      have hJ2 : SJ g x am aq ac az c (nxCue c (i : Int) (b : Int) (t : Int) (e : Int)) σ := ⟨hdis, hO, ⟨fm, (mI_eq hmI rfl rfl rfl rfl rfl rfl), hm⟩, ⟨fq1, (qI_cue hw hn6 hqI (hs1.trans (by omega)) (fun j hj => hn1 j (by omega))), hq⟩, ⟨fc2, (⟨((hn2 0 (by omega)).trans hcI.1).trans rfl, hs2.trans (show c 6 0 + 1 = (nxCue c (i : Int) (b : Int) (t : Int) (e : Int)) 6 0 from (tu_s ..).symm), ((hn2 2 (by omega)).trans hcI.2.2.1).trans rfl, ((hn2 3 (by omega)).trans hcI.2.2.2.1).trans rfl, ((hn2 4 (by omega)).trans hcI.2.2.2.2.1).trans rfl, ((hn2 5 (by omega)).trans hcI.2.2.2.2.2.1).trans rfl, ((hn2 6 (by omega)).trans hcI.2.2.2.2.2.2.1).trans rfl, ((hn2 7 (by omega)).trans hcI.2.2.2.2.2.2.2).trans (stB_eq rfl).symm⟩), hc⟩, fz, (zI_eq hzI rfl), hz⟩
      have hcd : cdCue c (i : Int) (b : Int) (t : Int) (e : Int) = 0 := by
        unfold cdCue
        rw [Int.toNat_natCast, if_pos (by omega), if_pos ⟨by omega, ⟨by omega, by split <;> omega⟩, by omega⟩, if_neg (by omega)]
      refine n_aload_n C dL_step_328 rfl ?_
      refine n_iload C dL_step_329 rfl ?_
      refine n_iload C dL_step_331 rfl ?_
      refine n_iload C dL_step_333 rfl ?_
      refine n_iload C dL_step_335 rfl ?_
      obtain ⟨fo, hfo⟩ := hJ2.obj
      refine n_invV C (s_cue hst (by unfold rg; omega) (by unfold rg; omega) (by unfold rg; omega) (by unfold rg; omega) hJ2 hcd) ⟨t2_63, t2_66, t1_1, ⟨by decide, by decide⟩, by show _ = some 4; decide +kernel, by decide⟩ t2_64 t2_65 hfo vC5 (by decide) (by omega) (by omega) (Nat.le_of_ble_eq_true rfl) rfl dL_step_337 (fun r σ h' => ?_) (fun _ _ h => h.elim)
      obtain ⟨rfl, hJ⟩ := h'
      obtain ⟨-, -, -, -, ⟨fc9, hc9, hc⟩, -⟩ := id hJ
      refine n_aload C dL_step_340 rfl ?_
      refine n_iconst (x := 1) C dL_step_342 ?_
      refine n_ialdv C (c 6 0 + 1) hc (by omega) (by omega) (by omega) (hc9.2.1.trans (show (nxCue c (i : Int) (b : Int) (t : Int) (e : Int)) 6 0 = c 6 0 + 1 from tu_s ..)) dL_step_343 ?_
      refine n_iconst (x := 1) C dL_step_344 ?_
      refine n_isub C dL_step_345 ?_
      refine n_icmp_ne C 353 dL_step_346 (by decide) (by unfold rg; omega) (by unfold rg; omega) (fun hk => by exfalso; first | omega | exact hk (by omega) | exact (by omega) hk) (fun _ => ?_)
      have hge : 1 ≤ (nxCue c (i : Int) (b : Int) (t : Int) (e : Int)) 0 0 := h00
      refine n_iconst (x := 1) C dL_step_349 ?_
      refine n_goto C 354 dL_step_350 (by decide) ?_
      exact n_ireturn C Rr (nar_bv (by first | decide | omega)) ⟨rfl, (nxCue c (i : Int) (b : Int) (t : Int) (e : Int)), hJ, hge⟩ (by omega) (by omega) dL_step_354
    · refine n_iconst (x := 1) C dL_step_292 ?_
      exact n_ireturn C Rr (nar_bv (by first | decide | omega)) ⟨rfl, c, hJ, h00⟩ (by omega) (by omega) dL_step_293
  refine n_icmp_ne C 264 dL_step_250 (by decide) (by unfold rg; omega) (by unfold rg; omega) (fun b250 => ?_) (fun b250 => ?_)
  · refine n_iload_n C dL_step_264 rfl ?_
    refine n_bipush (x := 30) C dL_step_265 (by decide) ?_
    refine n_idivP C dL_step_267 (by unfold rg; omega) (by unfold rg; omega) (by omega) (by omega) ?_
    refine n_sipush (x := 201) C dL_step_268 (by decide) ?_
    refine n_iremP C dL_step_271 (by unfold rg; omega) (by unfold rg; omega) (by omega) (by omega) ?_
    exact J272 _ (by omega)
  · refine n_iload_n C dL_step_253 rfl ?_
    refine n_bipush (x := 30) C dL_step_254 (by decide) ?_
    refine n_idivP C dL_step_256 (by unfold rg; omega) (by unfold rg; omega) (by omega) (by omega) ?_
    refine n_sipush (x := 360) C dL_step_257 (by decide) ?_
    refine n_iremP C dL_step_260 (by unfold rg; omega) (by unfold rg; omega) (by omega) (by omega) ?_
    refine n_goto C 272 dL_step_261 (by decide) ?_
    exact J272 _ (by omega)
set_option maxRecDepth 100000 in
set_option maxHeartbeats 4000000 in
theorem st_out {g : Gx} {Φ : Fx} (hst : g.1.stackTraces = false) (C : Ok g Φ cL_step "OperaMachinesLaw" (some .boolean) 9 5 146) {x am aq ac az : Nat} {c : Tb} {σ0 σ : Wd} (Rr : Rt Φ σ0 (STP g x am aq ac az) (fun _ _ => False) 5 146) (hN : fN Φ = 12) (hJ : SJ g x am aq ac az c c σ) {wh u v : Int} (hwh : 0 ≤ wh ∧ wh < 12) (hu : 0 ≤ u ∧ u < 1073741824) (hv : 0 ≤ v ∧ v < 1073741824) (h00 : 1 ≤ c 0 0) : N Φ 0 0 σ 361 [(0, .ref x), (1, iv wh), (2, iv u), (3, iv v), (4, .ref am), (5, .ref aq), (6, .ref ac), (7, .ref az)] [] := by
  obtain ⟨hdis, -, ⟨fm, hmI, hm⟩, ⟨fq, hqI, hq⟩, ⟨fc, hcI, hc⟩, fz, hzI, hz⟩ := id hJ
  have hw := hJ.wf
  obtain ⟨w0, w6, w12, w13, w14, w15, w16, wm, wq, ww⟩ := id hw
  have hLr := lenB_rg hw (T := c 14 0) w14.1
  obtain ⟨L, hL⟩ : ∃ L : Nat, lenB c (c 14 0) = L := ⟨(lenB c (c 14 0)).toNat, by omega⟩
  rw [hL] at hLr
  have hLL : LL c = L := by unfold LL; omega
  obtain ⟨n12, h12⟩ : ∃ n : Nat, c 12 0 = n := ⟨(c 12 0).toNat, by omega⟩
  obtain ⟨n0, hn0⟩ : ∃ n : Nat, c 0 0 = n := ⟨(c 0 0).toNat, by omega⟩
  obtain ⟨n6, hn6⟩ : ∃ n : Nat, c 6 0 = n := ⟨(c 6 0).toNat, by omega⟩
  obtain ⟨NN, hNd⟩ : ∃ NN : Nat, n12 * L = NN := ⟨_, rfl⟩
  have hNN : NN ≤ 2400 := by
    rw [← hNd]
    exact Nat.mul_le_mul (show n12 ≤ 30 by omega) (show L ≤ 80 by omega)
  have hNL : c 12 0 * lenB c (c 14 0) = (NN : Int) := by rw [h12, hL, ← Int.natCast_mul, hNd]
  have hNT : NT c L = NN := by
    unfold NT
    rw [show (c 12 0).toNat = n12 by omega]
    exact hNd
  obtain ⟨d1, d2, d3, d4, d5, d6⟩ := id hdis
  have hO : OBp g x am aq ac az c σ := hJ.2.1
  refine n_iload_n C dL_step_361 rfl ?_
  refine n_aload C dL_step_362 rfl ?_
  refine n_iconst (x := 1) C dL_step_364 ?_
  refine n_ialdv C (c 6 0) hc (by omega) (by omega) (by omega) hcI.2.1 dL_step_365 ?_
  refine n_iconst (x := 1) C dL_step_366 ?_
  refine n_iadd C dL_step_367 ?_
  refine n_iremP C dL_step_368 (by unfold rg; omega) (by unfold rg; omega) (by omega) (by omega) ?_
  have hk0 : 0 ≤ u % (c 6 0 + 1) := Int.emod_nonneg _ (by omega)
  have hk1 : u % (c 6 0 + 1) < (c 6 0 + 1) := Int.emod_lt_of_pos _ (by omega)
  obtain ⟨k, hk⟩ : ∃ k : Nat, u % (c 6 0 + 1) = k := ⟨(u % (c 6 0 + 1)).toNat, by omega⟩
  rw [hk] at hk0 hk1 ⊢
  refine n_istore (lv' := [(8, iv (k : Int)), (0, .ref x), (1, iv wh), (2, iv u), (3, iv v), (4, .ref am), (5, .ref aq), (6, .ref ac), (7, .ref az)]) C dL_step_369 (by rw [hN]; decide) rfl ?_
  refine n_iload C dL_step_371 rfl ?_
  refine n_aload C dL_step_373 rfl ?_
  refine n_iconst (x := 1) C dL_step_375 ?_
  refine n_ialdv C (c 6 0) hc (by omega) (by omega) (by omega) hcI.2.1 dL_step_376 ?_
  refine n_icmp_ge C 394 dL_step_377 (by decide) (by unfold rg; omega) (by unfold rg; omega) (fun b377 => ?_) (fun b377 => ?_)
  · refine n_iconst (x := 0) C dL_step_394 ?_
    refine n_istore (lv' := [(9, iv 0), (8, iv (k : Int)), (0, .ref x), (1, iv wh), (2, iv u), (3, iv v), (4, .ref am), (5, .ref aq), (6, .ref ac), (7, .ref az)]) C dL_step_395 (by rw [hN]; decide) rfl ?_
    have hcd : ¬ cdIs c (k : Int) = 0 := fun z => by
      unfold cdIs at z
      split at z
      · omega
      · omega
    refine n_iload C dL_step_397 rfl ?_
    refine n_if_eq C 413 dL_step_399 (by decide) (by unfold rg; omega) (fun _ => ?_) (fun hk => by exfalso; first | omega | exact hk (by omega) | exact (by omega) hk)
    refine n_bipush (x := (-7)) C dL_step_413 (by decide) ?_
    refine n_istore (lv' := [(10, iv (-7)), (9, iv 0), (8, iv (k : Int)), (0, .ref x), (1, iv wh), (2, iv u), (3, iv v), (4, .ref am), (5, .ref aq), (6, .ref ac), (7, .ref az)]) C dL_step_415 (by rw [hN]; decide) rfl ?_
    refine n_aload C dL_step_417 rfl ?_
    refine n_iload C dL_step_419 rfl ?_
    refine n_bipush (x := 24) C dL_step_421 (by decide) ?_
    refine n_iremP C dL_step_423 (by unfold rg; omega) (by unfold rg; omega) (by omega) (by omega) ?_
    rw [show (k : Int) % 24 = ((k % 24 : Nat) : Int) by omega]
    refine n_dup2 C dL_step_424 rfl rfl ?_
    refine n_ialdv C (fq (k % 24)) hq (by omega) (by omega) (by omega) rfl dL_step_425 ?_
    refine n_iload C dL_step_426 rfl ?_
    refine n_if_eq C 436 dL_step_428 (by decide) (by unfold rg; omega) (fun _ => ?_) (fun hk => by exfalso; first | omega | exact hk (by omega) | exact (by omega) hk)
    refine n_iconst (x := 0) C dL_step_436 ?_
    refine n_ior C dL_step_437 (z_or0 _) ?_
    refine n_iast C hq (by omega) (by omega) (by omega) dL_step_438 ?_
    refine wab (fun σ H O => ?_)
    rw [show (((k % 24 : Nat) : Int) : Int).toNat = (k % 24) by omega] at H
    obtain ⟨fq1, hf1⟩ : ∃ f : Nat → Int, upI fq (k % 24) (fq (k % 24)) = f := ⟨_, rfl⟩
    rw [hf1] at H
    have hs1 : fq1 (k % 24) = (fq (k % 24)) := by rw [← hf1]; exact upI_s ..
    have hn1 : ∀ j : Nat, j ≠ (k % 24) → fq1 j = fq j := fun j hj => by rw [← hf1]; exact upI_n hj
    clear hf1
    replace hO := hO.wr (Or.inr (Or.inl rfl)) O
    replace hm := (O am d1).trans hm
    replace hc := (O ac d4.symm).trans hc
    replace hz := (O az d5.symm).trans hz
    replace hq := H
    clear H O
    have hqa : ∀ j : Nat, fq1 j = fq j := fun j => by
      by_cases z : j = k % 24
      · rw [z]; exact hs1
      · exact hn1 j z
    have hJ2 : SJ g x am aq ac az c c σ := ⟨hdis, hO, ⟨fm, hmI, hm⟩, ⟨fq1, (fun j hj => (hqa j).trans (hqI j hj)), hq⟩, ⟨fc, hcI, hc⟩, fz, hzI, hz⟩
    refine n_aload_n C dL_step_439 rfl ?_
    refine n_iload C dL_step_440 rfl ?_
    refine n_invSW C (l_strikesOut hst (a := (k : Int)) (by omega) hJ2) ⟨t3_153, t3_155, t1_0, ⟨by decide, by decide⟩, by show _ = some 2; decide +kernel, by decide⟩ t3_154 (by decide) (by omega) (by omega) (Nat.le_of_ble_eq_true rfl) rfl dL_step_442 (fun r σ h' => ?_)
    obtain ⟨rfl, hJ⟩ := h'
    rw [if_neg hcd]
    rw [if_neg hcd] at hJ
    refine n_iload C dL_step_445 rfl ?_
    refine n_icmp_ne C 454 dL_step_447 (by decide) (by unfold rg; omega) (by unfold rg; omega) (fun hk => by exfalso; first | omega | exact hk (by omega) | exact (by omega) hk) (fun _ => ?_)
    refine n_iconst (x := 1) C dL_step_450 ?_
    refine n_goto C 455 dL_step_451 (by decide) ?_
    exact n_ireturn C Rr (nar_bv (by first | decide | omega)) ⟨rfl, c, hJ, h00⟩ (by omega) (by omega) dL_step_455
  · refine n_aload C dL_step_380 rfl ?_
    refine n_iload C dL_step_382 rfl ?_
    refine n_invS C (l_isOut hst hw (k := k) (by omega) hq hqI) ⟨t3_149, t3_151, t1_0, ⟨by decide, by decide⟩, by show _ = some 2; decide +kernel, by decide⟩ t3_150 (by decide) (by omega) (by omega) (Nat.le_of_ble_eq_true rfl) rfl dL_step_384 (fun r σ' h' => ?_) (fun _ _ h => h.elim)
    obtain ⟨o1, rfl, hσ, ho1⟩ := h'
    rw [hσ]
    refine n_if_ne C 394 dL_step_387 (by decide) (by unfold rg; omega) (fun b387 => ?_) (fun b387 => ?_)
    · refine n_iconst (x := 0) C dL_step_394 ?_
      refine n_istore (lv' := [(9, iv 0), (8, iv (k : Int)), (0, .ref x), (1, iv wh), (2, iv u), (3, iv v), (4, .ref am), (5, .ref aq), (6, .ref ac), (7, .ref az)]) C dL_step_395 (by rw [hN]; decide) rfl ?_
      have hcd : ¬ cdIs c (k : Int) = 0 := by
        rw [(cdIs_q (k := k) (by omega)).2 (by omega)]
        decide
      refine n_iload C dL_step_397 rfl ?_
      refine n_if_eq C 413 dL_step_399 (by decide) (by unfold rg; omega) (fun _ => ?_) (fun hk => by exfalso; first | omega | exact hk (by omega) | exact (by omega) hk)
      refine n_bipush (x := (-7)) C dL_step_413 (by decide) ?_
      refine n_istore (lv' := [(10, iv (-7)), (9, iv 0), (8, iv (k : Int)), (0, .ref x), (1, iv wh), (2, iv u), (3, iv v), (4, .ref am), (5, .ref aq), (6, .ref ac), (7, .ref az)]) C dL_step_415 (by rw [hN]; decide) rfl ?_
      refine n_aload C dL_step_417 rfl ?_
      refine n_iload C dL_step_419 rfl ?_
      refine n_bipush (x := 24) C dL_step_421 (by decide) ?_
      refine n_iremP C dL_step_423 (by unfold rg; omega) (by unfold rg; omega) (by omega) (by omega) ?_
      rw [show (k : Int) % 24 = ((k % 24 : Nat) : Int) by omega]
      refine n_dup2 C dL_step_424 rfl rfl ?_
      refine n_ialdv C (fq (k % 24)) hq (by omega) (by omega) (by omega) rfl dL_step_425 ?_
      refine n_iload C dL_step_426 rfl ?_
      refine n_if_eq C 436 dL_step_428 (by decide) (by unfold rg; omega) (fun _ => ?_) (fun hk => by exfalso; first | omega | exact hk (by omega) | exact (by omega) hk)
      refine n_iconst (x := 0) C dL_step_436 ?_
      refine n_ior C dL_step_437 (z_or0 _) ?_
      refine n_iast C hq (by omega) (by omega) (by omega) dL_step_438 ?_
      refine wab (fun σ H O => ?_)
      rw [show (((k % 24 : Nat) : Int) : Int).toNat = (k % 24) by omega] at H
      obtain ⟨fq1, hf1⟩ : ∃ f : Nat → Int, upI fq (k % 24) (fq (k % 24)) = f := ⟨_, rfl⟩
      rw [hf1] at H
      have hs1 : fq1 (k % 24) = (fq (k % 24)) := by rw [← hf1]; exact upI_s ..
      have hn1 : ∀ j : Nat, j ≠ (k % 24) → fq1 j = fq j := fun j hj => by rw [← hf1]; exact upI_n hj
      clear hf1
      replace hO := hO.wr (Or.inr (Or.inl rfl)) O
      replace hm := (O am d1).trans hm
      replace hc := (O ac d4.symm).trans hc
      replace hz := (O az d5.symm).trans hz
      replace hq := H
      clear H O
      have hqa : ∀ j : Nat, fq1 j = fq j := fun j => by
        by_cases z : j = k % 24
        · rw [z]; exact hs1
        · exact hn1 j z
      have hJ2 : SJ g x am aq ac az c c σ := ⟨hdis, hO, ⟨fm, hmI, hm⟩, ⟨fq1, (fun j hj => (hqa j).trans (hqI j hj)), hq⟩, ⟨fc, hcI, hc⟩, fz, hzI, hz⟩
      refine n_aload_n C dL_step_439 rfl ?_
      refine n_iload C dL_step_440 rfl ?_
      refine n_invSW C (l_strikesOut hst (a := (k : Int)) (by omega) hJ2) ⟨t3_153, t3_155, t1_0, ⟨by decide, by decide⟩, by show _ = some 2; decide +kernel, by decide⟩ t3_154 (by decide) (by omega) (by omega) (Nat.le_of_ble_eq_true rfl) rfl dL_step_442 (fun r σ h' => ?_)
      obtain ⟨rfl, hJ⟩ := h'
      rw [if_neg hcd]
      rw [if_neg hcd] at hJ
      refine n_iload C dL_step_445 rfl ?_
      refine n_icmp_ne C 454 dL_step_447 (by decide) (by unfold rg; omega) (by unfold rg; omega) (fun hk => by exfalso; first | omega | exact hk (by omega) | exact (by omega) hk) (fun _ => ?_)
      refine n_iconst (x := 1) C dL_step_450 ?_
      refine n_goto C 455 dL_step_451 (by decide) ?_
      exact n_ireturn C Rr (nar_bv (by first | decide | omega)) ⟨rfl, c, hJ, h00⟩ (by omega) (by omega) dL_step_455
    · have h11 : c 11 k = 0 := by omega
      have hcd := (cdIs_q (k := k) (by omega)).1 h11
      have hp := qv_parts hw (k := k) (by omega)
      have hq20 : qv c k < 1048576 := by omega
      refine n_iconst (x := 1) C dL_step_390 ?_
      refine n_goto C 395 dL_step_391 (by decide) ?_
      refine n_istore (lv' := [(9, iv 1), (8, iv (k : Int)), (0, .ref x), (1, iv wh), (2, iv u), (3, iv v), (4, .ref am), (5, .ref aq), (6, .ref ac), (7, .ref az)]) C dL_step_395 (by rw [hN]; decide) rfl ?_
      refine n_iload C dL_step_397 rfl ?_
      refine n_if_eq C 413 dL_step_399 (by decide) (by unfold rg; omega) (fun hk => by exfalso; first | omega | exact hk (by omega) | exact (by omega) hk) (fun _ => ?_)
      refine n_aload C dL_step_402 rfl ?_
      refine n_iload C dL_step_404 rfl ?_
      refine n_ialdv C (qv c k) hq (by omega) (by omega) (by omega) (by rw [Int.toNat_natCast]; exact hqI k (by omega)) dL_step_406 ?_
      refine n_bipush (x := 31) C dL_step_407 (by decide) ?_
      refine n_iand C dL_step_409 (z_a31 (by omega)) ?_
      refine n_goto C 415 dL_step_410 (by decide) ?_
      refine n_istore (lv' := [(10, iv (qv c k % 32)), (9, iv 1), (8, iv (k : Int)), (0, .ref x), (1, iv wh), (2, iv u), (3, iv v), (4, .ref am), (5, .ref aq), (6, .ref ac), (7, .ref az)]) C dL_step_415 (by rw [hN]; decide) rfl ?_
      refine n_aload C dL_step_417 rfl ?_
      refine n_iload C dL_step_419 rfl ?_
      refine n_bipush (x := 24) C dL_step_421 (by decide) ?_
      refine n_iremP C dL_step_423 (by unfold rg; omega) (by unfold rg; omega) (by omega) (by omega) ?_
      rw [show (k : Int) % 24 = (k : Int) by omega]
      refine n_dup2 C dL_step_424 rfl rfl ?_
      refine n_ialdv C (qv c k) hq (by omega) (by omega) (by omega) (by rw [Int.toNat_natCast]; exact hqI k (by omega)) dL_step_425 ?_
      refine n_iload C dL_step_426 rfl ?_
      refine n_if_eq C 436 dL_step_428 (by decide) (by unfold rg; omega) (fun hk => by exfalso; first | omega | exact hk (by omega) | exact (by omega) hk) (fun _ => ?_)
      refine n_ldc C (x := 1048576) t3_152 rfl dL_step_431 ?_
      refine n_goto C 437 dL_step_433 (by decide) ?_
      refine n_ior C dL_step_437 (z_or20 (by omega) hq20) ?_
      refine n_iast C hq (by omega) (by omega) (by omega) dL_step_438 ?_
      refine wab (fun σ H O => ?_)
      rw [show ((k : Int) : Int).toNat = k by omega] at H
      obtain ⟨fq1, hf1⟩ : ∃ f : Nat → Int, upI fq k (qv c k + 1048576) = f := ⟨_, rfl⟩
      rw [hf1] at H
      have hs1 : fq1 k = (qv c k + 1048576) := by rw [← hf1]; exact upI_s ..
      have hn1 : ∀ j : Nat, j ≠ k → fq1 j = fq j := fun j hj => by rw [← hf1]; exact upI_n hj
      clear hf1
      replace hO := hO.wr (Or.inr (Or.inl rfl)) O
      replace hm := (O am d1).trans hm
      replace hc := (O ac d4.symm).trans hc
      replace hz := (O az d5.symm).trans hz
      replace hq := H
      clear H O
      have hJ2 : SJ g x am aq ac az c (nxOut c (k : Int)) σ := ⟨hdis, hO, ⟨fm, (mI_eq hmI rfl rfl rfl rfl rfl rfl), hm⟩, ⟨fq1, (qI_out hqI h11 hs1 hn1), hq⟩, ⟨fc, (⟨hcI.1.trans rfl, hcI.2.1.trans rfl, hcI.2.2.1.trans rfl, hcI.2.2.2.1.trans rfl, hcI.2.2.2.2.1.trans rfl, hcI.2.2.2.2.2.1.trans rfl, hcI.2.2.2.2.2.2.1.trans rfl, hcI.2.2.2.2.2.2.2.trans (stB_eq rfl).symm⟩), hc⟩, fz, (zI_eq hzI rfl), hz⟩
      refine n_aload_n C dL_step_439 rfl ?_
      refine n_iload C dL_step_440 rfl ?_
      refine n_invSW C (l_strikesOut hst (a := (k : Int)) (by omega) hJ2) ⟨t3_153, t3_155, t1_0, ⟨by decide, by decide⟩, by show _ = some 2; decide +kernel, by decide⟩ t3_154 (by decide) (by omega) (by omega) (Nat.le_of_ble_eq_true rfl) rfl dL_step_442 (fun r σ h' => ?_)
      obtain ⟨rfl, hJ⟩ := h'
      rw [if_pos hcd, Int.toNat_natCast]
      rw [if_pos hcd] at hJ
      refine n_iload C dL_step_445 rfl ?_
      refine n_icmp_ne C 454 dL_step_447 (by decide) (by unfold rg; omega) (by unfold rg; omega) (fun hk => by exfalso; first | omega | exact hk (by omega) | exact (by omega) hk) (fun _ => ?_)
      refine n_iconst (x := 1) C dL_step_450 ?_
      refine n_goto C 455 dL_step_451 (by decide) ?_
      exact n_ireturn C Rr (nar_bv (by first | decide | omega)) ⟨rfl, (nxOut c (k : Int)), hJ, h00⟩ (by omega) (by omega) dL_step_455
