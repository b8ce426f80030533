set_option maxRecDepth 100000 in
set_option maxHeartbeats 4000000 in
theorem st_score {g : Gx} {Φ : Fx} (hst : g.1.stackTraces = false) (C : Ok g Φ cL_step "OperaMachinesLaw" (some .boolean) 9 5 146) {x am aq ac az : Nat} {c : Tb} {σ0 σ : Wd} (Rr : Rt Φ σ0 (STP g x am aq ac az) (fun _ _ => False) 5 146) (hN : fN Φ = 12) (hJ : SJ g x am aq ac az c c σ) {wh u v : Int} (hwh : 0 ≤ wh ∧ wh < 12) (hu : 0 ≤ u ∧ u < 1073741824) (hv : 0 ≤ v ∧ v < 1073741824) (h00 : 1 ≤ c 0 0) : N Φ 0 0 σ 462 [(0, .ref x), (1, iv wh), (2, iv u), (3, iv v), (4, .ref am), (5, .ref aq), (6, .ref ac), (7, .ref az)] [] := by
  obtain ⟨hdis, -, ⟨fm, hmI, hm⟩, ⟨fq, hqI, hq⟩, ⟨fc, hcI, hc⟩, fz, hzI, hz⟩ := id hJ
  have hw := hJ.wf
  obtain ⟨w0, w6, w12, w13, w14, w15, w16, wm, wq, ww⟩ := id hw
  have hLr := lenB_rg hw (T := c 14 0) w14.1
  obtain ⟨L, hL⟩ : ∃ L : Nat, lenB c (c 14 0) = L := ⟨(lenB c (c 14 0)).toNat, by omega⟩
  rw [hL] at hLr
  have hLL : LL c = L := by unfold LL; omega
  obtain ⟨n12, h12⟩ : ∃ n : Nat, c 12 0 = n := ⟨(c 12 0).toNat, by omega⟩
  obtain ⟨n0, hn0⟩ : ∃ n : Nat, c 0 0 = n := ⟨(c 0 0).toNat, by omega⟩
  obtain ⟨n6, hn6⟩ : ∃ n : Nat, c 6 0 = n := ⟨(c 6 0).toNat, by omega⟩
  obtain ⟨NN, hNd⟩ : ∃ NN : Nat, n12 * L = NN := ⟨_, rfl⟩
  have hNN : NN ≤ 2400 := by
    rw [← hNd]
    exact Nat.mul_le_mul (show n12 ≤ 30 by omega) (show L ≤ 80 by omega)
  have hNL : c 12 0 * lenB c (c 14 0) = (NN : Int) := by rw [h12, hL, ← Int.natCast_mul, hNd]
  have hNT : NT c L = NN := by
    unfold NT
    rw [show (c 12 0).toNat = n12 by omega]
    exact hNd
  obtain ⟨d1, d2, d3, d4, d5, d6⟩ := id hdis
  have hO : OBp g x am aq ac az c σ := hJ.2.1
  refine n_iconst (x := 4) C dL_step_462 ?_
  refine n_iload_n C dL_step_463 rfl ?_
  refine n_bipush (x := 14) C dL_step_464 (by decide) ?_
  refine n_iremP C dL_step_466 (by unfold rg; omega) (by unfold rg; omega) (by omega) (by omega) ?_
  refine n_iadd C dL_step_467 ?_
  have hB0 := Int.emod_nonneg u (show (14 : Int) ≠ 0 by decide)
  obtain ⟨B, hB⟩ : ∃ B : Int, 4 + u % 14 = B := ⟨_, rfl⟩
  rw [hB]
  have hBr : 4 ≤ B ∧ B ≤ 17 := by omega
  refine n_istore (lv' := [(8, iv B), (0, .ref x), (1, iv wh), (2, iv u), (3, iv v), (4, .ref am), (5, .ref aq), (6, .ref ac), (7, .ref az)]) C dL_step_468 (by rw [hN]; decide) rfl ?_
  refine n_iconst (x := 1) C dL_step_470 ?_
  refine n_iload_n C dL_step_471 rfl ?_
  refine n_iload_n C dL_step_472 rfl ?_
  refine n_iconst (x := 3) C dL_step_473 ?_
  refine n_iremP C dL_step_474 (by unfold rg; omega) (by unfold rg; omega) (by omega) (by omega) ?_
  have J485 : ∀ m : Int, (m = 40 ∨ m = 20) → N Φ 0 0 σ 485 [(8, iv B), (0, .ref x), (1, iv wh), (2, iv u), (3, iv v), (4, .ref am), (5, .ref aq), (6, .ref ac), (7, .ref az)] [iv m, iv v, iv 1] := by
    intro m hm20
    refine n_iremP C dL_step_485 (by unfold rg; omega) (by unfold rg; omega) (by omega) (by omega) ?_
    have hm0 := Int.emod_nonneg v (show m ≠ 0 by omega)
    have hm1 := Int.emod_lt_of_pos v (show 0 < m by omega)
    refine n_iadd C dL_step_486 ?_
    obtain ⟨tk, htk⟩ : ∃ tk : Int, 1 + v % m = tk := ⟨_, rfl⟩
    rw [htk]
    have htkr : 1 ≤ tk ∧ tk ≤ 40 := by omega
    refine n_istore (lv' := [(9, iv tk), (8, iv B), (0, .ref x), (1, iv wh), (2, iv u), (3, iv v), (4, .ref am), (5, .ref aq), (6, .ref ac), (7, .ref az)]) C dL_step_487 (by rw [hN]; decide) rfl ?_
    refine n_iconst (x := 1) C dL_step_489 ?_
    refine n_istore (lv' := [(10, iv 1), (9, iv tk), (8, iv B), (0, .ref x), (1, iv wh), (2, iv u), (3, iv v), (4, .ref am), (5, .ref aq), (6, .ref ac), (7, .ref az)]) C dL_step_490 (by rw [hN]; decide) rfl ?_
    refine n_iconst (x := 0) C dL_step_492 ?_
    refine n_istore (lv' := [(11, iv 0), (10, iv 1), (9, iv tk), (8, iv B), (0, .ref x), (1, iv wh), (2, iv u), (3, iv v), (4, .ref am), (5, .ref aq), (6, .ref ac), (7, .ref az)]) C dL_step_493 (by rw [hN]; decide) rfl ?_
    have LP : ∀ (fu : Nat) (k : Nat) (f : Int) (hf : (f = 1 ∧ fitB c B k = true) ∨ (f = 0 ∧ ¬ fitB c B k = true)) (hk : k ≤ n6) (hfu : n6 + 1 ≤ k + fu), N Φ 0 0 σ 495 [(11, iv (k : Int)), (10, iv f), (9, iv tk), (8, iv B), (0, .ref x), (1, iv wh), (2, iv u), (3, iv v), (4, .ref am), (5, .ref aq), (6, .ref ac), (7, .ref az)] [] := by
      intro fu
      induction fu with
      | zero =>
        intro k f hf hk hfu
        omega
      | succ fu ih =>
        intro k f hf hk hfu
        have hfr : f = 0 ∨ f = 1 := by rcases hf with ⟨q, _⟩ | ⟨q, _⟩ <;> omega
        refine n_iload C dL_step_495 rfl ?_
        refine n_aload C dL_step_497 rfl ?_
        refine n_iconst (x := 1) C dL_step_499 ?_
        refine n_ialdv C (c 6 0) hc (by omega) (by omega) (by omega) hcI.2.1 dL_step_500 ?_
        refine n_icmp_ge C 545 dL_step_501 (by decide) (by unfold rg; omega) (by unfold rg; omega) (fun b501 => ?_) (fun b501 => ?_)
        · have hk9 : (c 6 0).toNat = k := by omega
          have hcs : cdScore c B tk = (if fitB c B k = true then 0 else 2) := by
            unfold cdScore
            rw [hk9, if_pos (by omega)]
          rcases hf with ⟨rfl, hfb⟩ | ⟨rfl, hfb⟩
          · refine n_aload C dL_step_545 rfl ?_
            refine n_iconst (x := 2) C dL_step_547 ?_
            refine n_iload C dL_step_548 rfl ?_
            refine n_if_eq C 558 dL_step_550 (by decide) (by unfold rg; omega) (fun hk => by exfalso; first | omega | exact hk (by omega) | exact (by omega) hk) (fun _ => ?_)
            refine n_iload C dL_step_553 rfl ?_
            refine n_goto C 562 dL_step_555 (by decide) ?_
            refine n_iast C hc (by omega) (by omega) (by omega) dL_step_562 ?_
            refine wab (fun σ H O => ?_)
            rw [show Int.toNat 2 = 2 from rfl] at H
            obtain ⟨fc1, hf1⟩ : ∃ f : Nat → Int, upI fc 2 B = f := ⟨_, rfl⟩
            rw [hf1] at H
            have hs1 : fc1 2 = B := by rw [← hf1]; exact upI_s ..
            have hn1 : ∀ j : Nat, j ≠ 2 → fc1 j = fc j := fun j hj => by rw [← hf1]; exact upI_n hj
            clear hf1
            replace hO := hO.wr (Or.inr (Or.inr (Or.inl rfl))) O
            replace hm := (O am d2).trans hm
            replace hq := (O aq d4).trans hq
            replace hz := (O az d6.symm).trans hz
            replace hc := H
            clear H O
            refine n_aload C dL_step_563 rfl ?_
            refine n_iconst (x := 3) C dL_step_565 ?_
            refine n_iload C dL_step_566 rfl ?_
            refine n_if_eq C 576 dL_step_568 (by decide) (by unfold rg; omega) (fun hk => by exfalso; first | omega | exact hk (by omega) | exact (by omega) hk) (fun _ => ?_)
            refine n_iload C dL_step_571 rfl ?_
            refine n_goto C 580 dL_step_573 (by decide) ?_
            refine n_iast C hc (by omega) (by omega) (by omega) dL_step_580 ?_
            refine wab (fun σ H O => ?_)
            rw [show Int.toNat 3 = 3 from rfl] at H
            obtain ⟨fc2, hf2⟩ : ∃ f : Nat → Int, upI fc1 3 tk = f := ⟨_, rfl⟩
            rw [hf2] at H
            have hs2 : fc2 3 = tk := by rw [← hf2]; exact upI_s ..
            have hn2 : ∀ j : Nat, j ≠ 3 → fc2 j = fc1 j := fun j hj => by rw [← hf2]; exact upI_n hj
            clear hf2
            replace hO := hO.wr (Or.inr (Or.inr (Or.inl rfl))) O
            replace hm := (O am d2).trans hm
            replace hq := (O aq d4).trans hq
            replace hz := (O az d6.symm).trans hz
            replace hc := H
            clear H O
            have hcd : cdScore c B tk = 0 := by rw [hcs, if_pos hfb]
            have hJ2 : SJ g x am aq ac az c (nxScore c B tk) σ := ⟨hdis, hO, ⟨fm, (mI_eq hmI rfl rfl rfl rfl rfl rfl), hm⟩, ⟨fq, (qI_eq hqI rfl rfl rfl rfl rfl rfl), hq⟩, ⟨fc2, (⟨((hn2 0 (by omega)).trans ((hn1 0 (by omega)).trans hcI.1)).trans rfl, ((hn2 1 (by omega)).trans ((hn1 1 (by omega)).trans hcI.2.1)).trans rfl, ((hn2 2 (by omega)).trans hs1).trans (show B = (nxScore c B tk) 12 0 from rfl), hs2.trans (show tk = (nxScore c B tk) 13 0 from rfl), ((hn2 4 (by omega)).trans ((hn1 4 (by omega)).trans hcI.2.2.2.2.1)).trans rfl, ((hn2 5 (by omega)).trans ((hn1 5 (by omega)).trans hcI.2.2.2.2.2.1)).trans rfl, ((hn2 6 (by omega)).trans ((hn1 6 (by omega)).trans hcI.2.2.2.2.2.2.1)).trans rfl, ((hn2 7 (by omega)).trans ((hn1 7 (by omega)).trans hcI.2.2.2.2.2.2.2)).trans (stB_eq rfl).symm⟩), hc⟩, fz, (zI_eq hzI rfl), hz⟩
            refine n_aload_n C dL_step_581 rfl ?_
            refine n_iload C dL_step_582 rfl ?_
            refine n_iload C dL_step_584 rfl ?_
            refine n_invSW C (l_scores hst (by omega) (by omega) hJ2) ⟨t3_170, t3_172, t1_0, ⟨by decide, by decide⟩, by show _ = some 3; decide +kernel, by decide⟩ t3_171 (by decide) (by omega) (by omega) (Nat.le_of_ble_eq_true rfl) rfl dL_step_586 (fun r σ h' => ?_)
            obtain ⟨rfl, hJ⟩ := h'
            rw [if_pos hcd]
            rw [if_pos hcd] at hJ
            refine n_iload C dL_step_589 rfl ?_
            refine n_if_eq C 598 dL_step_591 (by decide) (by unfold rg; omega) (fun hk => by exfalso; first | omega | exact hk (by omega) | exact (by omega) hk) (fun _ => ?_)
            refine n_iconst (x := 0) C dL_step_594 ?_
            refine n_goto C 600 dL_step_595 (by decide) ?_
            refine n_icmp_ne C 607 dL_step_600 (by decide) (by unfold rg; omega) (by unfold rg; omega) (fun hk => by exfalso; first | omega | exact hk (by omega) | exact (by omega) hk) (fun _ => ?_)
            refine n_iconst (x := 1) C dL_step_603 ?_
            refine n_goto C 608 dL_step_604 (by decide) ?_
            exact n_ireturn C Rr (nar_bv (by first | decide | omega)) ⟨rfl, (nxScore c B tk), hJ, h00⟩ (by omega) (by omega) dL_step_608
          · refine n_aload C dL_step_545 rfl ?_
            refine n_iconst (x := 2) C dL_step_547 ?_
            refine n_iload C dL_step_548 rfl ?_
            refine n_if_eq C 558 dL_step_550 (by decide) (by unfold rg; omega) (fun _ => ?_) (fun hk => by exfalso; first | omega | exact hk (by omega) | exact (by omega) hk)
            refine n_aload C dL_step_558 rfl ?_
            refine n_iconst (x := 2) C dL_step_560 ?_
            refine n_ialdv C (c 12 0) hc (by omega) (by omega) (by omega) hcI.2.2.1 dL_step_561 ?_
            refine n_iast C hc (by omega) (by omega) (by omega) dL_step_562 ?_
            refine wab (fun σ H O => ?_)
            rw [show Int.toNat 2 = 2 from rfl] at H
            obtain ⟨fc1, hf1⟩ : ∃ f : Nat → Int, upI fc 2 (c 12 0) = f := ⟨_, rfl⟩
            rw [hf1] at H
            have hs1 : fc1 2 = (c 12 0) := by rw [← hf1]; exact upI_s ..
            have hn1 : ∀ j : Nat, j ≠ 2 → fc1 j = fc j := fun j hj => by rw [← hf1]; exact upI_n hj
            clear hf1
            replace hO := hO.wr (Or.inr (Or.inr (Or.inl rfl))) O
            replace hm := (O am d2).trans hm
            replace hq := (O aq d4).trans hq
            replace hz := (O az d6.symm).trans hz
            replace hc := H
            clear H O
            refine n_aload C dL_step_563 rfl ?_
            refine n_iconst (x := 3) C dL_step_565 ?_
            refine n_iload C dL_step_566 rfl ?_
            refine n_if_eq C 576 dL_step_568 (by decide) (by unfold rg; omega) (fun _ => ?_) (fun hk => by exfalso; first | omega | exact hk (by omega) | exact (by omega) hk)
            refine n_aload C dL_step_576 rfl ?_
            refine n_iconst (x := 3) C dL_step_578 ?_
            refine n_ialdv C (c 13 0) hc (by omega) (by omega) (by omega) ((hn1 3 (by omega)).trans hcI.2.2.2.1) dL_step_579 ?_
            refine n_iast C hc (by omega) (by omega) (by omega) dL_step_580 ?_
            refine wab (fun σ H O => ?_)
            rw [show Int.toNat 3 = 3 from rfl] at H
            obtain ⟨fc2, hf2⟩ : ∃ f : Nat → Int, upI fc1 3 (c 13 0) = f := ⟨_, rfl⟩
            rw [hf2] at H
            have hs2 : fc2 3 = (c 13 0) := by rw [← hf2]; exact upI_s ..
            have hn2 : ∀ j : Nat, j ≠ 3 → fc2 j = fc1 j := fun j hj => by rw [← hf2]; exact upI_n hj
            clear hf2
            replace hO := hO.wr (Or.inr (Or.inr (Or.inl rfl))) O
            replace hm := (O am d2).trans hm
            replace hq := (O aq d4).trans hq
            replace hz := (O az d6.symm).trans hz
            replace hc := H
            clear H O
            have hcd : ¬ cdScore c B tk = 0 := by
              rw [hcs, if_neg hfb]
              decide
            have hJ2 : SJ g x am aq ac az c c σ := ⟨hdis, hO, ⟨fm, hmI, hm⟩, ⟨fq, hqI, hq⟩, ⟨fc2, (⟨((hn2 0 (by omega)).trans ((hn1 0 (by omega)).trans hcI.1)).trans rfl, ((hn2 1 (by omega)).trans ((hn1 1 (by omega)).trans hcI.2.1)).trans rfl, ((hn2 2 (by omega)).trans hs1).trans rfl, hs2.trans rfl, ((hn2 4 (by omega)).trans ((hn1 4 (by omega)).trans hcI.2.2.2.2.1)).trans rfl, ((hn2 5 (by omega)).trans ((hn1 5 (by omega)).trans hcI.2.2.2.2.2.1)).trans rfl, ((hn2 6 (by omega)).trans ((hn1 6 (by omega)).trans hcI.2.2.2.2.2.2.1)).trans rfl, ((hn2 7 (by omega)).trans ((hn1 7 (by omega)).trans hcI.2.2.2.2.2.2.2))⟩), hc⟩, fz, hzI, hz⟩
            refine n_aload_n C dL_step_581 rfl ?_
            refine n_iload C dL_step_582 rfl ?_
            refine n_iload C dL_step_584 rfl ?_
            refine n_invSW C (l_scores hst (by omega) (by omega) hJ2) ⟨t3_170, t3_172, t1_0, ⟨by decide, by decide⟩, by show _ = some 3; decide +kernel, by decide⟩ t3_171 (by decide) (by omega) (by omega) (Nat.le_of_ble_eq_true rfl) rfl dL_step_586 (fun r σ h' => ?_)
            obtain ⟨rfl, hJ⟩ := h'
            rw [if_neg hcd]
            rw [if_neg hcd] at hJ
            refine n_iload C dL_step_589 rfl ?_
            refine n_if_eq C 598 dL_step_591 (by decide) (by unfold rg; omega) (fun _ => ?_) (fun hk => by exfalso; first | omega | exact hk (by omega) | exact (by omega) hk)
            refine n_bipush (x := (-8)) C dL_step_598 (by decide) ?_
            refine n_icmp_ne C 607 dL_step_600 (by decide) (by unfold rg; omega) (by unfold rg; omega) (fun hk => by exfalso; first | omega | exact hk (by omega) | exact (by omega) hk) (fun _ => ?_)
            refine n_iconst (x := 1) C dL_step_603 ?_
            refine n_goto C 608 dL_step_604 (by decide) ?_
            exact n_ireturn C Rr (nar_bv (by first | decide | omega)) ⟨rfl, c, hJ, h00⟩ (by omega) (by omega) dL_step_608
        · have hfs := fit_s c B k
          have hp := qv_parts hw (k := k) (by omega)
          have w11 := (wq k).2.2.2.2.2.2.2.1
          refine n_iload C dL_step_504 rfl ?_
          refine n_if_eq C 536 dL_step_506 (by decide) (by unfold rg; omega) (fun b506 => ?_) (fun b506 => ?_)
          · refine n_iconst (x := 0) C dL_step_536 ?_
            refine n_istore (lv' := [(10, iv 0), (11, iv (k : Int)), (9, iv tk), (8, iv B), (0, .ref x), (1, iv wh), (2, iv u), (3, iv v), (4, .ref am), (5, .ref aq), (6, .ref ac), (7, .ref az)]) C dL_step_537 (by rw [hN]; decide) rfl ?_
            refine n_iinc (lv' := [(11, iv ((k : Int) + 1)), (10, iv 0), (9, iv tk), (8, iv B), (0, .ref x), (1, iv wh), (2, iv u), (3, iv v), (4, .ref am), (5, .ref aq), (6, .ref ac), (7, .ref az)]) C dL_step_539 rfl (by rw [hN]; decide) rfl ?_
            refine n_goto C 495 dL_step_542 (by decide) ?_
            refine n_keep (lv' := [(11, iv ((k : Int) + 1)), (10, iv 0), (9, iv tk), (8, iv B), (0, .ref x), (1, iv wh), (2, iv u), (3, iv v), (4, .ref am), (5, .ref aq), (6, .ref ac), (7, .ref az)]) [11, 10, 9, 8, 0, 1, 2, 3, 4, 5, 6, 7] rfl ?_
            exact ih (k + 1) 0 (Or.inr ⟨rfl, fun t => (hf.resolve_left (fun y => by omega)).2 (hfs.mp t).1⟩) (by omega) (by omega)
          · refine n_aload C dL_step_509 rfl ?_
            refine n_iload C dL_step_511 rfl ?_
            refine n_invS C (l_isOut hst hw (k := k) (by omega) hq hqI) ⟨t3_149, t3_151, t1_0, ⟨by decide, by decide⟩, by show _ = some 2; decide +kernel, by decide⟩ t3_150 (by decide) (by omega) (by omega) (Nat.le_of_ble_eq_true rfl) rfl dL_step_513 (fun r σ' h' => ?_) (fun _ _ h => h.elim)
            obtain ⟨o1, rfl, hσ, ho1⟩ := h'
            rw [hσ]
            refine n_if_ne C 532 dL_step_516 (by decide) (by unfold rg; omega) (fun b516 => ?_) (fun b516 => ?_)
            · refine n_iconst (x := 1) C dL_step_532 ?_
              refine n_goto C 537 dL_step_533 (by decide) ?_
              refine n_istore (lv' := [(10, iv 1), (11, iv (k : Int)), (9, iv tk), (8, iv B), (0, .ref x), (1, iv wh), (2, iv u), (3, iv v), (4, .ref am), (5, .ref aq), (6, .ref ac), (7, .ref az)]) C dL_step_537 (by rw [hN]; decide) rfl ?_
              refine n_iinc (lv' := [(11, iv ((k : Int) + 1)), (10, iv 1), (9, iv tk), (8, iv B), (0, .ref x), (1, iv wh), (2, iv u), (3, iv v), (4, .ref am), (5, .ref aq), (6, .ref ac), (7, .ref az)]) C dL_step_539 rfl (by rw [hN]; decide) rfl ?_
              refine n_goto C 495 dL_step_542 (by decide) ?_
              refine n_keep (lv' := [(11, iv ((k : Int) + 1)), (10, iv 1), (9, iv tk), (8, iv B), (0, .ref x), (1, iv wh), (2, iv u), (3, iv v), (4, .ref am), (5, .ref aq), (6, .ref ac), (7, .ref az)]) [11, 10, 9, 8, 0, 1, 2, 3, 4, 5, 6, 7] rfl ?_
              exact ih (k + 1) 1 (Or.inl ⟨rfl, hfs.mpr ⟨(hf.resolve_right (fun y => by omega)).2, Or.inl (by omega)⟩⟩) (by omega) (by omega)
            · refine n_aload C dL_step_519 rfl ?_
              refine n_iload C dL_step_521 rfl ?_
              refine n_ialdv C (qv c k) hq (by omega) (by omega) (by omega) (by rw [Int.toNat_natCast]; exact hqI k (by omega)) dL_step_523 ?_
              refine n_bipush (x := 31) C dL_step_524 (by decide) ?_
              refine n_iand C dL_step_526 (z_a31 (by omega)) ?_
              refine n_iload C dL_step_527 rfl ?_
              refine n_icmp_ge C 536 dL_step_529 (by decide) (by unfold rg; omega) (by unfold rg; omega) (fun b529 => ?_) (fun b529 => ?_)
              · refine n_iconst (x := 0) C dL_step_536 ?_
                refine n_istore (lv' := [(10, iv 0), (11, iv (k : Int)), (9, iv tk), (8, iv B), (0, .ref x), (1, iv wh), (2, iv u), (3, iv v), (4, .ref am), (5, .ref aq), (6, .ref ac), (7, .ref az)]) C dL_step_537 (by rw [hN]; decide) rfl ?_
                refine n_iinc (lv' := [(11, iv ((k : Int) + 1)), (10, iv 0), (9, iv tk), (8, iv B), (0, .ref x), (1, iv wh), (2, iv u), (3, iv v), (4, .ref am), (5, .ref aq), (6, .ref ac), (7, .ref az)]) C dL_step_539 rfl (by rw [hN]; decide) rfl ?_
                refine n_goto C 495 dL_step_542 (by decide) ?_
                refine n_keep (lv' := [(11, iv ((k : Int) + 1)), (10, iv 0), (9, iv tk), (8, iv B), (0, .ref x), (1, iv wh), (2, iv u), (3, iv v), (4, .ref am), (5, .ref aq), (6, .ref ac), (7, .ref az)]) [11, 10, 9, 8, 0, 1, 2, 3, 4, 5, 6, 7] rfl ?_
                exact ih (k + 1) 0 (Or.inr ⟨rfl, fun t => by rcases (hfs.mp t).2 with t | t <;> omega⟩) (by omega) (by omega)
              · refine n_iconst (x := 1) C dL_step_532 ?_
                refine n_goto C 537 dL_step_533 (by decide) ?_
                refine n_istore (lv' := [(10, iv 1), (11, iv (k : Int)), (9, iv tk), (8, iv B), (0, .ref x), (1, iv wh), (2, iv u), (3, iv v), (4, .ref am), (5, .ref aq), (6, .ref ac), (7, .ref az)]) C dL_step_537 (by rw [hN]; decide) rfl ?_
                refine n_iinc (lv' := [(11, iv ((k : Int) + 1)), (10, iv 1), (9, iv tk), (8, iv B), (0, .ref x), (1, iv wh), (2, iv u), (3, iv v), (4, .ref am), (5, .ref aq), (6, .ref ac), (7, .ref az)]) C dL_step_539 rfl (by rw [hN]; decide) rfl ?_
                refine n_goto C 495 dL_step_542 (by decide) ?_
                refine n_keep (lv' := [(11, iv ((k : Int) + 1)), (10, iv 1), (9, iv tk), (8, iv B), (0, .ref x), (1, iv wh), (2, iv u), (3, iv v), (4, .ref am), (5, .ref aq), (6, .ref ac), (7, .ref az)]) [11, 10, 9, 8, 0, 1, 2, 3, 4, 5, 6, 7] rfl ?_
                exact ih (k + 1) 1 (Or.inl ⟨rfl, hfs.mpr ⟨(hf.resolve_right (fun y => by omega)).2, Or.inr (by omega)⟩⟩) (by omega) (by omega)
    refine n_keep (lv' := [(11, iv 0), (10, iv 1), (9, iv tk), (8, iv B), (0, .ref x), (1, iv wh), (2, iv u), (3, iv v), (4, .ref am), (5, .ref aq), (6, .ref ac), (7, .ref az)]) [11, 10, 9, 8, 0, 1, 2, 3, 4, 5, 6, 7] rfl ?_
    exact LP 25 0 1 (Or.inl ⟨rfl, rfl⟩) (by omega) (by omega)
  refine n_if_ne C 483 dL_step_475 (by decide) (by unfold rg; omega) (fun b475 => ?_) (fun b475 => ?_)
  · refine n_bipush (x := 20) C dL_step_483 (by decide) ?_
    exact J485 _ (by omega)
  · refine n_bipush (x := 40) C dL_step_478 (by decide) ?_
    refine n_goto C 485 dL_step_480 (by decide) ?_
    exact J485 _ (by omega)
set_option maxRecDepth 100000 in
set_option maxHeartbeats 4000000 in
theorem st_tempo {g : Gx} {Φ : Fx} (hst : g.1.stackTraces = false) (C : Ok g Φ cL_step "OperaMachinesLaw" (some .boolean) 9 5 146) {x am aq ac az : Nat} {c : Tb} {σ0 σ : Wd} (Rr : Rt Φ σ0 (STP g x am aq ac az) (fun _ _ => False) 5 146) (hN : fN Φ = 12) (hJ : SJ g x am aq ac az c c σ) {wh u v : Int} (hwh : 0 ≤ wh ∧ wh < 12) (hu : 0 ≤ u ∧ u < 1073741824) (hv : 0 ≤ v ∧ v < 1073741824) (h00 : 1 ≤ c 0 0) : N Φ 0 0 σ 615 [(0, .ref x), (1, iv wh), (2, iv u), (3, iv v), (4, .ref am), (5, .ref aq), (6, .ref ac), (7, .ref az)] [] := by
  obtain ⟨hdis, -, ⟨fm, hmI, hm⟩, ⟨fq, hqI, hq⟩, ⟨fc, hcI, hc⟩, fz, hzI, hz⟩ := id hJ
  have hw := hJ.wf
  obtain ⟨w0, w6, w12, w13, w14, w15, w16, wm, wq, ww⟩ := id hw
  have hLr := lenB_rg hw (T := c 14 0) w14.1
  obtain ⟨L, hL⟩ : ∃ L : Nat, lenB c (c 14 0) = L := ⟨(lenB c (c 14 0)).toNat, by omega⟩
  rw [hL] at hLr
  have hLL : LL c = L := by unfold LL; omega
  obtain ⟨n12, h12⟩ : ∃ n : Nat, c 12 0 = n := ⟨(c 12 0).toNat, by omega⟩
  obtain ⟨n0, hn0⟩ : ∃ n : Nat, c 0 0 = n := ⟨(c 0 0).toNat, by omega⟩
  obtain ⟨n6, hn6⟩ : ∃ n : Nat, c 6 0 = n := ⟨(c 6 0).toNat, by omega⟩
  obtain ⟨NN, hNd⟩ : ∃ NN : Nat, n12 * L = NN := ⟨_, rfl⟩
  have hNN : NN ≤ 2400 := by
    rw [← hNd]
    exact Nat.mul_le_mul (show n12 ≤ 30 by omega) (show L ≤ 80 by omega)
  have hNL : c 12 0 * lenB c (c 14 0) = (NN : Int) := by rw [h12, hL, ← Int.natCast_mul, hNd]
  have hNT : NT c L = NN := by
    unfold NT
    rw [show (c 12 0).toNat = n12 by omega]
    exact hNd
  obtain ⟨d1, d2, d3, d4, d5, d6⟩ := id hdis
  have hO : OBp g x am aq ac az c σ := hJ.2.1
  refine n_aload C dL_step_615 rfl ?_
  refine n_iconst (x := 4) C dL_step_617 ?_
  refine n_ialdv C (c 14 0) hc (by omega) (by omega) (by omega) hcI.2.2.2.2.1 dL_step_618 ?_
  refine n_istore (lv' := [(8, iv (c 14 0)), (0, .ref x), (1, iv wh), (2, iv u), (3, iv v), (4, .ref am), (5, .ref aq), (6, .ref ac), (7, .ref az)]) C dL_step_619 (by rw [hN]; decide) rfl ?_
  refine n_aload C dL_step_621 rfl ?_
  refine n_iconst (x := 4) C dL_step_623 ?_
  refine n_bipush (x := 50) C dL_step_624 (by decide) ?_
  refine n_iload_n C dL_step_626 rfl ?_
  refine n_sipush (x := 151) C dL_step_627 (by decide) ?_
  refine n_iremP C dL_step_630 (by unfold rg; omega) (by unfold rg; omega) (by omega) (by omega) ?_
  refine n_iadd C dL_step_631 ?_
  have ht0 := Int.emod_nonneg u (show (151 : Int) ≠ 0 by decide)
  obtain ⟨T, hT⟩ : ∃ T : Int, 50 + u % 151 = T := ⟨_, rfl⟩
  rw [hT]
  have hTr : 50 ≤ T ∧ T ≤ 200 := by omega
  refine n_iast C hc (by omega) (by omega) (by omega) dL_step_632 ?_
  refine wab (fun σ H O => ?_)
  rw [show Int.toNat 4 = 4 from rfl] at H
  obtain ⟨fc1, hf1⟩ : ∃ f : Nat → Int, upI fc 4 T = f := ⟨_, rfl⟩
  rw [hf1] at H
  have hs1 : fc1 4 = T := by rw [← hf1]; exact upI_s ..
  have hn1 : ∀ j : Nat, j ≠ 4 → fc1 j = fc j := fun j hj => by rw [← hf1]; exact upI_n hj
  clear hf1
  replace hO := hO.wr (Or.inr (Or.inr (Or.inl rfl))) O
  replace hm := (O am d2).trans hm
  replace hq := (O aq d4).trans hq
  replace hz := (O az d6.symm).trans hz
  replace hc := H
  clear H O
  have hJ2 : SJ g x am aq ac az c (nxTempo c T) σ := ⟨hdis, hO, ⟨fm, (mI_eq hmI rfl rfl rfl rfl rfl rfl), hm⟩, ⟨fq, (qI_eq hqI rfl rfl rfl rfl rfl rfl), hq⟩, ⟨fc1, (⟨((hn1 0 (by omega)).trans hcI.1).trans rfl, ((hn1 1 (by omega)).trans hcI.2.1).trans rfl, ((hn1 2 (by omega)).trans hcI.2.2.1).trans rfl, ((hn1 3 (by omega)).trans hcI.2.2.2.1).trans rfl, hs1.trans (show T = (nxTempo c T) 14 0 from rfl), ((hn1 5 (by omega)).trans hcI.2.2.2.2.2.1).trans rfl, ((hn1 6 (by omega)).trans hcI.2.2.2.2.2.2.1).trans rfl, ((hn1 7 (by omega)).trans hcI.2.2.2.2.2.2.2).trans (stB_eq rfl).symm⟩), hc⟩, fz, (zI_eq hzI rfl), hz⟩
  have hcd : cdTempo T = 0 := by
    unfold cdTempo
    rw [if_pos (by omega)]
  refine n_aload_n C dL_step_633 rfl ?_
  refine n_aload C dL_step_634 rfl ?_
  refine n_iconst (x := 4) C dL_step_636 ?_
  refine n_ialdv C T hc (by omega) (by omega) (by omega) hs1 dL_step_637 ?_
  obtain ⟨fo, hfo⟩ := hJ2.obj
  refine n_invV C (s_setTempo hst (by unfold rg; omega) hJ2 hcd) ⟨t3_179, t3_182, t1_1, ⟨by decide, by decide⟩, by show _ = some 1; decide +kernel, by decide⟩ t3_180 t3_181 hfo vC5 (by decide) (by omega) (by omega) (Nat.le_of_ble_eq_true rfl) rfl dL_step_638 (fun r σ h' => ?_) (fun _ _ h => h.elim)
  obtain ⟨rfl, hJ⟩ := h'
  refine n_iload C dL_step_641 rfl ?_
  refine n_icmp_ne C 650 dL_step_643 (by decide) (by unfold rg; omega) (by unfold rg; omega) (fun hk => by exfalso; first | omega | exact hk (by omega) | exact (by omega) hk) (fun _ => ?_)
  refine n_iconst (x := 1) C dL_step_646 ?_
  refine n_goto C 651 dL_step_647 (by decide) ?_
  exact n_ireturn C Rr (nar_bv (by first | decide | omega)) ⟨rfl, (nxTempo c T), hJ, h00⟩ (by omega) (by omega) dL_step_651
set_option maxRecDepth 100000 in
set_option maxHeartbeats 4000000 in
theorem st_rules {g : Gx} {Φ : Fx} (hst : g.1.stackTraces = false) (C : Ok g Φ cL_step "OperaMachinesLaw" (some .boolean) 9 5 146) {x am aq ac az : Nat} {c : Tb} {σ0 σ : Wd} (Rr : Rt Φ σ0 (STP g x am aq ac az) (fun _ _ => False) 5 146) (hN : fN Φ = 12) (hJ : SJ g x am aq ac az c c σ) {wh u v : Int} (hwh : 0 ≤ wh ∧ wh < 12) (hu : 0 ≤ u ∧ u < 1073741824) (hv : 0 ≤ v ∧ v < 1073741824) (h00 : 1 ≤ c 0 0) : N Φ 0 0 σ 658 [(0, .ref x), (1, iv wh), (2, iv u), (3, iv v), (4, .ref am), (5, .ref aq), (6, .ref ac), (7, .ref az)] [] := by
  obtain ⟨hdis, -, ⟨fm, hmI, hm⟩, ⟨fq, hqI, hq⟩, ⟨fc, hcI, hc⟩, fz, hzI, hz⟩ := id hJ
  have hw := hJ.wf
  obtain ⟨w0, w6, w12, w13, w14, w15, w16, wm, wq, ww⟩ := id hw
  have hLr := lenB_rg hw (T := c 14 0) w14.1
  obtain ⟨L, hL⟩ : ∃ L : Nat, lenB c (c 14 0) = L := ⟨(lenB c (c 14 0)).toNat, by omega⟩
  rw [hL] at hLr
  have hLL : LL c = L := by unfold LL; omega
  obtain ⟨n12, h12⟩ : ∃ n : Nat, c 12 0 = n := ⟨(c 12 0).toNat, by omega⟩
  obtain ⟨n0, hn0⟩ : ∃ n : Nat, c 0 0 = n := ⟨(c 0 0).toNat, by omega⟩
  obtain ⟨n6, hn6⟩ : ∃ n : Nat, c 6 0 = n := ⟨(c 6 0).toNat, by omega⟩
  obtain ⟨NN, hNd⟩ : ∃ NN : Nat, n12 * L = NN := ⟨_, rfl⟩
  have hNN : NN ≤ 2400 := by
    rw [← hNd]
    exact Nat.mul_le_mul (show n12 ≤ 30 by omega) (show L ≤ 80 by omega)
  have hNL : c 12 0 * lenB c (c 14 0) = (NN : Int) := by rw [h12, hL, ← Int.natCast_mul, hNd]
  have hNT : NT c L = NN := by
    unfold NT
    rw [show (c 12 0).toNat = n12 by omega]
    exact hNd
  obtain ⟨d1, d2, d3, d4, d5, d6⟩ := id hdis
  have hO : OBp g x am aq ac az c σ := hJ.2.1
  refine n_aload C dL_step_658 rfl ?_
  refine n_iconst (x := 5) C dL_step_660 ?_
  refine n_iload_n C dL_step_661 rfl ?_
  refine n_bipush (x := 12) C dL_step_662 (by decide) ?_
  refine n_iremP C dL_step_664 (by unfold rg; omega) (by unfold rg; omega) (by omega) (by omega) ?_
  have hr0 := Int.emod_nonneg u (show (12 : Int) ≠ 0 by decide)
  have hr1 := Int.emod_nonneg v (show (300 : Int) ≠ 0 by decide)
  obtain ⟨R, hR⟩ : ∃ R : Int, u % 12 = R := ⟨_, rfl⟩
  obtain ⟨S, hS⟩ : ∃ S : Int, v % 300 = S := ⟨_, rfl⟩
  rw [hR]
  refine n_iast C hc (by omega) (by omega) (by omega) dL_step_665 ?_
  refine wab (fun σ H O => ?_)
  rw [show Int.toNat 5 = 5 from rfl] at H
  obtain ⟨fc1, hf1⟩ : ∃ f : Nat → Int, upI fc 5 R = f := ⟨_, rfl⟩
  rw [hf1] at H
  have hs1 : fc1 5 = R := by rw [← hf1]; exact upI_s ..
  have hn1 : ∀ j : Nat, j ≠ 5 → fc1 j = fc j := fun j hj => by rw [← hf1]; exact upI_n hj
  clear hf1
  replace hO := hO.wr (Or.inr (Or.inr (Or.inl rfl))) O
  replace hm := (O am d2).trans hm
  replace hq := (O aq d4).trans hq
  replace hz := (O az d6.symm).trans hz
  replace hc := H
  clear H O
  refine n_aload C dL_step_666 rfl ?_
  refine n_bipush (x := 6) C dL_step_668 (by decide) ?_
  refine n_iload_n C dL_step_670 rfl ?_
  refine n_sipush (x := 300) C dL_step_671 (by decide) ?_
  refine n_iremP C dL_step_674 (by unfold rg; omega) (by unfold rg; omega) (by omega) (by omega) ?_
  rw [hS]
  refine n_iast C hc (by omega) (by omega) (by omega) dL_step_675 ?_
  refine wab (fun σ H O => ?_)
  rw [show Int.toNat 6 = 6 from rfl] at H
  obtain ⟨fc2, hf2⟩ : ∃ f : Nat → Int, upI fc1 6 S = f := ⟨_, rfl⟩
  rw [hf2] at H
  have hs2 : fc2 6 = S := by rw [← hf2]; exact upI_s ..
  have hn2 : ∀ j : Nat, j ≠ 6 → fc2 j = fc1 j := fun j hj => by rw [← hf2]; exact upI_n hj
  clear hf2
  replace hO := hO.wr (Or.inr (Or.inr (Or.inl rfl))) O
  replace hm := (O am d2).trans hm
  replace hq := (O aq d4).trans hq
  replace hz := (O az d6.symm).trans hz
  replace hc := H
  clear H O
  have hJ2 : SJ g x am aq ac az c (nxRules c R S) σ := ⟨hdis, hO, ⟨fm, (mI_eq hmI rfl rfl rfl rfl rfl rfl), hm⟩, ⟨fq, (qI_eq hqI rfl rfl rfl rfl rfl rfl), hq⟩, ⟨fc2, (⟨((hn2 0 (by omega)).trans ((hn1 0 (by omega)).trans hcI.1)).trans rfl, ((hn2 1 (by omega)).trans ((hn1 1 (by omega)).trans hcI.2.1)).trans rfl, ((hn2 2 (by omega)).trans ((hn1 2 (by omega)).trans hcI.2.2.1)).trans rfl, ((hn2 3 (by omega)).trans ((hn1 3 (by omega)).trans hcI.2.2.2.1)).trans rfl, ((hn2 4 (by omega)).trans ((hn1 4 (by omega)).trans hcI.2.2.2.2.1)).trans rfl, ((hn2 5 (by omega)).trans hs1).trans (show R = (nxRules c R S) 15 0 from rfl), hs2.trans (show S = (nxRules c R S) 16 0 from rfl), ((hn2 7 (by omega)).trans ((hn1 7 (by omega)).trans hcI.2.2.2.2.2.2.2)).trans (stB_eq rfl).symm⟩), hc⟩, fz, (zI_eq hzI rfl), hz⟩
  have hcd : cdRules R S = 0 := by
    unfold cdRules
    rw [if_pos (by omega)]
  refine n_aload_n C dL_step_676 rfl ?_
  refine n_aload C dL_step_677 rfl ?_
  refine n_iconst (x := 5) C dL_step_679 ?_
  refine n_ialdv C R hc (by omega) (by omega) (by omega) ((hn2 5 (by omega)).trans hs1) dL_step_680 ?_
  refine n_aload C dL_step_681 rfl ?_
  refine n_bipush (x := 6) C dL_step_683 (by decide) ?_
  refine n_ialdv C S hc (by omega) (by omega) (by omega) hs2 dL_step_685 ?_
  obtain ⟨fo, hfo⟩ := hJ2.obj
  refine n_invV C (s_setRules hst (by unfold rg; omega) (by unfold rg; omega) hJ2 hcd) ⟨t3_183, t3_186, t1_1, ⟨by decide, by decide⟩, by show _ = some 2; decide +kernel, by decide⟩ t3_184 t3_185 hfo vC5 (by decide) (by omega) (by omega) (Nat.le_of_ble_eq_true rfl) rfl dL_step_686 (fun r σ h' => ?_) (fun _ _ h => h.elim)
  obtain ⟨rfl, hJ⟩ := h'
  refine n_iconst (x := 1) C dL_step_689 ?_
  exact n_ireturn C Rr (nar_bv (by first | decide | omega)) ⟨rfl, (nxRules c R S), hJ, h00⟩ (by omega) (by omega) dL_step_690
