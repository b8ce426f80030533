set_option maxRecDepth 100000 in
set_option maxHeartbeats 4000000 in
theorem st_strike {g : Gx} {Φ : Fx} (hst : g.1.stackTraces = false) (C : Ok g Φ cL_step "OperaMachinesLaw" (some .boolean) 9 5 146) {x am aq ac az : Nat} {c : Tb} {σ0 σ : Wd} (Rr : Rt Φ σ0 (STP g x am aq ac az) (fun _ _ => False) 5 146) (hN : fN Φ = 12) (hJ : SJ g x am aq ac az c c σ) {wh u v : Int} (hwh : 0 ≤ wh ∧ wh < 12) (hu : 0 ≤ u ∧ u < 1073741824) (hv : 0 ≤ v ∧ v < 1073741824) (h00 : 1 ≤ c 0 0) : N Φ 0 0 σ 697 [(0, .ref x), (1, iv wh), (2, iv u), (3, iv v), (4, .ref am), (5, .ref aq), (6, .ref ac), (7, .ref az)] [] := by
  obtain ⟨hdis, -, ⟨fm, hmI, hm⟩, ⟨fq, hqI, hq⟩, ⟨fc, hcI, hc⟩, fz, hzI, hz⟩ := id hJ
  have hw := hJ.wf
  obtain ⟨w0, w6, w12, w13, w14, w15, w16, wm, wq, ww⟩ := id hw
  have hLr := lenB_rg hw (T := c 14 0) w14.1
  obtain ⟨L, hL⟩ : ∃ L : Nat, lenB c (c 14 0) = L := ⟨(lenB c (c 14 0)).toNat, by omega⟩
  rw [hL] at hLr
  have hLL : LL c = L := by unfold LL; omega
  obtain ⟨n12, h12⟩ : ∃ n : Nat, c 12 0 = n := ⟨(c 12 0).toNat, by omega⟩
  obtain ⟨n0, hn0⟩ : ∃ n : Nat, c 0 0 = n := ⟨(c 0 0).toNat, by omega⟩
  obtain ⟨n6, hn6⟩ : ∃ n : Nat, c 6 0 = n := ⟨(c 6 0).toNat, by omega⟩
  obtain ⟨NN, hNd⟩ : ∃ NN : Nat, n12 * L = NN := ⟨_, rfl⟩
  have hNN : NN ≤ 2400 := by
    rw [← hNd]
    exact Nat.mul_le_mul (show n12 ≤ 30 by omega) (show L ≤ 80 by omega)
  have hNL : c 12 0 * lenB c (c 14 0) = (NN : Int) := by rw [h12, hL, ← Int.natCast_mul, hNd]
  have hNT : NT c L = NN := by
    unfold NT
    rw [show (c 12 0).toNat = n12 by omega]
    exact hNd
  obtain ⟨d1, d2, d3, d4, d5, d6⟩ := id hdis
  have hO : OBp g x am aq ac az c σ := hJ.2.1
  refine n_iload_n C dL_step_697 rfl ?_
  refine n_bipush (x := 6) C dL_step_698 (by decide) ?_
  refine n_iremP C dL_step_700 (by unfold rg; omega) (by unfold rg; omega) (by omega) (by omega) ?_
  have he0 : 0 ≤ u % 6 := Int.emod_nonneg _ (by omega)
  have he1 : u % 6 < 6 := Int.emod_lt_of_pos _ (by omega)
  obtain ⟨e, he⟩ : ∃ e : Nat, u % 6 = e := ⟨(u % 6).toNat, by omega⟩
  rw [he] at he0 he1 ⊢
  refine n_istore (lv' := [(8, iv (e : Int)), (0, .ref x), (1, iv wh), (2, iv u), (3, iv v), (4, .ref am), (5, .ref aq), (6, .ref ac), (7, .ref az)]) C dL_step_701 (by rw [hN]; decide) rfl ?_
  refine n_aload C dL_step_703 rfl ?_
  refine n_bipush (x := 7) C dL_step_705 (by decide) ?_
  refine n_ialdv C (stB c) hc (by omega) (by omega) (by omega) hcI.2.2.2.2.2.2.2 dL_step_707 ?_
  obtain ⟨N7, hN7, hN64, hbit⟩ := stB_n hw
  have hbe := hbit e (by omega)
  have h17 := (ww e).1
  rw [hN7]
  refine n_iload C dL_step_708 rfl ?_
  refine n_ishr C dL_step_710 (b6_get (by omega) (by omega)) ?_
  refine n_iconst (x := 1) C dL_step_711 ?_
  refine n_iand C dL_step_712 (b6_one _) ?_
  refine n_iconst (x := 1) C dL_step_713 ?_
  have J722 : ∀ hd : Int, hd = c 17 e → N Φ 0 0 σ 722 [(8, iv (e : Int)), (0, .ref x), (1, iv wh), (2, iv u), (3, iv v), (4, .ref am), (5, .ref aq), (6, .ref ac), (7, .ref az)] [iv hd] := by
    intro hd hhd
    refine n_istore (lv' := [(9, iv hd), (8, iv (e : Int)), (0, .ref x), (1, iv wh), (2, iv u), (3, iv v), (4, .ref am), (5, .ref aq), (6, .ref ac), (7, .ref az)]) C dL_step_722 (by rw [hN]; decide) rfl ?_
    refine n_aload C dL_step_724 rfl ?_
    refine n_bipush (x := 7) C dL_step_726 (by decide) ?_
    refine n_iload_n C dL_step_728 rfl ?_
    refine n_iconst (x := 2) C dL_step_729 ?_
    refine n_iremP C dL_step_730 (by unfold rg; omega) (by unfold rg; omega) (by omega) (by omega) ?_
    refine n_if_ne C 747 dL_step_731 (by decide) (by unfold rg; omega) (fun b731 => ?_) (fun b731 => ?_)
    · refine n_aload C dL_step_747 rfl ?_
      refine n_bipush (x := 7) C dL_step_749 (by decide) ?_
      refine n_ialdv C (stB c) hc (by omega) (by omega) (by omega) hcI.2.2.2.2.2.2.2 dL_step_751 ?_
      rw [hN7]
      refine n_iconst (x := 1) C dL_step_752 ?_
      refine n_iload C dL_step_753 rfl ?_
      refine n_ishl C dL_step_755 (b6_shl e (by omega)) ?_
      refine n_iconst (x := (-1)) C dL_step_756 ?_
      refine n_ixor C dL_step_757 (b6_not e (by omega)) ?_
      refine n_iand C dL_step_758 (b6_clr N7 hN64 e (by omega)) ?_
      obtain ⟨M7, hM7⟩ : ∃ M7 : Int, ((if N7 / 2 ^ e % 2 = 1 then N7 - 2 ^ e else N7 : Nat) : Int) = M7 := ⟨_, rfl⟩
      rw [hM7]
      have hst7 : stB (nxStrike c (e : Int) 0) = M7 := by
        unfold nxStrike
        rw [Int.toNat_natCast, stB_up (by omega) hN7 hbe (by omega), ← hM7]
        rfl
      refine n_iast C hc (by omega) (by omega) (by omega) dL_step_759 ?_
      refine wab (fun σ H O => ?_)
      rw [show Int.toNat 7 = 7 from rfl] at H
      obtain ⟨fc1, hf1⟩ : ∃ f : Nat → Int, upI fc 7 M7 = f := ⟨_, rfl⟩
      rw [hf1] at H
      have hs1 : fc1 7 = M7 := by rw [← hf1]; exact upI_s ..
      have hn1 : ∀ j : Nat, j ≠ 7 → fc1 j = fc j := fun j hj => by rw [← hf1]; exact upI_n hj
      clear hf1
      replace hO := hO.wr (Or.inr (Or.inr (Or.inl rfl))) O
      replace hm := (O am d2).trans hm
      replace hq := (O aq d4).trans hq
      replace hz := (O az d6.symm).trans hz
      replace hc := H
      clear H O
      have hJ2 : SJ g x am aq ac az c (nxStrike c (e : Int) 0) σ := ⟨hdis, hO, ⟨fm, (mI_eq hmI rfl rfl rfl rfl rfl rfl), hm⟩, ⟨fq, (qI_eq hqI rfl rfl rfl rfl rfl rfl), hq⟩, ⟨fc1, (⟨((hn1 0 (by omega)).trans hcI.1).trans rfl, ((hn1 1 (by omega)).trans hcI.2.1).trans rfl, ((hn1 2 (by omega)).trans hcI.2.2.1).trans rfl, ((hn1 3 (by omega)).trans hcI.2.2.2.1).trans rfl, ((hn1 4 (by omega)).trans hcI.2.2.2.2.1).trans rfl, ((hn1 5 (by omega)).trans hcI.2.2.2.2.2.1).trans rfl, ((hn1 6 (by omega)).trans hcI.2.2.2.2.2.2.1).trans rfl, hs1.trans hst7.symm⟩), hc⟩, fz, (zI_eq hzI rfl), hz⟩
      have hcd : cdWork (e : Int) = 0 := by
        unfold cdWork
        rw [if_pos (by omega)]
      refine n_aload_n C dL_step_760 rfl ?_
      refine n_iload C dL_step_761 rfl ?_
      refine n_iload_n C dL_step_763 rfl ?_
      refine n_iconst (x := 2) C dL_step_764 ?_
      refine n_iremP C dL_step_765 (by unfold rg; omega) (by unfold rg; omega) (by omega) (by omega) ?_
      refine n_if_ne C 773 dL_step_766 (by decide) (by unfold rg; omega) (fun _ => ?_) (fun hk => by exfalso; first | omega | exact hk (by omega) | exact (by omega) hk)
      refine n_iconst (x := 0) C dL_step_773 ?_
      obtain ⟨fo, hfo⟩ := hJ2.obj
      refine n_invV C (s_strike hst (a2 := 0) (by unfold rg; omega) (by omega) hJ2 hcd) ⟨t3_187, t3_190, t1_1, ⟨by decide, by decide⟩, by show _ = some 2; decide +kernel, by decide⟩ t3_188 t3_189 hfo vC5 (by decide) (by omega) (by omega) (Nat.le_of_ble_eq_true rfl) rfl dL_step_774 (fun r σ h' => ?_) (fun _ _ h => h.elim)
      obtain ⟨rfl, hJ⟩ := h'
      rw [Int.toNat_natCast]
      refine n_iload C dL_step_777 rfl ?_
      refine n_icmp_ne C 786 dL_step_779 (by decide) (by unfold rg; omega) (by unfold rg; omega) (fun hk => by exfalso; first | omega | exact hk (by omega) | exact (by omega) hk) (fun _ => ?_)
      refine n_iconst (x := 1) C dL_step_782 ?_
      refine n_goto C 787 dL_step_783 (by decide) ?_
      exact n_ireturn C Rr (nar_bv (by first | decide | omega)) ⟨rfl, (nxStrike c (e : Int) 0), hJ, h00⟩ (by omega) (by omega) dL_step_787
    · refine n_aload C dL_step_734 rfl ?_
      refine n_bipush (x := 7) C dL_step_736 (by decide) ?_
      refine n_ialdv C (stB c) hc (by omega) (by omega) (by omega) hcI.2.2.2.2.2.2.2 dL_step_738 ?_
      rw [hN7]
      refine n_iconst (x := 1) C dL_step_739 ?_
      refine n_iload C dL_step_740 rfl ?_
      refine n_ishl C dL_step_742 (b6_shl e (by omega)) ?_
      refine n_ior C dL_step_743 (b6_set N7 hN64 e (by omega)) ?_
      refine n_goto C 759 dL_step_744 (by decide) ?_
      obtain ⟨M7, hM7⟩ : ∃ M7 : Int, ((if N7 / 2 ^ e % 2 = 1 then N7 else N7 + 2 ^ e : Nat) : Int) = M7 := ⟨_, rfl⟩
      rw [hM7]
      have hst7 : stB (nxStrike c (e : Int) 1) = M7 := by
        unfold nxStrike
        rw [Int.toNat_natCast, stB_up (by omega) hN7 hbe (by omega), ← hM7]
        rfl
      refine n_iast C hc (by omega) (by omega) (by omega) dL_step_759 ?_
      refine wab (fun σ H O => ?_)
      rw [show Int.toNat 7 = 7 from rfl] at H
      obtain ⟨fc1, hf1⟩ : ∃ f : Nat → Int, upI fc 7 M7 = f := ⟨_, rfl⟩
      rw [hf1] at H
      have hs1 : fc1 7 = M7 := by rw [← hf1]; exact upI_s ..
      have hn1 : ∀ j : Nat, j ≠ 7 → fc1 j = fc j := fun j hj => by rw [← hf1]; exact upI_n hj
      clear hf1
      replace hO := hO.wr (Or.inr (Or.inr (Or.inl rfl))) O
      replace hm := (O am d2).trans hm
      replace hq := (O aq d4).trans hq
      replace hz := (O az d6.symm).trans hz
      replace hc := H
      clear H O
      have hJ2 : SJ g x am aq ac az c (nxStrike c (e : Int) 1) σ := ⟨hdis, hO, ⟨fm, (mI_eq hmI rfl rfl rfl rfl rfl rfl), hm⟩, ⟨fq, (qI_eq hqI rfl rfl rfl rfl rfl rfl), hq⟩, ⟨fc1, (⟨((hn1 0 (by omega)).trans hcI.1).trans rfl, ((hn1 1 (by omega)).trans hcI.2.1).trans rfl, ((hn1 2 (by omega)).trans hcI.2.2.1).trans rfl, ((hn1 3 (by omega)).trans hcI.2.2.2.1).trans rfl, ((hn1 4 (by omega)).trans hcI.2.2.2.2.1).trans rfl, ((hn1 5 (by omega)).trans hcI.2.2.2.2.2.1).trans rfl, ((hn1 6 (by omega)).trans hcI.2.2.2.2.2.2.1).trans rfl, hs1.trans hst7.symm⟩), hc⟩, fz, (zI_eq hzI rfl), hz⟩
      have hcd : cdWork (e : Int) = 0 := by
        unfold cdWork
        rw [if_pos (by omega)]
      refine n_aload_n C dL_step_760 rfl ?_
      refine n_iload C dL_step_761 rfl ?_
      refine n_iload_n C dL_step_763 rfl ?_
      refine n_iconst (x := 2) C dL_step_764 ?_
      refine n_iremP C dL_step_765 (by unfold rg; omega) (by unfold rg; omega) (by omega) (by omega) ?_
      refine n_if_ne C 773 dL_step_766 (by decide) (by unfold rg; omega) (fun hk => by exfalso; first | omega | exact hk (by omega) | exact (by omega) hk) (fun _ => ?_)
      refine n_iconst (x := 1) C dL_step_769 ?_
      refine n_goto C 774 dL_step_770 (by decide) ?_
      obtain ⟨fo, hfo⟩ := hJ2.obj
      refine n_invV C (s_strike hst (a2 := 1) (by unfold rg; omega) (by omega) hJ2 hcd) ⟨t3_187, t3_190, t1_1, ⟨by decide, by decide⟩, by show _ = some 2; decide +kernel, by decide⟩ t3_188 t3_189 hfo vC5 (by decide) (by omega) (by omega) (Nat.le_of_ble_eq_true rfl) rfl dL_step_774 (fun r σ h' => ?_) (fun _ _ h => h.elim)
      obtain ⟨rfl, hJ⟩ := h'
      rw [Int.toNat_natCast]
      refine n_iload C dL_step_777 rfl ?_
      refine n_icmp_ne C 786 dL_step_779 (by decide) (by unfold rg; omega) (by unfold rg; omega) (fun hk => by exfalso; first | omega | exact hk (by omega) | exact (by omega) hk) (fun _ => ?_)
      refine n_iconst (x := 1) C dL_step_782 ?_
      refine n_goto C 787 dL_step_783 (by decide) ?_
      exact n_ireturn C Rr (nar_bv (by first | decide | omega)) ⟨rfl, (nxStrike c (e : Int) 1), hJ, h00⟩ (by omega) (by omega) dL_step_787
  refine n_icmp_ne C 721 dL_step_714 (by decide) (by unfold rg; omega) (by unfold rg; omega) (fun b714 => ?_) (fun b714 => ?_)
  · refine n_iconst (x := 0) C dL_step_721 ?_
    exact J722 _ (by omega)
  · refine n_iconst (x := 1) C dL_step_717 ?_
    refine n_goto C 722 dL_step_718 (by decide) ?_
    exact J722 _ (by omega)
set_option maxRecDepth 100000 in
set_option maxHeartbeats 4000000 in
theorem st_sub {g : Gx} {Φ : Fx} (hst : g.1.stackTraces = false) (C : Ok g Φ cL_step "OperaMachinesLaw" (some .boolean) 9 5 146) {x am aq ac az : Nat} {c : Tb} {σ0 σ : Wd} (Rr : Rt Φ σ0 (STP g x am aq ac az) (fun _ _ => False) 5 146) (hN : fN Φ = 12) (hJ : SJ g x am aq ac az c c σ) {wh u v : Int} (hwh : 0 ≤ wh ∧ wh < 12) (hu : 0 ≤ u ∧ u < 1073741824) (hv : 0 ≤ v ∧ v < 1073741824) (h00 : 1 ≤ c 0 0) : N Φ 0 0 σ 788 [(0, .ref x), (1, iv wh), (2, iv u), (3, iv v), (4, .ref am), (5, .ref aq), (6, .ref ac), (7, .ref az)] [] := by
  obtain ⟨hdis, -, ⟨fm, hmI, hm⟩, ⟨fq, hqI, hq⟩, ⟨fc, hcI, hc⟩, fz, hzI, hz⟩ := id hJ
  have hw := hJ.wf
  obtain ⟨w0, w6, w12, w13, w14, w15, w16, wm, wq, ww⟩ := id hw
  have hLr := lenB_rg hw (T := c 14 0) w14.1
  obtain ⟨L, hL⟩ : ∃ L : Nat, lenB c (c 14 0) = L := ⟨(lenB c (c 14 0)).toNat, by omega⟩
  rw [hL] at hLr
  have hLL : LL c = L := by unfold LL; omega
  obtain ⟨n12, h12⟩ : ∃ n : Nat, c 12 0 = n := ⟨(c 12 0).toNat, by omega⟩
  obtain ⟨n0, hn0⟩ : ∃ n : Nat, c 0 0 = n := ⟨(c 0 0).toNat, by omega⟩
  obtain ⟨n6, hn6⟩ : ∃ n : Nat, c 6 0 = n := ⟨(c 6 0).toNat, by omega⟩
  obtain ⟨NN, hNd⟩ : ∃ NN : Nat, n12 * L = NN := ⟨_, rfl⟩
  have hNN : NN ≤ 2400 := by
    rw [← hNd]
    exact Nat.mul_le_mul (show n12 ≤ 30 by omega) (show L ≤ 80 by omega)
  have hNL : c 12 0 * lenB c (c 14 0) = (NN : Int) := by rw [h12, hL, ← Int.natCast_mul, hNd]
  have hNT : NT c L = NN := by
    unfold NT
    rw [show (c 12 0).toNat = n12 by omega]
    exact hNd
  obtain ⟨d1, d2, d3, d4, d5, d6⟩ := id hdis
  have hO : OBp g x am aq ac az c σ := hJ.2.1
  refine n_aload C dL_step_788 rfl ?_
  refine n_iload_n C dL_step_790 rfl ?_
  refine n_bipush (x := 6) C dL_step_791 (by decide) ?_
  refine n_iremP C dL_step_793 (by unfold rg; omega) (by unfold rg; omega) (by omega) (by omega) ?_
  have he0 : 0 ≤ u % 6 := Int.emod_nonneg _ (by omega)
  have he1 : u % 6 < 6 := Int.emod_lt_of_pos _ (by omega)
  obtain ⟨e, he⟩ : ∃ e : Nat, u % 6 = e := ⟨(u % 6).toNat, by omega⟩
  rw [he] at he0 he1 ⊢
  have h18 := (ww e).2
  refine n_ialdv C (c 18 e + 1) hz (by omega) (by omega) (by omega) (by rw [Int.toNat_natCast]; exact hzI e (by omega)) dL_step_794 ?_
  refine n_iconst (x := 1) C dL_step_795 ?_
  refine n_isub C dL_step_796 ?_
  refine n_istore (lv' := [(8, iv ((c 18 e + 1) - 1)), (0, .ref x), (1, iv wh), (2, iv u), (3, iv v), (4, .ref am), (5, .ref aq), (6, .ref ac), (7, .ref az)]) C dL_step_797 (by rw [hN]; decide) rfl ?_
  refine n_aload C dL_step_799 rfl ?_
  refine n_iload_n C dL_step_801 rfl ?_
  refine n_bipush (x := 6) C dL_step_802 (by decide) ?_
  refine n_iremP C dL_step_804 (by unfold rg; omega) (by unfold rg; omega) (by omega) (by omega) ?_
  rw [he]
  refine n_iload_n C dL_step_805 rfl ?_
  refine n_bipush (x := 7) C dL_step_806 (by decide) ?_
  refine n_iremP C dL_step_808 (by unfold rg; omega) (by unfold rg; omega) (by omega) (by omega) ?_
  have hs0 := Int.emod_nonneg v (show (7 : Int) ≠ 0 by decide)
  have hs6 := Int.emod_lt_of_pos v (show (0 : Int) < 7 by decide)
  obtain ⟨S, hS⟩ : ∃ S : Int, v % 7 = S := ⟨_, rfl⟩
  rw [hS] at hs0 hs6 ⊢
  refine n_iast C hz (by omega) (by omega) (by omega) dL_step_809 ?_
  refine wab (fun σ H O => ?_)
  rw [show ((e : Int) : Int).toNat = e by omega] at H
  obtain ⟨fz1, hf1⟩ : ∃ f : Nat → Int, upI fz e S = f := ⟨_, rfl⟩
  rw [hf1] at H
  have hs1 : fz1 e = S := by rw [← hf1]; exact upI_s ..
  have hn1 : ∀ j : Nat, j ≠ e → fz1 j = fz j := fun j hj => by rw [← hf1]; exact upI_n hj
  clear hf1
  replace hO := hO.wr (Or.inr (Or.inr (Or.inr rfl))) O
  replace hm := (O am d3).trans hm
  replace hq := (O aq d5).trans hq
  replace hc := (O ac d6).trans hc
  replace hz := H
  clear H O
  have hJ2 : SJ g x am aq ac az c (nxSub c (e : Int) (S - 1)) σ := ⟨hdis, hO, ⟨fm, (mI_eq hmI rfl rfl rfl rfl rfl rfl), hm⟩, ⟨fq, (qI_eq hqI rfl rfl rfl rfl rfl rfl), hq⟩, ⟨fc, (⟨hcI.1.trans rfl, hcI.2.1.trans rfl, hcI.2.2.1.trans rfl, hcI.2.2.2.1.trans rfl, hcI.2.2.2.2.1.trans rfl, hcI.2.2.2.2.2.1.trans rfl, hcI.2.2.2.2.2.2.1.trans rfl, hcI.2.2.2.2.2.2.2.trans (stB_eq rfl).symm⟩), hc⟩, fz1, (fun j hj => by
    have e18 : nxSub c (e : Int) (S - 1) 18 j = if j = e then S - 1 else c 18 j := by
      unfold nxSub
      rw [Int.toNat_natCast, tu_row]
      rfl
    rw [e18]
    by_cases z : j = e
    · rw [if_pos z, z, hs1]
      omega
    · rw [if_neg z, hn1 j z]
      exact hzI j hj), hz⟩
  have hcd : cdSub (e : Int) (S - 1) = 0 := by
    unfold cdSub
    rw [if_pos (by omega)]
  refine n_aload_n C dL_step_810 rfl ?_
  refine n_iload_n C dL_step_811 rfl ?_
  refine n_bipush (x := 6) C dL_step_812 (by decide) ?_
  refine n_iremP C dL_step_814 (by unfold rg; omega) (by unfold rg; omega) (by omega) (by omega) ?_
  rw [he]
  refine n_iload_n C dL_step_815 rfl ?_
  refine n_bipush (x := 7) C dL_step_816 (by decide) ?_
  refine n_iremP C dL_step_818 (by unfold rg; omega) (by unfold rg; omega) (by omega) (by omega) ?_
  rw [hS]
  refine n_iconst (x := 1) C dL_step_819 ?_
  refine n_isub C dL_step_820 ?_
  obtain ⟨fo, hfo⟩ := hJ2.obj
  refine n_invV C (s_substitute hst (by unfold rg; omega) (by unfold rg; omega) hJ2 hcd) ⟨t3_191, t3_194, t1_1, ⟨by decide, by decide⟩, by show _ = some 2; decide +kernel, by decide⟩ t3_192 t3_193 hfo vC5 (by decide) (by omega) (by omega) (Nat.le_of_ble_eq_true rfl) rfl dL_step_821 (fun r σ h' => ?_) (fun _ _ h => h.elim)
  obtain ⟨rfl, hJ⟩ := h'
  rw [Int.toNat_natCast]
  refine n_iload C dL_step_824 rfl ?_
  refine n_icmp_ne C 833 dL_step_826 (by decide) (by unfold rg; omega) (by unfold rg; omega) (fun hk => by exfalso; first | omega | exact hk (by omega) | exact (by omega) hk) (fun _ => ?_)
  refine n_iconst (x := 1) C dL_step_829 ?_
  refine n_goto C 834 dL_step_830 (by decide) ?_
  exact n_ireturn C Rr (nar_bv (by first | decide | omega)) ⟨rfl, (nxSub c (e : Int) (S - 1)), hJ, h00⟩ (by omega) (by omega) dL_step_834
