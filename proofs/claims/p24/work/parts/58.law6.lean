set_option maxRecDepth 100000 in
set_option maxHeartbeats 4000000 in
theorem l_isFastest {g : Gx} (hst : g.1.stackTraces = false) {x am aq ac az : Nat} {c : Tb} {σ : Wd} (hJ : SJ g x am aq ac az c c σ)  : CT g yL_isFastest cL_isFastest 5 (some .boolean) 7 18 108 [.ref x, .ref ac] σ (fun r σ' => r = some (iv 1) ∧ SJ g x am aq ac az c c σ') (fun _ _ => False) := by
  refine CT.of hst (by decide +kernel) (Nat.le_of_ble_eq_true rfl) (fun Φ C Rr hY hN => ?_)
  show N Φ 0 0 σ 0 [(0, .ref x), (1, .ref ac)] []
  obtain ⟨hdis, -, ⟨fm, hmI, hm⟩, ⟨fq, hqI, hq⟩, ⟨fc, hcI, hc⟩, fz, hzI, hz⟩ := id hJ
  have hw := hJ.wf
  obtain ⟨w0, w6, w12, w13, w14, w15, w16, wm, wq, ww⟩ := id hw
  have hLr := lenB_rg hw (T := c 14 0) w14.1
  obtain ⟨L, hL⟩ : ∃ L : Nat, lenB c (c 14 0) = L := ⟨(lenB c (c 14 0)).toNat, by omega⟩
  rw [hL] at hLr
  have hLL : LL c = L := by unfold LL; omega
  obtain ⟨n12, h12⟩ : ∃ n : Nat, c 12 0 = n := ⟨(c 12 0).toNat, by omega⟩
  obtain ⟨n0, hn0⟩ : ∃ n : Nat, c 0 0 = n := ⟨(c 0 0).toNat, by omega⟩
  obtain ⟨n6, hn6⟩ : ∃ n : Nat, c 6 0 = n := ⟨(c 6 0).toNat, by omega⟩
  obtain ⟨NN, hNd⟩ : ∃ NN : Nat, n12 * L = NN := ⟨_, rfl⟩
  have hNN : NN ≤ 2400 := by
    rw [← hNd]
    exact Nat.mul_le_mul (show n12 ≤ 30 by omega) (show L ≤ 80 by omega)
  have hNL : c 12 0 * lenB c (c 14 0) = (NN : Int) := by rw [h12, hL, ← Int.natCast_mul, hNd]
  have hNT : NT c L = NN := by
    unfold NT
    rw [show (c 12 0).toNat = n12 by omega]
    exact hNd
  have hfs := fs_at (c := c) 16
  have hfr : -1 ≤ fsF c 16 ∧ fsF c 16 ≤ 200 := by rcases hfs with ⟨q, _⟩ | ⟨m, q1, q2, q3, _⟩ <;> omega
  refine n_aload_n C dL_isFastest_0 rfl ?_
  obtain ⟨fo, hfo⟩ := hJ.obj
  refine n_invV C (s_fastest hst hJ) ⟨t4_127, t4_130, t1_1, ⟨by decide, by decide⟩, by show _ = some 0; decide +kernel, by decide⟩ t4_128 t4_129 hfo vC5 (by decide) (by omega) (by omega) (Nat.le_of_ble_eq_true rfl) rfl dL_isFastest_1 (fun r σ h' => ?_) (fun _ _ h => h.elim)
  obtain ⟨rfl, hJ⟩ := h'
  obtain ⟨hdis, -, ⟨fm, hmI, hm⟩, ⟨fq, hqI, hq⟩, ⟨fc, hcI, hc⟩, fz, hzI, hz⟩ := id hJ
  obtain ⟨F, hF⟩ : ∃ F : Int, fsF c 16 = F := ⟨_, rfl⟩
  rw [hF] at hfs hfr ⊢
  have hJ0 : SJ g x am aq ac az (nxTempo c (c 14 0)) c σ := by rw [nx14_id c]; exact hJ
  clear hJ
  refine n_istore_n (lv' := [(2, iv F), (0, .ref x), (1, .ref ac)]) C dL_isFastest_4 (by rw [hN]; decide) rfl ?_
  refine n_iconst (x := 1) C dL_isFastest_5 ?_
  refine n_istore_n (lv' := [(3, iv 1), (2, iv F), (0, .ref x), (1, .ref ac)]) C dL_isFastest_6 (by rw [hN]; decide) rfl ?_
  refine n_sipush (x := 200) C dL_isFastest_7 (by decide) ?_
  refine n_istore (lv' := [(4, iv 200), (3, iv 1), (2, iv F), (0, .ref x), (1, .ref ac)]) C dL_isFastest_10 (by rw [hN]; decide) rfl ?_
  have J55 : ∀ (T : Int) (σ : Wd) (hT : 50 ≤ T ∧ T ≤ 200) (hJ : SJ g x am aq ac az (nxTempo c T) c σ) (tv : Int), N Φ 16 96 σ 55 [(4, iv tv), (3, iv 1), (2, iv F), (0, .ref x), (1, .ref ac)] [] := by
    intro T σ hT hJ tv
    obtain ⟨hdis, -, ⟨fm, hmI, hm⟩, ⟨fq, hqI, hq⟩, ⟨fc, hcI, hc⟩, fz, hzI, hz⟩ := id hJ
    refine n_iload_n C dL_isFastest_55 rfl ?_
    refine n_if_eq C 105 dL_isFastest_56 (by decide) (by unfold rg; omega) (fun hk => by exfalso; first | omega | exact hk (by omega) | exact (by omega) hk) (fun _ => ?_)
    have J106 : ∀ (U : Int) (σ : Wd) (hU : 50 ≤ U ∧ U ≤ 200) (hJ : SJ g x am aq ac az (nxTempo c U) c σ), N Φ 17 102 σ 101 [(4, iv tv), (2, iv F), (0, .ref x), (1, .ref ac)] [] := by
      intro U σ hU hJ
      obtain ⟨hdis, -, ⟨fm, hmI, hm⟩, ⟨fq, hqI, hq⟩, ⟨fc, hcI, hc⟩, fz, hzI, hz⟩ := id hJ
      refine n_iconst (x := 1) C dL_isFastest_101 ?_
      refine n_goto C 106 dL_isFastest_102 (by decide) ?_
      refine n_istore_n (lv' := [(3, iv 1), (4, iv tv), (2, iv F), (0, .ref x), (1, .ref ac)]) C dL_isFastest_106 (by rw [hN]; decide) rfl ?_
      refine n_aload_n C dL_isFastest_107 rfl ?_
      refine n_aload_n C dL_isFastest_108 rfl ?_
      refine n_iconst (x := 4) C dL_isFastest_109 ?_
      refine n_ialdv C (c 14 0) hc (by omega) (by omega) (by omega) hcI.2.2.2.2.1 dL_isFastest_110 ?_
      have hct : cdTempo (c 14 0) = 0 := by
        unfold cdTempo
        rw [if_pos (by omega)]
      have ht14 : nxTempo c U 14 0 = U := tu_s ..
      obtain ⟨fo, hfo⟩ := hJ.obj
      refine n_invV C (s_setTempo hst (by unfold rg; omega) hJ hct) ⟨t3_179, t3_182, t1_1, ⟨by decide, by decide⟩, by show _ = some 1; decide +kernel, by decide⟩ t3_180 t3_181 hfo vC5 (by decide) (by omega) (by omega) (Nat.le_of_ble_eq_true rfl) rfl dL_isFastest_111 (fun r σ h' => ?_) (fun _ _ h => h.elim)
      obtain ⟨rfl, hJ⟩ := h'
      rw [nx14_2] at hJ
      rw [ht14]
      obtain ⟨hdis, -, ⟨fm, hmI, hm⟩, ⟨fq, hqI, hq⟩, ⟨fc, hcI, hc⟩, fz, hzI, hz⟩ := id hJ
      rw [nx14_id c] at hJ
      refine n_pop C dL_isFastest_114 rfl ?_
      refine n_iload_n C dL_isFastest_115 rfl ?_
      refine n_if_eq C 131 dL_isFastest_116 (by decide) (by unfold rg; omega) (fun hk => by exfalso; first | omega | exact hk (by omega) | exact (by omega) hk) (fun _ => ?_)
      refine n_aload_n C dL_isFastest_119 rfl ?_
      obtain ⟨fo, hfo⟩ := hJ.obj
      refine n_invV C (s_fastest hst hJ) ⟨t4_127, t4_130, t1_1, ⟨by decide, by decide⟩, by show _ = some 0; decide +kernel, by decide⟩ t4_128 t4_129 hfo vC5 (by decide) (by omega) (by omega) (Nat.le_of_ble_eq_true rfl) rfl dL_isFastest_120 (fun r σ h' => ?_) (fun _ _ h => h.elim)
      obtain ⟨rfl, hJ⟩ := h'
      obtain ⟨hdis, -, ⟨fm, hmI, hm⟩, ⟨fq, hqI, hq⟩, ⟨fc, hcI, hc⟩, fz, hzI, hz⟩ := id hJ
      rw [hF]
      refine n_iload_n C dL_isFastest_123 rfl ?_
      refine n_icmp_ne C 131 dL_isFastest_124 (by decide) (by unfold rg; omega) (by unfold rg; omega) (fun hk => by exfalso; first | omega | exact hk (by omega) | exact (by omega) hk) (fun _ => ?_)
      refine n_iconst (x := 1) C dL_isFastest_127 ?_
      refine n_goto C 132 dL_isFastest_128 (by decide) ?_
      exact n_ireturn C Rr (nar_bv (by first | decide | omega)) ⟨rfl, hJ⟩ (by omega) (by omega) dL_isFastest_132
    refine n_iload_n C dL_isFastest_59 rfl ?_
    refine n_iconst (x := (-1)) C dL_isFastest_60 ?_
    refine n_icmp_eq C 101 dL_isFastest_61 (by decide) (by unfold rg; omega) (by unfold rg; omega) (fun b61 => ?_) (fun b61 => ?_)
    · refine n_keep (lv' := [(4, iv tv), (2, iv F), (0, .ref x), (1, .ref ac)]) [4, 2, 0, 1] rfl ?_
      exact n_widen (by omega) (by omega) (J106 T σ hT hJ)
    · obtain ⟨m0, a1, a2, a3, a4, a5⟩ := hfs.resolve_left (fun t => by omega)
      refine n_iload_n C dL_isFastest_64 rfl ?_
      refine n_bipush (x := 10) C dL_isFastest_65 (by decide) ?_
      refine n_iremP C dL_isFastest_67 (by unfold rg; omega) (by unfold rg; omega) (by omega) (by omega) ?_
      refine n_if_ne C 105 dL_isFastest_68 (by decide) (by unfold rg; omega) (fun hk => by exfalso; first | omega | exact hk (by omega) | exact (by omega) hk) (fun _ => ?_)
      refine n_iload_n C dL_isFastest_71 rfl ?_
      refine n_bipush (x := 50) C dL_isFastest_72 (by decide) ?_
      refine n_icmp_lt C 105 dL_isFastest_74 (by decide) (by unfold rg; omega) (by unfold rg; omega) (fun hk => by exfalso; first | omega | exact hk (by omega) | exact (by omega) hk) (fun _ => ?_)
      refine n_iload_n C dL_isFastest_77 rfl ?_
      refine n_sipush (x := 200) C dL_isFastest_78 (by decide) ?_
      refine n_icmp_gt C 105 dL_isFastest_81 (by decide) (by unfold rg; omega) (by unfold rg; omega) (fun hk => by exfalso; first | omega | exact hk (by omega) | exact (by omega) hk) (fun _ => ?_)
      refine n_aload_n C dL_isFastest_84 rfl ?_
      refine n_iload_n C dL_isFastest_85 rfl ?_
      have hct : cdTempo F = 0 := by
        unfold cdTempo
        rw [if_pos (by omega)]
      have ht14 : nxTempo c T 14 0 = T := tu_s ..
      obtain ⟨fo, hfo⟩ := hJ.obj
      refine n_invV C (s_setTempo hst (by unfold rg; omega) hJ hct) ⟨t3_179, t3_182, t1_1, ⟨by decide, by decide⟩, by show _ = some 1; decide +kernel, by decide⟩ t3_180 t3_181 hfo vC5 (by decide) (by omega) (by omega) (Nat.le_of_ble_eq_true rfl) rfl dL_isFastest_86 (fun r σ h' => ?_) (fun _ _ h => h.elim)
      obtain ⟨rfl, hJ⟩ := h'
      rw [nx14_2] at hJ
      rw [ht14]
      obtain ⟨hdis, -, ⟨fm, hmI, hm⟩, ⟨fq, hqI, hq⟩, ⟨fc, hcI, hc⟩, fz, hzI, hz⟩ := id hJ
      refine n_bipush (x := 50) C dL_isFastest_89 (by decide) ?_
      refine n_icmp_lt C 105 dL_isFastest_91 (by decide) (by unfold rg; omega) (by unfold rg; omega) (fun hk => by exfalso; first | omega | exact hk (by omega) | exact (by omega) hk) (fun _ => ?_)
      have hfi := nx14_fine c F
      rw [a3] at hfi
      rw [a3] at hJ
      refine n_aload_n C dL_isFastest_94 rfl ?_
      obtain ⟨fo, hfo⟩ := hJ.obj
      refine n_invV C (s_isFine hst hJ) ⟨t4_104, t4_107, t1_1, ⟨by decide, by decide⟩, by show _ = some 0; decide +kernel, by decide⟩ t4_105 t4_106 hfo vC5 (by decide) (by omega) (by omega) (Nat.le_of_ble_eq_true rfl) rfl dL_isFastest_95 (fun r σ h' => ?_) (fun _ _ h => h.elim)
      obtain ⟨yv, rfl, hyv, hJ⟩ := h'
      have hy1 : yv = 1 := by
        rcases hyv with ⟨q, _⟩ | ⟨_, q⟩
        · exact q
        · exact absurd (hfi.mpr a4) q
      refine n_if_eq C 105 dL_isFastest_98 (by decide) (by unfold rg; omega) (fun hk => by exfalso; first | omega | exact hk (by omega) | exact (by omega) hk) (fun _ => ?_)
      refine n_keep (lv' := [(4, iv tv), (2, iv F), (0, .ref x), (1, .ref ac)]) [4, 2, 0, 1] rfl ?_
      exact J106 _ σ (by omega) hJ
  have LP : ∀ (fu : Nat) (k : Nat) (T : Int) (σ : Wd) (hT : 50 ≤ T ∧ T ≤ 200) (hJ : SJ g x am aq ac az (nxTempo c T) c σ) (hk : k ≤ 16) (hf : 17 ≤ k + fu), N Φ k (6 * k) σ 12 [(4, iv (200 - 10 * (k : Int))), (3, iv 1), (2, iv F), (0, .ref x), (1, .ref ac)] [] := by
    intro fu
    induction fu with
    | zero =>
      intro k T σ hT hJ hk hf
      omega
    | succ fu ih =>
      intro k T σ hT hJ hk hf
      obtain ⟨hdis, -, ⟨fm, hmI, hm⟩, ⟨fq, hqI, hq⟩, ⟨fc, hcI, hc⟩, fz, hzI, hz⟩ := id hJ
      refine n_iload C dL_isFastest_12 rfl ?_
      refine n_iload_n C dL_isFastest_14 rfl ?_
      refine n_icmp_le C 55 dL_isFastest_15 (by decide) (by unfold rg; omega) (by unfold rg; omega) (fun b15 => ?_) (fun b15 => ?_)
      · refine n_keep (lv' := [(4, iv (200 - 10 * (k : Int))), (3, iv 1), (2, iv F), (0, .ref x), (1, .ref ac)]) [4, 3, 2, 0, 1] rfl ?_
        exact n_widen (by omega) (by omega) (J55 T σ hT hJ _)
      · refine n_iload C dL_isFastest_18 rfl ?_
        refine n_bipush (x := 50) C dL_isFastest_20 (by decide) ?_
        refine n_icmp_lt C 55 dL_isFastest_22 (by decide) (by unfold rg; omega) (by unfold rg; omega) (fun b22 => ?_) (fun b22 => ?_)
        · refine n_keep (lv' := [(4, iv (200 - 10 * (k : Int))), (3, iv 1), (2, iv F), (0, .ref x), (1, .ref ac)]) [4, 3, 2, 0, 1] rfl ?_
          exact n_widen (by omega) (by omega) (J55 T σ hT hJ _)
        · refine n_iload_n C dL_isFastest_25 rfl ?_
          refine n_if_eq C 55 dL_isFastest_26 (by decide) (by unfold rg; omega) (fun hk => by exfalso; first | omega | exact hk (by omega) | exact (by omega) hk) (fun _ => ?_)
          refine n_aload_n C dL_isFastest_29 rfl ?_
          refine n_iload C dL_isFastest_30 rfl ?_
          have hct : cdTempo (200 - 10 * (k : Int)) = 0 := by
            unfold cdTempo
            rw [if_pos (by omega)]
          have ht14 : nxTempo c T 14 0 = T := tu_s ..
          obtain ⟨fo, hfo⟩ := hJ.obj
          refine n_invV C (s_setTempo hst (by unfold rg; omega) hJ hct) ⟨t3_179, t3_182, t1_1, ⟨by decide, by decide⟩, by show _ = some 1; decide +kernel, by decide⟩ t3_180 t3_181 hfo vC5 (by decide) (by omega) (by omega) (Nat.le_of_ble_eq_true rfl) rfl dL_isFastest_32 (fun r σ h' => ?_) (fun _ _ h => h.elim)
          obtain ⟨rfl, hJ⟩ := h'
          rw [nx14_2] at hJ
          rw [ht14]
          obtain ⟨hdis, -, ⟨fm, hmI, hm⟩, ⟨fq, hqI, hq⟩, ⟨fc, hcI, hc⟩, fz, hzI, hz⟩ := id hJ
          refine n_pop C dL_isFastest_35 rfl ?_
          refine n_aload_n C dL_isFastest_36 rfl ?_
          have hfi := nx14_fine c (200 - 10 * (k : Int))
          have hno : ¬ FINE c (lenB c (200 - 10 * (k : Int))).toNat := by
            have e0 : (200 - 10 * (k : Int)) = 40 + 10 * ((16 - k : Nat) : Int) := by omega
            rw [e0]
            rcases hfs with ⟨_, q⟩ | ⟨m0, _, _, q1, _, q⟩
            · exact q (16 - k) (by omega) (by omega)
            · exact q (16 - k) (by omega) (by omega)
          obtain ⟨fo, hfo⟩ := hJ.obj
          refine n_invV C (s_isFine hst hJ) ⟨t4_104, t4_107, t1_1, ⟨by decide, by decide⟩, by show _ = some 0; decide +kernel, by decide⟩ t4_105 t4_106 hfo vC5 (by decide) (by omega) (by omega) (Nat.le_of_ble_eq_true rfl) rfl dL_isFastest_37 (fun r σ h' => ?_) (fun _ _ h => h.elim)
          obtain ⟨yv, rfl, hyv, hJ⟩ := h'
          have hy0 : yv = 0 := by
            rcases hyv with ⟨_, q⟩ | ⟨q, _⟩
            · exact absurd (hfi.mp q) hno
            · exact q
          refine n_if_ne C 47 dL_isFastest_40 (by decide) (by unfold rg; omega) (fun hk => by exfalso; first | omega | exact hk (by omega) | exact (by omega) hk) (fun _ => ?_)
          refine n_iconst (x := 1) C dL_isFastest_43 ?_
          refine n_goto C 48 dL_isFastest_44 (by decide) ?_
          refine n_istore_n (lv' := [(3, iv 1), (4, iv (200 - 10 * (k : Int))), (2, iv F), (0, .ref x), (1, .ref ac)]) C dL_isFastest_48 (by rw [hN]; decide) rfl ?_
          refine n_iinc (lv' := [(4, iv ((200 - 10 * (k : Int)) + (-10))), (3, iv 1), (2, iv F), (0, .ref x), (1, .ref ac)]) C dL_isFastest_49 rfl (by rw [hN]; decide) rfl ?_
          refine n_goto C 12 dL_isFastest_52 (by decide) ?_
          refine n_keep (lv' := [(4, iv ((200 - 10 * (k : Int)) + (-10))), (3, iv 1), (2, iv F), (0, .ref x), (1, .ref ac)]) [4, 3, 2, 0, 1] rfl ?_
          have e9 : 200 - 10 * (k : Int) + (-10) = 200 - 10 * ((k + 1 : Nat) : Int) := by omega
          rw [e9]
          exact ih (k + 1) _ σ (by omega) hJ (by omega) (by omega)
  refine n_keep (lv' := [(4, iv 200), (3, iv 1), (2, iv F), (0, .ref x), (1, .ref ac)]) [4, 3, 2, 0, 1] rfl ?_
  have := LP 17 0 (c 14 0) σ w14 hJ0 (by omega) (by omega)
  exact this
