set_option maxRecDepth 100000 in
set_option maxHeartbeats 4000000 in
theorem l_step {g : Gx} (hst : g.1.stackTraces = false) {x am aq ac az : Nat} {c : Tb} {σ : Wd} (hJ : SJ g x am aq ac az c c σ) {wh u v : Int} (hwh : 0 ≤ wh ∧ wh < 12) (hu : 0 ≤ u ∧ u < 1073741824) (hv : 0 ≤ v ∧ v < 1073741824)  : CT g yL_step cL_step 12 (some .boolean) 9 5 146 [.ref x, iv wh, iv u, iv v, .ref am, .ref aq, .ref ac, .ref az] σ (STP g x am aq ac az) (fun _ _ => False) := by
  refine CT.of hst (by decide +kernel) (Nat.le_of_ble_eq_true rfl) (fun Φ C Rr hY hN => ?_)
  show N Φ 0 0 σ 0 [(0, .ref x), (1, iv wh), (2, iv u), (3, iv v), (4, .ref am), (5, .ref aq), (6, .ref ac), (7, .ref az)] []
  obtain ⟨hdis, -, ⟨fm, hmI, hm⟩, ⟨fq, hqI, hq⟩, ⟨fc, hcI, hc⟩, fz, hzI, hz⟩ := id hJ
  have hw := hJ.wf
  obtain ⟨w0, w6, w12, w13, w14, w15, w16, wm, wq, ww⟩ := id hw
  have hLr := lenB_rg hw (T := c 14 0) w14.1
  obtain ⟨L, hL⟩ : ∃ L : Nat, lenB c (c 14 0) = L := ⟨(lenB c (c 14 0)).toNat, by omega⟩
  rw [hL] at hLr
  have hLL : LL c = L := by unfold LL; omega
  obtain ⟨n12, h12⟩ : ∃ n : Nat, c 12 0 = n := ⟨(c 12 0).toNat, by omega⟩
  obtain ⟨n0, hn0⟩ : ∃ n : Nat, c 0 0 = n := ⟨(c 0 0).toNat, by omega⟩
  obtain ⟨n6, hn6⟩ : ∃ n : Nat, c 6 0 = n := ⟨(c 6 0).toNat, by omega⟩
  obtain ⟨NN, hNd⟩ : ∃ NN : Nat, n12 * L = NN := ⟨_, rfl⟩
  have hNN : NN ≤ 2400 := by
    rw [← hNd]
    exact Nat.mul_le_mul (show n12 ≤ 30 by omega) (show L ≤ 80 by omega)
  have hNL : c 12 0 * lenB c (c 14 0) = (NN : Int) := by rw [h12, hL, ← Int.natCast_mul, hNd]
  have hNT : NT c L = NN := by
    unfold NT
    rw [show (c 12 0).toNat = n12 by omega]
    exact hNd
  refine n_iload_n C dL_step_0 rfl ?_
  refine n_if_eq C 11 dL_step_1 (by decide) (by unfold rg; omega) (fun b1 => ?_) (fun b1 => ?_)
  · refine n_keep (lv' := [(0, .ref x), (1, iv wh), (2, iv u), (3, iv v), (4, .ref am), (5, .ref aq), (6, .ref ac), (7, .ref az)]) [0, 1, 2, 3, 4, 5, 6, 7] rfl ?_
    exact st_mac hst C Rr hN hJ hwh hu hv
  · refine n_aload C dL_step_4 rfl ?_
    refine n_iconst (x := 0) C dL_step_6 ?_
    refine n_ialdv C (c 0 0) hc (by omega) (by omega) (by omega) hcI.1 dL_step_7 ?_
    refine n_if_ne C 220 dL_step_8 (by decide) (by unfold rg; omega) (fun b8 => ?_) (fun b8 => ?_)
    · have h00 : 1 ≤ c 0 0 := by omega
      refine n_iload_n C dL_step_220 rfl ?_
      refine n_bipush (x := 6) C dL_step_221 (by decide) ?_
      refine n_icmp_ge C 355 dL_step_223 (by decide) (by unfold rg; omega) (by unfold rg; omega) (fun b223 => ?_) (fun b223 => ?_)
      · refine n_iload_n C dL_step_355 rfl ?_
        refine n_bipush (x := 6) C dL_step_356 (by decide) ?_
        refine n_icmp_ne C 456 dL_step_358 (by decide) (by unfold rg; omega) (by unfold rg; omega) (fun b358 => ?_) (fun b358 => ?_)
        · refine n_iload_n C dL_step_456 rfl ?_
          refine n_bipush (x := 7) C dL_step_457 (by decide) ?_
          refine n_icmp_ne C 609 dL_step_459 (by decide) (by unfold rg; omega) (by unfold rg; omega) (fun b459 => ?_) (fun b459 => ?_)
          · refine n_iload_n C dL_step_609 rfl ?_
            refine n_bipush (x := 8) C dL_step_610 (by decide) ?_
            refine n_icmp_ne C 652 dL_step_612 (by decide) (by unfold rg; omega) (by unfold rg; omega) (fun b612 => ?_) (fun b612 => ?_)
            · refine n_iload_n C dL_step_652 rfl ?_
              refine n_bipush (x := 9) C dL_step_653 (by decide) ?_
              refine n_icmp_ne C 691 dL_step_655 (by decide) (by unfold rg; omega) (by unfold rg; omega) (fun b655 => ?_) (fun b655 => ?_)
              · refine n_iload_n C dL_step_691 rfl ?_
                refine n_bipush (x := 10) C dL_step_692 (by decide) ?_
                refine n_icmp_ne C 788 dL_step_694 (by decide) (by unfold rg; omega) (by unfold rg; omega) (fun b694 => ?_) (fun b694 => ?_)
                · exact st_sub hst C Rr hN hJ hwh hu hv h00
                · exact st_strike hst C Rr hN hJ hwh hu hv h00
              · exact st_rules hst C Rr hN hJ hwh hu hv h00
            · exact st_tempo hst C Rr hN hJ hwh hu hv h00
          · exact st_score hst C Rr hN hJ hwh hu hv h00
        · exact st_out hst C Rr hN hJ hwh hu hv h00
      · exact st_cue hst C Rr hN hJ hwh hu hv h00
    · refine n_keep (lv' := [(0, .ref x), (1, iv wh), (2, iv u), (3, iv v), (4, .ref am), (5, .ref aq), (6, .ref ac), (7, .ref az)]) [0, 1, 2, 3, 4, 5, 6, 7] rfl ?_
      exact st_mac hst C Rr hN hJ hwh hu hv
