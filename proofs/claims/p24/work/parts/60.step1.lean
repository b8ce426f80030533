set_option maxRecDepth 100000 in
set_option maxHeartbeats 4000000 in
theorem st_mac {g : Gx} {Φ : Fx} (hst : g.1.stackTraces = false) (C : Ok g Φ cL_step "OperaMachinesLaw" (some .boolean) 9 5 146) {x am aq ac az : Nat} {c : Tb} {σ0 σ : Wd} (Rr : Rt Φ σ0 (STP g x am aq ac az) (fun _ _ => False) 5 146) (hN : fN Φ = 12) (hJ : SJ g x am aq ac az c c σ) {wh u v : Int} (hwh : 0 ≤ wh ∧ wh < 12) (hu : 0 ≤ u ∧ u < 1073741824) (hv : 0 ≤ v ∧ v < 1073741824) : N Φ 0 0 σ 11 [(0, .ref x), (1, iv wh), (2, iv u), (3, iv v), (4, .ref am), (5, .ref aq), (6, .ref ac), (7, .ref az)] [] := by
  obtain ⟨hdis, -, ⟨fm, hmI, hm⟩, ⟨fq, hqI, hq⟩, ⟨fc, hcI, hc⟩, fz, hzI, hz⟩ := id hJ
  have hw := hJ.wf
  obtain ⟨w0, w6, w12, w13, w14, w15, w16, wm, wq, ww⟩ := id hw
  have hLr := lenB_rg hw (T := c 14 0) w14.1
  obtain ⟨L, hL⟩ : ∃ L : Nat, lenB c (c 14 0) = L := ⟨(lenB c (c 14 0)).toNat, by omega⟩
  rw [hL] at hLr
  have hLL : LL c = L := by unfold LL; omega
  obtain ⟨n12, h12⟩ : ∃ n : Nat, c 12 0 = n := ⟨(c 12 0).toNat, by omega⟩
  obtain ⟨n0, hn0⟩ : ∃ n : Nat, c 0 0 = n := ⟨(c 0 0).toNat, by omega⟩
  obtain ⟨n6, hn6⟩ : ∃ n : Nat, c 6 0 = n := ⟨(c 6 0).toNat, by omega⟩
  obtain ⟨NN, hNd⟩ : ∃ NN : Nat, n12 * L = NN := ⟨_, rfl⟩
  have hNN : NN ≤ 2400 := by
    rw [← hNd]
    exact Nat.mul_le_mul (show n12 ≤ 30 by omega) (show L ≤ 80 by omega)
  have hNL : c 12 0 * lenB c (c 14 0) = (NN : Int) := by rw [h12, hL, ← Int.natCast_mul, hNd]
  have hNT : NT c L = NN := by
    unfold NT
    rw [show (c 12 0).toNat = n12 by omega]
    exact hNd
  obtain ⟨d1, d2, d3, d4, d5, d6⟩ := id hdis
  have hO : OBp g x am aq ac az c σ := hJ.2.1
  refine n_aload C dL_step_11 rfl ?_
  refine n_iconst (x := 0) C dL_step_13 ?_
  refine n_ialdv C (c 0 0) hc (by omega) (by omega) (by omega) hcI.1 dL_step_14 ?_
  refine n_bipush (x := 6) C dL_step_15 (by decide) ?_
  refine n_icmp_ne C 22 dL_step_17 (by decide) (by unfold rg; omega) (by unfold rg; omega) (fun b17 => ?_) (fun b17 => ?_)
  · refine n_iconst (x := 4) C dL_step_22 ?_
    refine n_aload C dL_step_23 rfl ?_
    refine n_iconst (x := 0) C dL_step_25 ?_
    refine n_ialdv C (c 0 0) hc (by omega) (by omega) (by omega) hcI.1 dL_step_26 ?_
    refine n_imul C dL_step_27 ?_
    rw [hn0]
    have hw1 := (wm n0).2.1 (by omega)
    refine n_istore (lv' := [(8, iv (4 * (n0 : Int))), (0, .ref x), (1, iv wh), (2, iv u), (3, iv v), (4, .ref am), (5, .ref aq), (6, .ref ac), (7, .ref az)]) C dL_step_28 (by rw [hN]; decide) rfl ?_
    refine n_aload C dL_step_30 rfl ?_
    refine n_iload C dL_step_32 rfl ?_
    refine n_iload_n C dL_step_34 rfl ?_
    refine n_iconst (x := 4) C dL_step_35 ?_
    refine n_iremP C dL_step_36 (by unfold rg; omega) (by unfold rg; omega) (by omega) (by omega) ?_
    refine n_iconst (x := 3) C dL_step_37 ?_
    have J57 : ∀ v0 : Int, (v0 = 3 ∨ v0 = 1 ∨ v0 = 0) → N Φ 0 0 σ 57 [(8, iv (4 * (n0 : Int))), (0, .ref x), (1, iv wh), (2, iv u), (3, iv v), (4, .ref am), (5, .ref aq), (6, .ref ac), (7, .ref az)] [iv v0, iv (4 * (n0 : Int)), .ref am] := by
      intro v0 hv0
      refine n_iast C hm (by omega) (by omega) (by omega) dL_step_57 ?_
      refine wab (fun σ H O => ?_)
      rw [show ((4 * (n0 : Int)) : Int).toNat = (4 * n0) by omega] at H
      obtain ⟨fm1, hf1⟩ : ∃ f : Nat → Int, upI fm (4 * n0) v0 = f := ⟨_, rfl⟩
      rw [hf1] at H
      have hs1 : fm1 (4 * n0) = v0 := by rw [← hf1]; exact upI_s ..
      have hn1 : ∀ j : Nat, j ≠ (4 * n0) → fm1 j = fm j := fun j hj => by rw [← hf1]; exact upI_n hj
      clear hf1
      replace hO := hO.wr (Or.inl rfl) O
      replace hq := (O aq d1.symm).trans hq
      replace hc := (O ac d2.symm).trans hc
      replace hz := (O az d3.symm).trans hz
      replace hm := H
      clear H O
      refine n_aload C dL_step_58 rfl ?_
      refine n_iload C dL_step_60 rfl ?_
      refine n_iconst (x := 1) C dL_step_62 ?_
      refine n_iadd C dL_step_63 ?_
      refine n_aload C dL_step_64 rfl ?_
      refine n_iload C dL_step_66 rfl ?_
      refine n_ialdv C v0 hm (by omega) (by omega) (by omega) (by rw [show ((4 * (n0 : Int)) : Int).toNat = (4 * n0) by omega]; exact hs1) dL_step_68 ?_
      refine n_iconst (x := 3) C dL_step_69 ?_
      have J104 : ∀ v1 : Int, ((v0 = 3 ∧ 0 ≤ v1 ∧ v1 ≤ 359) ∨ (v0 ≠ 3 ∧ 0 ≤ v1 ∧ v1 ≤ 200)) → N Φ 0 0 σ 104 [(8, iv (4 * (n0 : Int))), (0, .ref x), (1, iv wh), (2, iv u), (3, iv v), (4, .ref am), (5, .ref aq), (6, .ref ac), (7, .ref az)] [iv v1, iv ((4 * (n0 : Int)) + 1), .ref am] := by
        intro v1 hv1
        refine n_iast C hm (by omega) (by omega) (by omega) dL_step_104 ?_
        refine wab (fun σ H O => ?_)
        rw [show (((4 * (n0 : Int)) + 1) : Int).toNat = (4 * n0 + 1) by omega] at H
        obtain ⟨fm2, hf2⟩ : ∃ f : Nat → Int, upI fm1 (4 * n0 + 1) v1 = f := ⟨_, rfl⟩
        rw [hf2] at H
        have hs2 : fm2 (4 * n0 + 1) = v1 := by rw [← hf2]; exact upI_s ..
        have hn2 : ∀ j : Nat, j ≠ (4 * n0 + 1) → fm2 j = fm1 j := fun j hj => by rw [← hf2]; exact upI_n hj
        clear hf2
        replace hO := hO.wr (Or.inl rfl) O
        replace hq := (O aq d1.symm).trans hq
        replace hc := (O ac d2.symm).trans hc
        replace hz := (O az d3.symm).trans hz
        replace hm := H
        clear H O
        refine n_aload C dL_step_105 rfl ?_
        refine n_iload C dL_step_107 rfl ?_
        refine n_iconst (x := 2) C dL_step_109 ?_
        refine n_iadd C dL_step_110 ?_
        refine n_iconst (x := 1) C dL_step_111 ?_
        refine n_iload_n C dL_step_112 rfl ?_
        refine n_iconst (x := 4) C dL_step_113 ?_
        refine n_idivP C dL_step_114 (by unfold rg; omega) (by unfold rg; omega) (by omega) (by omega) ?_
        refine n_bipush (x := 20) C dL_step_115 (by decide) ?_
        refine n_iremP C dL_step_117 (by unfold rg; omega) (by unfold rg; omega) (by omega) (by omega) ?_
        refine n_iadd C dL_step_118 ?_
        refine n_iast C hm (by omega) (by omega) (by omega) dL_step_119 ?_
        refine wab (fun σ H O => ?_)
        rw [show (((4 * (n0 : Int)) + 2) : Int).toNat = (4 * n0 + 2) by omega] at H
        obtain ⟨fm3, hf3⟩ : ∃ f : Nat → Int, upI fm2 (4 * n0 + 2) (1 + ((u / 4) % 20)) = f := ⟨_, rfl⟩
        rw [hf3] at H
        have hs3 : fm3 (4 * n0 + 2) = (1 + ((u / 4) % 20)) := by rw [← hf3]; exact upI_s ..
        have hn3 : ∀ j : Nat, j ≠ (4 * n0 + 2) → fm3 j = fm2 j := fun j hj => by rw [← hf3]; exact upI_n hj
        clear hf3
        replace hO := hO.wr (Or.inl rfl) O
        replace hq := (O aq d1.symm).trans hq
        replace hc := (O ac d2.symm).trans hc
        replace hz := (O az d3.symm).trans hz
        replace hm := H
        clear H O
        refine n_aload C dL_step_120 rfl ?_
        refine n_iload C dL_step_122 rfl ?_
        refine n_iconst (x := 3) C dL_step_124 ?_
        refine n_iadd C dL_step_125 ?_
        refine n_iconst (x := 1) C dL_step_126 ?_
        refine n_iload_n C dL_step_127 rfl ?_
        refine n_sipush (x := 360) C dL_step_128 (by decide) ?_
        refine n_idivP C dL_step_131 (by unfold rg; omega) (by unfold rg; omega) (by omega) (by omega) ?_
        refine n_bipush (x := 10) C dL_step_132 (by decide) ?_
        refine n_iremP C dL_step_134 (by unfold rg; omega) (by unfold rg; omega) (by omega) (by omega) ?_
        refine n_iadd C dL_step_135 ?_
        refine n_iast C hm (by omega) (by omega) (by omega) dL_step_136 ?_
        refine wab (fun σ H O => ?_)
        rw [show (((4 * (n0 : Int)) + 3) : Int).toNat = (4 * n0 + 3) by omega] at H
        obtain ⟨fm4, hf4⟩ : ∃ f : Nat → Int, upI fm3 (4 * n0 + 3) (1 + ((v / 360) % 10)) = f := ⟨_, rfl⟩
        rw [hf4] at H
        have hs4 : fm4 (4 * n0 + 3) = (1 + ((v / 360) % 10)) := by rw [← hf4]; exact upI_s ..
        have hn4 : ∀ j : Nat, j ≠ (4 * n0 + 3) → fm4 j = fm3 j := fun j hj => by rw [← hf4]; exact upI_n hj
        clear hf4
        replace hO := hO.wr (Or.inl rfl) O
        replace hq := (O aq d1.symm).trans hq
        replace hc := (O ac d2.symm).trans hc
        replace hz := (O az d3.symm).trans hz
        replace hm := H
        clear H O
        have hx4 := Int.emod_nonneg (u / 4) (show (20 : Int) ≠ 0 by decide)
        have hy4 := Int.emod_nonneg (v / 360) (show (10 : Int) ≠ 0 by decide)
        refine n_aload C dL_step_137 rfl ?_
        refine n_iconst (x := 0) C dL_step_139 ?_
        refine n_dup2 C dL_step_140 rfl rfl ?_
        refine n_ialdv C (c 0 0) hc (by omega) (by omega) (by omega) hcI.1 dL_step_141 ?_
        refine n_iconst (x := 1) C dL_step_142 ?_
        refine n_iadd C dL_step_143 ?_
        refine n_iast C hc (by omega) (by omega) (by omega) dL_step_144 ?_
        refine wab (fun σ H O => ?_)
        rw [show Int.toNat 0 = 0 from rfl] at H
        obtain ⟨fc5, hf5⟩ : ∃ f : Nat → Int, upI fc 0 ((c 0 0) + 1) = f := ⟨_, rfl⟩
        rw [hf5] at H
        have hs5 : fc5 0 = ((c 0 0) + 1) := by rw [← hf5]; exact upI_s ..
        have hn5 : ∀ j : Nat, j ≠ 0 → fc5 j = fc j := fun j hj => by rw [← hf5]; exact upI_n hj
        clear hf5
        replace hO := hO.wr (Or.inr (Or.inr (Or.inl rfl))) O
        replace hm := (O am d2).trans hm
        replace hq := (O aq d4).trans hq
        replace hz := (O az d6.symm).trans hz
        replace hc := H
        clear H O
        have r0 : fm4 (4 * n0) = v0 := ((hn4 (4 * n0) (by omega)).trans ((hn3 (4 * n0) (by omega)).trans ((hn2 (4 * n0) (by omega)).trans hs1)))
        have r1 : fm4 (4 * n0 + 1) = v1 := ((hn4 (4 * n0 + 1) (by omega)).trans ((hn3 (4 * n0 + 1) (by omega)).trans hs2))
        have r2 : fm4 (4 * n0 + 2) = (1 + ((u / 4) % 20)) := ((hn4 (4 * n0 + 2) (by omega)).trans hs3)
        have r3 : fm4 (4 * n0 + 3) = (1 + ((v / 360) % 10)) := hs4
        have r4 : ∀ j : Nat, j < 4 * n0 → fm4 j = fm j := fun j hj => by rw [hn4 j (by omega), hn3 j (by omega), hn2 j (by omega), hn1 j (by omega)]
        obtain ⟨v2, hv2⟩ : ∃ v2 : Int, (1 + ((u / 4) % 20)) = v2 := ⟨_, rfl⟩
        obtain ⟨v3, hv3⟩ : ∃ v3 : Int, (1 + ((v / 360) % 10)) = v3 := ⟨_, rfl⟩
        have hv2r : 1 ≤ v2 ∧ v2 ≤ 20 := by omega
        have hv3r : 1 ≤ v3 ∧ v3 ≤ 10 := by omega
        rw [hv2] at r2
        rw [hv3] at r3
        refine n_aload C dL_step_145 rfl ?_
        refine n_iload C dL_step_147 rfl ?_
        refine n_ialdv C v0 hm (by omega) (by omega) (by omega) (by rw [show ((4 * (n0 : Int)) : Int).toNat = (4 * n0) by omega]; exact r0) dL_step_149 ?_
        refine n_iconst (x := 3) C dL_step_150 ?_
        refine n_icmp_ne C 175 dL_step_151 (by decide) (by unfold rg; omega) (by unfold rg; omega) (fun b151 => ?_) (fun b151 => ?_)
        · have hJ2 : SJ g x am aq ac az c (nxWagon c v0 v1 v2 v3) σ := ⟨hdis, hO, ⟨fm4, (mI_wagon hw hn0 hmI r0 r1 r2 r3 r4), hm⟩, ⟨fq, (qI_eq hqI rfl rfl rfl rfl rfl rfl), hq⟩, ⟨fc5, (⟨hs5.trans (show c 0 0 + 1 = (nxWagon c v0 v1 v2 v3) 0 0 from (tu_s ..).symm), ((hn5 1 (by omega)).trans hcI.2.1).trans rfl, ((hn5 2 (by omega)).trans hcI.2.2.1).trans rfl, ((hn5 3 (by omega)).trans hcI.2.2.2.1).trans rfl, ((hn5 4 (by omega)).trans hcI.2.2.2.2.1).trans rfl, ((hn5 5 (by omega)).trans hcI.2.2.2.2.2.1).trans rfl, ((hn5 6 (by omega)).trans hcI.2.2.2.2.2.2.1).trans rfl, ((hn5 7 (by omega)).trans hcI.2.2.2.2.2.2.2).trans (stB_eq rfl).symm⟩), hc⟩, fz, (zI_eq hzI rfl), hz⟩
          have hcd : cdWagon c v0 v1 v2 v3 = 0 := by
            unfold cdWagon
            rw [if_pos (by omega), if_neg (by omega)]
          refine n_aload_n C dL_step_175 rfl ?_
          refine n_aload C dL_step_176 rfl ?_
          refine n_iload C dL_step_178 rfl ?_
          refine n_ialdv C v0 hm (by omega) (by omega) (by omega) (by rw [show ((4 * (n0 : Int)) : Int).toNat = (4 * n0) by omega]; exact r0) dL_step_180 ?_
          refine n_aload C dL_step_181 rfl ?_
          refine n_iload C dL_step_183 rfl ?_
          refine n_iconst (x := 1) C dL_step_185 ?_
          refine n_iadd C dL_step_186 ?_
          refine n_ialdv C v1 hm (by omega) (by omega) (by omega) (by rw [show (((4 * (n0 : Int)) + 1) : Int).toNat = (4 * n0 + 1) by omega]; exact r1) dL_step_187 ?_
          refine n_aload C dL_step_188 rfl ?_
          refine n_iload C dL_step_190 rfl ?_
          refine n_iconst (x := 2) C dL_step_192 ?_
          refine n_iadd C dL_step_193 ?_
          refine n_ialdv C v2 hm (by omega) (by omega) (by omega) (by rw [show (((4 * (n0 : Int)) + 2) : Int).toNat = (4 * n0 + 2) by omega]; exact r2) dL_step_194 ?_
          refine n_aload C dL_step_195 rfl ?_
          refine n_iload C dL_step_197 rfl ?_
          refine n_iconst (x := 3) C dL_step_199 ?_
          refine n_iadd C dL_step_200 ?_
          refine n_ialdv C v3 hm (by omega) (by omega) (by omega) (by rw [show (((4 * (n0 : Int)) + 3) : Int).toNat = (4 * n0 + 3) by omega]; exact r3) dL_step_201 ?_
          obtain ⟨fo, hfo⟩ := hJ2.obj
          refine n_invV C (s_wagon hst (by unfold rg; omega) (by unfold rg; omega) (by unfold rg; omega) (by unfold rg; omega) hJ2 hcd) ⟨t2_59, t2_62, t1_1, ⟨by decide, by decide⟩, by show _ = some 4; decide +kernel, by decide⟩ t2_60 t2_61 hfo vC5 (by decide) (by omega) (by omega) (Nat.le_of_ble_eq_true rfl) rfl dL_step_202 (fun r σ h' => ?_) (fun _ _ h => h.elim)
          obtain ⟨rfl, hJ⟩ := h'
          obtain ⟨-, -, -, -, ⟨fc9, hc9, hc⟩, -⟩ := id hJ
          refine n_aload C dL_step_205 rfl ?_
          refine n_iconst (x := 0) C dL_step_207 ?_
          refine n_ialdv C (c 0 0 + 1) hc (by omega) (by omega) (by omega) (hc9.1.trans (show (nxWagon c v0 v1 v2 v3) 0 0 = c 0 0 + 1 from tu_s ..)) dL_step_208 ?_
          refine n_iconst (x := 1) C dL_step_209 ?_
          refine n_isub C dL_step_210 ?_
          refine n_icmp_ne C 218 dL_step_211 (by decide) (by unfold rg; omega) (by unfold rg; omega) (fun hk => by exfalso; first | omega | exact hk (by omega) | exact (by omega) hk) (fun _ => ?_)
          have hge : 1 ≤ (nxWagon c v0 v1 v2 v3) 0 0 := by
            have : (nxWagon c v0 v1 v2 v3) 0 0 = c 0 0 + 1 := tu_s ..
            omega
          refine n_iconst (x := 1) C dL_step_214 ?_
          refine n_goto C 219 dL_step_215 (by decide) ?_
          exact n_ireturn C Rr (nar_bv (by first | decide | omega)) ⟨rfl, (nxWagon c v0 v1 v2 v3), hJ, hge⟩ (by omega) (by omega) dL_step_219
        · have hJ2 : SJ g x am aq ac az c (nxTable c v1 v3) σ := ⟨hdis, hO, ⟨fm4, (mI_table hn0 hmI (r0.trans (by omega)) r1 r3 r4), hm⟩, ⟨fq, (qI_eq hqI rfl rfl rfl rfl rfl rfl), hq⟩, ⟨fc5, (⟨hs5.trans (show c 0 0 + 1 = (nxTable c v1 v3) 0 0 from (tu_s ..).symm), ((hn5 1 (by omega)).trans hcI.2.1).trans rfl, ((hn5 2 (by omega)).trans hcI.2.2.1).trans rfl, ((hn5 3 (by omega)).trans hcI.2.2.2.1).trans rfl, ((hn5 4 (by omega)).trans hcI.2.2.2.2.1).trans rfl, ((hn5 5 (by omega)).trans hcI.2.2.2.2.2.1).trans rfl, ((hn5 6 (by omega)).trans hcI.2.2.2.2.2.2.1).trans rfl, ((hn5 7 (by omega)).trans hcI.2.2.2.2.2.2.2).trans (stB_eq rfl).symm⟩), hc⟩, fz, (zI_eq hzI rfl), hz⟩
          have hcd : cdTable c v1 v3 = 0 := by
            unfold cdTable
            rw [if_pos (by omega), if_neg (by omega)]
          refine n_aload_n C dL_step_154 rfl ?_
          refine n_aload C dL_step_155 rfl ?_
          refine n_iload C dL_step_157 rfl ?_
          refine n_iconst (x := 1) C dL_step_159 ?_
          refine n_iadd C dL_step_160 ?_
          refine n_ialdv C v1 hm (by omega) (by omega) (by omega) (by rw [show (((4 * (n0 : Int)) + 1) : Int).toNat = (4 * n0 + 1) by omega]; exact r1) dL_step_161 ?_
          refine n_aload C dL_step_162 rfl ?_
          refine n_iload C dL_step_164 rfl ?_
          refine n_iconst (x := 3) C dL_step_166 ?_
          refine n_iadd C dL_step_167 ?_
          refine n_ialdv C v3 hm (by omega) (by omega) (by omega) (by rw [show (((4 * (n0 : Int)) + 3) : Int).toNat = (4 * n0 + 3) by omega]; exact r3) dL_step_168 ?_
          obtain ⟨fo, hfo⟩ := hJ2.obj
          refine n_invV C (s_turntable hst (by unfold rg; omega) (by unfold rg; omega) hJ2 hcd) ⟨t1_106, t1_109, t1_1, ⟨by decide, by decide⟩, by show _ = some 2; decide +kernel, by decide⟩ t1_107 t1_108 hfo vC5 (by decide) (by omega) (by omega) (Nat.le_of_ble_eq_true rfl) rfl dL_step_169 (fun r σ h' => ?_) (fun _ _ h => h.elim)
          obtain ⟨rfl, hJ⟩ := h'
          obtain ⟨-, -, -, -, ⟨fc9, hc9, hc⟩, -⟩ := id hJ
          refine n_goto C 205 dL_step_172 (by decide) ?_
          refine n_aload C dL_step_205 rfl ?_
          refine n_iconst (x := 0) C dL_step_207 ?_
          refine n_ialdv C (c 0 0 + 1) hc (by omega) (by omega) (by omega) (hc9.1.trans (show (nxTable c v1 v3) 0 0 = c 0 0 + 1 from tu_s ..)) dL_step_208 ?_
          refine n_iconst (x := 1) C dL_step_209 ?_
          refine n_isub C dL_step_210 ?_
          refine n_icmp_ne C 218 dL_step_211 (by decide) (by unfold rg; omega) (by unfold rg; omega) (fun hk => by exfalso; first | omega | exact hk (by omega) | exact (by omega) hk) (fun _ => ?_)
          have hge : 1 ≤ (nxTable c v1 v3) 0 0 := by
            have : (nxTable c v1 v3) 0 0 = c 0 0 + 1 := tu_s ..
            omega
          refine n_iconst (x := 1) C dL_step_214 ?_
          refine n_goto C 219 dL_step_215 (by decide) ?_
          exact n_ireturn C Rr (nar_bv (by first | decide | omega)) ⟨rfl, (nxTable c v1 v3), hJ, hge⟩ (by omega) (by omega) dL_step_219
      refine n_icmp_ne C 81 dL_step_70 (by decide) (by unfold rg; omega) (by unfold rg; omega) (fun b70 => ?_) (fun b70 => ?_)
      · refine n_iload_n C dL_step_81 rfl ?_
        refine n_iconst (x := 3) C dL_step_82 ?_
        refine n_iremP C dL_step_83 (by unfold rg; omega) (by unfold rg; omega) (by omega) (by omega) ?_
        refine n_if_ne C 97 dL_step_84 (by decide) (by unfold rg; omega) (fun b84 => ?_) (fun b84 => ?_)
        · refine n_bipush (x := 40) C dL_step_97 (by decide) ?_
          refine n_aload C dL_step_99 rfl ?_
          refine n_iconst (x := 0) C dL_step_101 ?_
          refine n_ialdv C (c 0 0) hc (by omega) (by omega) (by omega) hcI.1 dL_step_102 ?_
          refine n_imul C dL_step_103 ?_
          exact J104 _ (by omega)
        · refine n_iload_n C dL_step_87 rfl ?_
          refine n_iconst (x := 3) C dL_step_88 ?_
          refine n_idivP C dL_step_89 (by unfold rg; omega) (by unfold rg; omega) (by omega) (by omega) ?_
          refine n_sipush (x := 201) C dL_step_90 (by decide) ?_
          refine n_iremP C dL_step_93 (by unfold rg; omega) (by unfold rg; omega) (by omega) (by omega) ?_
          refine n_goto C 104 dL_step_94 (by decide) ?_
          exact J104 _ (by omega)
      · refine n_iload_n C dL_step_73 rfl ?_
        refine n_sipush (x := 360) C dL_step_74 (by decide) ?_
        refine n_iremP C dL_step_77 (by unfold rg; omega) (by unfold rg; omega) (by omega) (by omega) ?_
        refine n_goto C 104 dL_step_78 (by decide) ?_
        exact J104 _ (by omega)
    refine n_icmp_ne C 45 dL_step_38 (by decide) (by unfold rg; omega) (by unfold rg; omega) (fun b38 => ?_) (fun b38 => ?_)
    · refine n_iload_n C dL_step_45 rfl ?_
      refine n_iconst (x := 4) C dL_step_46 ?_
      refine n_iremP C dL_step_47 (by unfold rg; omega) (by unfold rg; omega) (by omega) (by omega) ?_
      refine n_iconst (x := 2) C dL_step_48 ?_
      refine n_icmp_ne C 56 dL_step_49 (by decide) (by unfold rg; omega) (by unfold rg; omega) (fun b49 => ?_) (fun b49 => ?_)
      · refine n_iconst (x := 0) C dL_step_56 ?_
        exact J57 _ (by omega)
      · refine n_iconst (x := 1) C dL_step_52 ?_
        refine n_goto C 57 dL_step_53 (by decide) ?_
        exact J57 _ (by omega)
    · refine n_iconst (x := 3) C dL_step_41 ?_
      refine n_goto C 57 dL_step_42 (by decide) ?_
      exact J57 _ (by omega)
  · refine n_iconst (x := 1) C dL_step_20 ?_
    exact n_ireturn C Rr (nar_bv (by first | decide | omega)) ⟨rfl, c, hJ, (show 1 ≤ _ from by first | omega | (show 1 ≤ c 0 0; omega))⟩ (by omega) (by omega) dL_step_21
