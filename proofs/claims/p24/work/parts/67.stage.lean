set_option maxRecDepth 100000 in
set_option maxHeartbeats 4000000 in
theorem l_stage {g : Gx} (hst : g.1.stackTraces = false) {at0 : Int} (hat : 0 ≤ at0 ∧ at0 ≤ 200) (hSL : scL g.2.2 ≤ 260) {σ : Wd}  : CT g yL_stage cL_stage 13 (some .boolean) 10 81100 490000 [.ref (scB g.2.2), iv at0] σ (fun r _ => r = some (iv 1)) (fun _ _ => False) := by
  refine CT.of hst (by decide +kernel) (Nat.le_of_ble_eq_true rfl) (fun Φ C Rr hY hN => ?_)
  show N Φ 0 0 σ 0 [(0, .ref (scB g.2.2)), (1, iv at0)] []
  refine n_new C [.null, .null, .null, .null, .null, iv 0, iv 0, iv 0, iv 0, iv 0] vC5 vI5 tyX2 tyX2_ok t1_29 t1_30 t1_1 hfsO (by omega) (by omega) dL_stage_0 (fun x hx0 => ?_)
  refine n_dup C dL_stage_3 rfl ?_
  refine n_invI C (c_omInit hst rfl (wup_s ..)) ⟨t1_31, t1_33, t1_1, ⟨by decide, by decide⟩, by show _ = some 0; decide +kernel, by decide⟩ t1_32 (by decide) (by decide) (by omega) (by omega) (Nat.le_of_ble_eq_true rfl) rfl dL_stage_4 (fun r σ h' => ?_) (fun _ _ h => h.elim)
  obtain ⟨rfl, A, hxA, hCW, hCI, -, -⟩ := h'
  have hP : PJ g x (c0T 6) [] σ := ⟨A, _, hxA, ⟨hCW, fun _ _ => rfl, fun j hj => absurd hj (by show ¬ ((j : Int) < 0); omega)⟩, hCI, c0_WF, fun a ha => absurd ha List.not_mem_nil⟩
  refine n_astore_n (lv' := [(2, .ref x), (0, .ref (scB g.2.2)), (1, iv at0)]) C dL_stage_7 (by rw [hN]; decide) rfl ?_
  refine n_bipush (x := 24) C dL_stage_8 (by decide) ?_
  refine n_newI C (M := 24) (by omega) t1_95 (by omega) (by omega) dL_stage_10 (fun am ham0 => ?_)
  refine wab (e := eI g.2.1 24 (fun _ => 0)) (fun σ ham O => ?_)
  replace hP := hP.new ham0 O
  clear O
  refine n_astore_n (lv' := [(3, .ref am), (2, .ref x), (0, .ref (scB g.2.2)), (1, iv at0)]) C dL_stage_12 (by rw [hN]; decide) rfl ?_
  refine n_bipush (x := 24) C dL_stage_13 (by decide) ?_
  refine n_newI C (M := 24) (by omega) t1_95 (by omega) (by omega) dL_stage_15 (fun aq haq0 => ?_)
  refine wab (e := eI g.2.1 24 (fun _ => 0)) (fun σ haq O => ?_)
  replace hP := hP.new haq0 O
  have n_am_aq : am ≠ aq := fun z => by rw [z, haq0] at ham; cases ham
  replace ham := (O am n_am_aq).trans ham
  clear O
  refine n_astore (lv' := [(4, .ref aq), (3, .ref am), (2, .ref x), (0, .ref (scB g.2.2)), (1, iv at0)]) C dL_stage_17 (by rw [hN]; decide) rfl ?_
  refine n_bipush (x := 8) C dL_stage_19 (by decide) ?_
  refine n_newI C (M := 8) (by omega) t1_95 (by omega) (by omega) dL_stage_21 (fun ac hac0 => ?_)
  refine wab (e := eI g.2.1 8 (fun _ => 0)) (fun σ hac O => ?_)
  replace hP := hP.new hac0 O
  have n_am_ac : am ≠ ac := fun z => by rw [z, hac0] at ham; cases ham
  replace ham := (O am n_am_ac).trans ham
  have n_aq_ac : aq ≠ ac := fun z => by rw [z, hac0] at haq; cases haq
  replace haq := (O aq n_aq_ac).trans haq
  clear O
  refine n_astore (lv' := [(5, .ref ac), (4, .ref aq), (3, .ref am), (2, .ref x), (0, .ref (scB g.2.2)), (1, iv at0)]) C dL_stage_23 (by rw [hN]; decide) rfl ?_
  refine n_bipush (x := 6) C dL_stage_25 (by decide) ?_
  refine n_newI C (M := 6) (by omega) t1_95 (by omega) (by omega) dL_stage_27 (fun az haz0 => ?_)
  refine wab (e := eI g.2.1 6 (fun _ => 0)) (fun σ haz O => ?_)
  replace hP := hP.new haz0 O
  have n_am_az : am ≠ az := fun z => by rw [z, haz0] at ham; cases ham
  replace ham := (O am n_am_az).trans ham
  have n_aq_az : aq ≠ az := fun z => by rw [z, haz0] at haq; cases haq
  replace haq := (O aq n_aq_az).trans haq
  have n_ac_az : ac ≠ az := fun z => by rw [z, haz0] at hac; cases hac
  replace hac := (O ac n_ac_az).trans hac
  clear O
  refine n_astore (lv' := [(6, .ref az), (5, .ref ac), (4, .ref aq), (3, .ref am), (2, .ref x), (0, .ref (scB g.2.2)), (1, iv at0)]) C dL_stage_29 (by rw [hN]; decide) rfl ?_
  refine n_aload C dL_stage_31 rfl ?_
  refine n_iconst (x := 2) C dL_stage_33 ?_
  refine n_bipush (x := 16) C dL_stage_34 (by decide) ?_
  refine n_iast C hac (by omega) (by omega) (by omega) dL_stage_36 ?_
  refine wab (fun σ H O => ?_)
  rw [show Int.toNat 2 = 2 from rfl] at H
  obtain ⟨fc1, hf1⟩ : ∃ f : Nat → Int, upI (fun _ => 0) 2 16 = f := ⟨_, rfl⟩
  rw [hf1] at H
  have hs1 : fc1 2 = 16 := by rw [← hf1]; exact upI_s ..
  have hn1 : ∀ j : Nat, j ≠ 2 → fc1 j = (fun _ => 0) j := fun j hj => by rw [← hf1]; exact upI_n hj
  clear hf1
  replace hP := hP.wr (List.mem_cons_of_mem _ List.mem_cons_self) O
  replace ham := (O am n_am_ac).trans ham
  replace haq := (O aq n_aq_ac).trans haq
  replace haz := (O az n_ac_az.symm).trans haz
  replace hac := H
  clear H O
  refine n_aload C dL_stage_37 rfl ?_
  refine n_iconst (x := 3) C dL_stage_39 ?_
  refine n_bipush (x := 20) C dL_stage_40 (by decide) ?_
  refine n_iast C hac (by omega) (by omega) (by omega) dL_stage_42 ?_
  refine wab (fun σ H O => ?_)
  rw [show Int.toNat 3 = 3 from rfl] at H
  obtain ⟨fc2, hf2⟩ : ∃ f : Nat → Int, upI fc1 3 20 = f := ⟨_, rfl⟩
  rw [hf2] at H
  have hs2 : fc2 3 = 20 := by rw [← hf2]; exact upI_s ..
  have hn2 : ∀ j : Nat, j ≠ 3 → fc2 j = fc1 j := fun j hj => by rw [← hf2]; exact upI_n hj
  clear hf2
  replace hP := hP.wr (List.mem_cons_of_mem _ List.mem_cons_self) O
  replace ham := (O am n_am_ac).trans ham
  replace haq := (O aq n_aq_ac).trans haq
  replace haz := (O az n_ac_az.symm).trans haz
  replace hac := H
  clear H O
  refine n_aload C dL_stage_43 rfl ?_
  refine n_iconst (x := 4) C dL_stage_45 ?_
  refine n_bipush (x := 100) C dL_stage_46 (by decide) ?_
  refine n_iast C hac (by omega) (by omega) (by omega) dL_stage_48 ?_
  refine wab (fun σ H O => ?_)
  rw [show Int.toNat 4 = 4 from rfl] at H
  obtain ⟨fc3, hf3⟩ : ∃ f : Nat → Int, upI fc2 4 100 = f := ⟨_, rfl⟩
  rw [hf3] at H
  have hs3 : fc3 4 = 100 := by rw [← hf3]; exact upI_s ..
  have hn3 : ∀ j : Nat, j ≠ 4 → fc3 j = fc2 j := fun j hj => by rw [← hf3]; exact upI_n hj
  clear hf3
  replace hP := hP.wr (List.mem_cons_of_mem _ List.mem_cons_self) O
  replace ham := (O am n_am_ac).trans ham
  replace haq := (O aq n_aq_ac).trans haq
  replace haz := (O az n_ac_az.symm).trans haz
  replace hac := H
  clear H O
  refine n_aload C dL_stage_49 rfl ?_
  refine n_iconst (x := 5) C dL_stage_51 ?_
  refine n_iconst (x := 5) C dL_stage_52 ?_
  refine n_iast C hac (by omega) (by omega) (by omega) dL_stage_53 ?_
  refine wab (fun σ H O => ?_)
  rw [show Int.toNat 5 = 5 from rfl] at H
  obtain ⟨fc4, hf4⟩ : ∃ f : Nat → Int, upI fc3 5 5 = f := ⟨_, rfl⟩
  rw [hf4] at H
  have hs4 : fc4 5 = 5 := by rw [← hf4]; exact upI_s ..
  have hn4 : ∀ j : Nat, j ≠ 5 → fc4 j = fc3 j := fun j hj => by rw [← hf4]; exact upI_n hj
  clear hf4
  replace hP := hP.wr (List.mem_cons_of_mem _ List.mem_cons_self) O
  replace ham := (O am n_am_ac).trans ham
  replace haq := (O aq n_aq_ac).trans haq
  replace haz := (O az n_ac_az.symm).trans haz
  replace hac := H
  clear H O
  refine n_aload C dL_stage_54 rfl ?_
  refine n_bipush (x := 6) C dL_stage_56 (by decide) ?_
  refine n_sipush (x := 400) C dL_stage_58 (by decide) ?_
  refine n_iast C hac (by omega) (by omega) (by omega) dL_stage_61 ?_
  refine wab (fun σ H O => ?_)
  rw [show Int.toNat 6 = 6 from rfl] at H
  obtain ⟨fc5, hf5⟩ : ∃ f : Nat → Int, upI fc4 6 400 = f := ⟨_, rfl⟩
  rw [hf5] at H
  have hs5 : fc5 6 = 400 := by rw [← hf5]; exact upI_s ..
  have hn5 : ∀ j : Nat, j ≠ 6 → fc5 j = fc4 j := fun j hj => by rw [← hf5]; exact upI_n hj
  clear hf5
  replace hP := hP.wr (List.mem_cons_of_mem _ List.mem_cons_self) O
  replace ham := (O am n_am_ac).trans ham
  replace haq := (O aq n_aq_ac).trans haq
  replace haz := (O az n_ac_az.symm).trans haz
  replace hac := H
  clear H O
  have hJ0 := SJ.start hP ⟨n_am_aq, n_am_ac, n_am_az, n_aq_ac, n_aq_az, n_ac_az⟩ ham haq hac haz ((hn5 0 (by decide)).trans ((hn4 0 (by decide)).trans ((hn3 0 (by decide)).trans ((hn2 0 (by decide)).trans (hn1 0 (by decide)))))) ((hn5 1 (by decide)).trans ((hn4 1 (by decide)).trans ((hn3 1 (by decide)).trans ((hn2 1 (by decide)).trans (hn1 1 (by decide)))))) ((hn5 2 (by decide)).trans ((hn4 2 (by decide)).trans ((hn3 2 (by decide)).trans ((hn2 2 (by decide)).trans hs1)))) ((hn5 3 (by decide)).trans ((hn4 3 (by decide)).trans ((hn3 3 (by decide)).trans hs2))) ((hn5 4 (by decide)).trans ((hn4 4 (by decide)).trans hs3)) ((hn5 5 (by decide)).trans hs4) hs5 ((hn5 7 (by decide)).trans ((hn4 7 (by decide)).trans ((hn3 7 (by decide)).trans ((hn2 7 (by decide)).trans (hn1 7 (by decide))))))
  clear hP ham haq hac haz
  refine n_iconst (x := 0) C dL_stage_62 ?_
  refine n_istore (lv' := [(7, iv 0), (6, .ref az), (5, .ref ac), (4, .ref aq), (3, .ref am), (2, .ref x), (0, .ref (scB g.2.2)), (1, iv at0)]) C dL_stage_63 (by rw [hN]; decide) rfl ?_
  have LP : ∀ (fu : Nat) (k : Nat) (c : Tb) (σ : Wd) (hJ : SJ g x am aq ac az c c σ) (hk : k ≤ 30) (hf : 31 ≤ k + fu), N Φ (10 + 2700 * k) (100 + 16300 * k) σ 65 [(7, iv (k : Int)), (0, .ref (scB g.2.2)), (1, iv at0), (2, .ref x), (3, .ref am), (4, .ref aq), (5, .ref ac), (6, .ref az)] [] := by
    intro fu
    induction fu with
    | zero =>
      intro k c σ hJ hk hf
      omega
    | succ fu ih =>
      intro k c σ hJ hk hf
      refine n_iload C dL_stage_65 rfl ?_
      refine n_bipush (x := 30) C dL_stage_67 (by decide) ?_
      refine n_icmp_ge C 334 dL_stage_69 (by decide) (by unfold rg; omega) (by unfold rg; omega) (fun b69 => ?_) (fun b69 => ?_)
      · refine n_iconst (x := 1) C dL_stage_334 ?_
        exact n_ireturn C Rr (nar_bv (by first | decide | omega)) rfl (by omega) (by omega) dL_stage_335
      · refine n_aload_n C dL_stage_72 rfl ?_
        refine n_iload_n C dL_stage_73 rfl ?_
        refine n_iconst (x := 3) C dL_stage_74 ?_
        refine n_iload C dL_stage_75 rfl ?_
        refine n_imul C dL_stage_77 ?_
        refine n_iadd C dL_stage_78 ?_
        refine n_iconst (x := 1) C dL_stage_79 ?_
        refine n_iadd C dL_stage_80 ?_
        refine n_ldc C (x := 1073741824) t1_96 rfl dL_stage_81 ?_
        refine n_invS C (l_draw hst (by omega) (by omega) hSL) ⟨t1_97, t1_99, t1_0, ⟨by decide, by decide⟩, by show _ = some 3; decide +kernel, by decide⟩ t1_98 (by decide) (by omega) (by omega) (Nat.le_of_ble_eq_true rfl) rfl dL_stage_83 (fun r σ' h' => ?_) (fun _ _ h => h.elim)
        obtain ⟨u, rfl, hu0, hu1, hσ⟩ := h'
        rw [hσ]
        refine n_istore (lv' := [(8, iv u), (7, iv (k : Int)), (0, .ref (scB g.2.2)), (1, iv at0), (2, .ref x), (3, .ref am), (4, .ref aq), (5, .ref ac), (6, .ref az)]) C dL_stage_86 (by rw [hN]; decide) rfl ?_
        refine n_aload_n C dL_stage_88 rfl ?_
        refine n_iload_n C dL_stage_89 rfl ?_
        refine n_iconst (x := 3) C dL_stage_90 ?_
        refine n_iload C dL_stage_91 rfl ?_
        refine n_imul C dL_stage_93 ?_
        refine n_iadd C dL_stage_94 ?_
        refine n_iconst (x := 2) C dL_stage_95 ?_
        refine n_iadd C dL_stage_96 ?_
        refine n_ldc C (x := 1073741824) t1_96 rfl dL_stage_97 ?_
        refine n_invS C (l_draw hst (by omega) (by omega) hSL) ⟨t1_97, t1_99, t1_0, ⟨by decide, by decide⟩, by show _ = some 3; decide +kernel, by decide⟩ t1_98 (by decide) (by omega) (by omega) (Nat.le_of_ble_eq_true rfl) rfl dL_stage_99 (fun r σ' h' => ?_) (fun _ _ h => h.elim)
        obtain ⟨v, rfl, hv0, hv1, hσ⟩ := h'
        rw [hσ]
        refine n_istore (lv' := [(9, iv v), (8, iv u), (7, iv (k : Int)), (0, .ref (scB g.2.2)), (1, iv at0), (2, .ref x), (3, .ref am), (4, .ref aq), (5, .ref ac), (6, .ref az)]) C dL_stage_102 (by rw [hN]; decide) rfl ?_
        have J137 : ∀ wh : Int, 0 ≤ wh ∧ wh < 12 → N Φ (10 + 2700 * k + 0) (100 + 16300 * k + 0) σ 137 [(9, iv v), (8, iv u), (7, iv (k : Int)), (0, .ref (scB g.2.2)), (1, iv at0), (2, .ref x), (3, .ref am), (4, .ref aq), (5, .ref ac), (6, .ref az)] [iv wh] := by
          intro wh hwh
          refine n_istore (lv' := [(10, iv wh), (9, iv v), (8, iv u), (7, iv (k : Int)), (0, .ref (scB g.2.2)), (1, iv at0), (2, .ref x), (3, .ref am), (4, .ref aq), (5, .ref ac), (6, .ref az)]) C dL_stage_137 (by rw [hN]; decide) rfl ?_
          refine n_aload_n C dL_stage_139 rfl ?_
          refine n_iload C dL_stage_140 rfl ?_
          refine n_iload C dL_stage_142 rfl ?_
          refine n_iload C dL_stage_144 rfl ?_
          refine n_aload_n C dL_stage_146 rfl ?_
          refine n_aload C dL_stage_147 rfl ?_
          refine n_aload C dL_stage_149 rfl ?_
          refine n_aload C dL_stage_151 rfl ?_
          refine n_invS C (l_step hst hJ hwh ⟨hu0, hu1⟩ ⟨hv0, hv1⟩) ⟨t1_103, t1_105, t1_0, ⟨by decide, by decide⟩, by show _ = some 8; decide +kernel, by decide⟩ t1_104 (by decide) (by omega) (by omega) (Nat.le_of_ble_eq_true rfl) rfl dL_stage_153 (fun r σ h' => ?_) (fun _ _ h => h.elim)
          obtain ⟨rfl, c, hJ, h00⟩ := h'
          obtain ⟨hdis, -, ⟨fm, hmI, hm⟩, ⟨fq, hqI, hq⟩, ⟨fc, hcI, hc⟩, fz, hzI, hz⟩ := id hJ
          have hw := hJ.wf
          obtain ⟨w0, w6, w12, w13, w14, w15, w16, wm, wq, ww⟩ := id hw
          have hLr := lenB_rg hw (T := c 14 0) w14.1
          obtain ⟨L, hL⟩ : ∃ L : Nat, lenB c (c 14 0) = L := ⟨(lenB c (c 14 0)).toNat, by omega⟩
          rw [hL] at hLr
          have hLL : LL c = L := by unfold LL; omega
          obtain ⟨n12, h12⟩ : ∃ n : Nat, c 12 0 = n := ⟨(c 12 0).toNat, by omega⟩
          obtain ⟨n0, hn0⟩ : ∃ n : Nat, c 0 0 = n := ⟨(c 0 0).toNat, by omega⟩
          obtain ⟨n6, hn6⟩ : ∃ n : Nat, c 6 0 = n := ⟨(c 6 0).toNat, by omega⟩
          obtain ⟨NN, hNd⟩ : ∃ NN : Nat, n12 * L = NN := ⟨_, rfl⟩
          have hNN : NN ≤ 2400 := by
            rw [← hNd]
            exact Nat.mul_le_mul (show n12 ≤ 30 by omega) (show L ≤ 80 by omega)
          have hNL : c 12 0 * lenB c (c 14 0) = (NN : Int) := by rw [h12, hL, ← Int.natCast_mul, hNd]
          have hNT : NT c L = NN := by
            unfold NT
            rw [show (c 12 0).toNat = n12 by omega]
            exact hNd
          refine n_if_ne C 161 dL_stage_156 (by decide) (by unfold rg; omega) (fun _ => ?_) (fun hk => by exfalso; first | omega | exact hk (by omega) | exact (by omega) hk)
          refine n_iload C dL_stage_161 rfl ?_
          refine n_bipush (x := 9) C dL_stage_163 (by decide) ?_
          refine n_idivP C dL_stage_165 (by unfold rg; omega) (by unfold rg; omega) (by omega) (by omega) ?_
          refine n_aload_n C dL_stage_166 rfl ?_
          obtain ⟨fo, hfo⟩ := hJ.obj
          refine n_invV C (s_end hst hJ) ⟨t3_195, t3_198, t1_1, ⟨by decide, by decide⟩, by show _ = some 0; decide +kernel, by decide⟩ t3_196 t3_197 hfo vC5 (by decide) (by omega) (by omega) (Nat.le_of_ble_eq_true rfl) rfl dL_stage_167 (fun r σ h' => ?_) (fun _ _ h => h.elim)
          obtain ⟨rfl, hJ⟩ := h'
          obtain ⟨hdis, -, ⟨fm, hmI, hm⟩, ⟨fq, hqI, hq⟩, ⟨fc, hcI, hc⟩, fz, hzI, hz⟩ := id hJ
          rw [hNL]
          refine n_iconst (x := 1) C dL_stage_170 ?_
          refine n_iadd C dL_stage_171 ?_
          refine n_iremP C dL_stage_172 (by unfold rg; omega) (by unfold rg; omega) (by omega) (by omega) ?_
          have ht0 : 0 ≤ (u / 9) % ((NN : Int) + 1) := Int.emod_nonneg _ (by omega)
          have ht1 : (u / 9) % ((NN : Int) + 1) < (NN : Int) + 1 := Int.emod_lt_of_pos _ (by omega)
          obtain ⟨tt, htt⟩ : ∃ tt : Nat, (u / 9) % ((NN : Int) + 1) = tt := ⟨((u / 9) % ((NN : Int) + 1)).toNat, by omega⟩
          rw [htt] at ht0 ht1 ⊢
          refine n_istore (lv' := [(11, iv (tt : Int)), (10, iv wh), (9, iv v), (8, iv u), (7, iv (k : Int)), (0, .ref (scB g.2.2)), (1, iv at0), (2, .ref x), (3, .ref am), (4, .ref aq), (5, .ref ac), (6, .ref az)]) C dL_stage_173 (by rw [hN]; decide) rfl ?_
          refine n_aload_n C dL_stage_175 rfl ?_
          refine n_aload_n C dL_stage_176 rfl ?_
          refine n_aload C dL_stage_177 rfl ?_
          refine n_aload C dL_stage_179 rfl ?_
          refine n_iload C dL_stage_181 rfl ?_
          refine n_bipush (x := 9) C dL_stage_183 (by decide) ?_
          refine n_idivP C dL_stage_185 (by unfold rg; omega) (by unfold rg; omega) (by omega) (by omega) ?_
          refine n_aload C dL_stage_186 rfl ?_
          refine n_iconst (x := 0) C dL_stage_188 ?_
          refine n_ialdv C (c 0 0) hc (by omega) (by omega) (by omega) hcI.1 dL_stage_189 ?_
          refine n_iremP C dL_stage_190 (by unfold rg; omega) (by unfold rg; omega) (by omega) (by omega) ?_
          have hi0 : 0 ≤ (v / 9) % c 0 0 := Int.emod_nonneg _ (by omega)
          have hi1 : (v / 9) % c 0 0 < c 0 0 := Int.emod_lt_of_pos _ (by omega)
          obtain ⟨i, hi⟩ : ∃ i : Nat, (v / 9) % c 0 0 = i := ⟨((v / 9) % c 0 0).toNat, by omega⟩
          rw [hi] at hi0 hi1 ⊢
          refine n_iload C dL_stage_191 rfl ?_
          refine n_invS C (l_isPlace hst hJ (i := i) (by omega) (t := tt) (by rw [hNL]; omega)) ⟨t3_204, t3_206, t1_0, ⟨by decide, by decide⟩, by show _ = some 6; decide +kernel, by decide⟩ t3_205 (by decide) (by omega) (by omega) (Nat.le_of_ble_eq_true rfl) rfl dL_stage_193 (fun r σ h' => ?_) (fun _ _ h => h.elim)
          obtain ⟨rfl, hJ⟩ := h'
          obtain ⟨hdis, -, ⟨fm, hmI, hm⟩, ⟨fq, hqI, hq⟩, ⟨fc, hcI, hc⟩, fz, hzI, hz⟩ := id hJ
          refine n_if_eq C 233 dL_stage_196 (by decide) (by unfold rg; omega) (fun hk => by exfalso; first | omega | exact hk (by omega) | exact (by omega) hk) (fun _ => ?_)
          have J328 : ∀ (σ : Wd) (hJ : SJ g x am aq ac az c c σ), N Φ (10 + 2700 * k + 2693) (100 + 16300 * k + 16274) σ 328 [(11, iv (tt : Int)), (9, iv v), (8, iv u), (7, iv (k : Int)), (0, .ref (scB g.2.2)), (1, iv at0), (2, .ref x), (3, .ref am), (4, .ref aq), (5, .ref ac), (6, .ref az)] [] := by
            intro σ hJ
            obtain ⟨hdis, -, ⟨fm, hmI, hm⟩, ⟨fq, hqI, hq⟩, ⟨fc, hcI, hc⟩, fz, hzI, hz⟩ := id hJ
            refine n_iinc (lv' := [(7, iv ((k : Int) + 1)), (11, iv (tt : Int)), (9, iv v), (8, iv u), (0, .ref (scB g.2.2)), (1, iv at0), (2, .ref x), (3, .ref am), (4, .ref aq), (5, .ref ac), (6, .ref az)]) C dL_stage_328 rfl (by rw [hN]; decide) rfl ?_
            refine n_goto C 65 dL_stage_331 (by decide) ?_
            refine n_keep (lv' := [(7, iv ((k : Int) + 1)), (0, .ref (scB g.2.2)), (1, iv at0), (2, .ref x), (3, .ref am), (4, .ref aq), (5, .ref ac), (6, .ref az)]) [7, 0, 1, 2, 3, 4, 5, 6] rfl ?_
            exact n_widen (k' := 10 + 2700 * (k + 1)) (n' := 100 + 16300 * (k + 1)) (by omega) (by omega) (ih (k + 1) c σ hJ (by omega) (by omega))
          have J307 : ∀ (σ : Wd) (hJ : SJ g x am aq ac az c c σ), N Φ (10 + 2700 * k + 2675) (100 + 16300 * k + 16166) σ 307 [(11, iv (tt : Int)), (9, iv v), (8, iv u), (7, iv (k : Int)), (0, .ref (scB g.2.2)), (1, iv at0), (2, .ref x), (3, .ref am), (4, .ref aq), (5, .ref ac), (6, .ref az)] [] := by
            intro σ hJ
            obtain ⟨hdis, -, ⟨fm, hmI, hm⟩, ⟨fq, hqI, hq⟩, ⟨fc, hcI, hc⟩, fz, hzI, hz⟩ := id hJ
            refine n_iload C dL_stage_307 rfl ?_
            refine n_bipush (x := 15) C dL_stage_309 (by decide) ?_
            refine n_iremP C dL_stage_311 (by unfold rg; omega) (by unfold rg; omega) (by omega) (by omega) ?_
            refine n_bipush (x := 14) C dL_stage_312 (by decide) ?_
            refine n_icmp_ne C 328 dL_stage_314 (by decide) (by unfold rg; omega) (by unfold rg; omega) (fun b314 => ?_) (fun b314 => ?_)
            · refine n_keep (lv' := [(11, iv (tt : Int)), (9, iv v), (8, iv u), (7, iv (k : Int)), (0, .ref (scB g.2.2)), (1, iv at0), (2, .ref x), (3, .ref am), (4, .ref aq), (5, .ref ac), (6, .ref az)]) [11, 9, 8, 7, 0, 1, 2, 3, 4, 5, 6] rfl ?_
              exact n_widen (by omega) (by omega) (J328 σ hJ)
            · refine n_aload_n C dL_stage_317 rfl ?_
              refine n_aload C dL_stage_318 rfl ?_
              refine n_invS C (l_isFastest hst hJ) ⟨t4_124, t4_126, t1_0, ⟨by decide, by decide⟩, by show _ = some 2; decide +kernel, by decide⟩ t4_125 (by decide) (by omega) (by omega) (Nat.le_of_ble_eq_true rfl) rfl dL_stage_320 (fun r σ h' => ?_) (fun _ _ h => h.elim)
              obtain ⟨rfl, hJ⟩ := h'
              refine n_if_ne C 328 dL_stage_323 (by decide) (by unfold rg; omega) (fun _ => ?_) (fun hk => by exfalso; first | omega | exact hk (by omega) | exact (by omega) hk)
              refine n_keep (lv' := [(11, iv (tt : Int)), (9, iv v), (8, iv u), (7, iv (k : Int)), (0, .ref (scB g.2.2)), (1, iv at0), (2, .ref x), (3, .ref am), (4, .ref aq), (5, .ref ac), (6, .ref az)]) [11, 9, 8, 7, 0, 1, 2, 3, 4, 5, 6] rfl ?_
              exact n_widen (by omega) (by omega) (J328 σ hJ)
          have J263 : ∀ (σ : Wd) (hJ : SJ g x am aq ac az c c σ), N Φ (10 + 2700 * k + 459) (100 + 16300 * k + 2870) σ 263 [(11, iv (tt : Int)), (9, iv v), (8, iv u), (7, iv (k : Int)), (0, .ref (scB g.2.2)), (1, iv at0), (2, .ref x), (3, .ref am), (4, .ref aq), (5, .ref ac), (6, .ref az)] [] := by
            intro σ hJ
            obtain ⟨hdis, -, ⟨fm, hmI, hm⟩, ⟨fq, hqI, hq⟩, ⟨fc, hcI, hc⟩, fz, hzI, hz⟩ := id hJ
            refine n_iload C dL_stage_263 rfl ?_
            refine n_iconst (x := 4) C dL_stage_265 ?_
            refine n_iremP C dL_stage_266 (by unfold rg; omega) (by unfold rg; omega) (by omega) (by omega) ?_
            refine n_iconst (x := 3) C dL_stage_267 ?_
            refine n_icmp_ne C 307 dL_stage_268 (by decide) (by unfold rg; omega) (by unfold rg; omega) (fun b268 => ?_) (fun b268 => ?_)
            · refine n_keep (lv' := [(11, iv (tt : Int)), (9, iv v), (8, iv u), (7, iv (k : Int)), (0, .ref (scB g.2.2)), (1, iv at0), (2, .ref x), (3, .ref am), (4, .ref aq), (5, .ref ac), (6, .ref az)]) [11, 9, 8, 7, 0, 1, 2, 3, 4, 5, 6] rfl ?_
              exact n_widen (by omega) (by omega) (J307 σ hJ)
            · refine n_aload C dL_stage_271 rfl ?_
              refine n_iconst (x := 1) C dL_stage_273 ?_
              refine n_ialdv C (c 6 0) hc (by omega) (by omega) (by omega) hcI.2.1 dL_stage_274 ?_
              refine n_if_le C 307 dL_stage_275 (by decide) (by unfold rg; omega) (fun b275 => ?_) (fun b275 => ?_)
              · refine n_keep (lv' := [(11, iv (tt : Int)), (9, iv v), (8, iv u), (7, iv (k : Int)), (0, .ref (scB g.2.2)), (1, iv at0), (2, .ref x), (3, .ref am), (4, .ref aq), (5, .ref ac), (6, .ref az)]) [11, 9, 8, 7, 0, 1, 2, 3, 4, 5, 6] rfl ?_
                exact n_widen (by omega) (by omega) (J307 σ hJ)
              · refine n_aload_n C dL_stage_278 rfl ?_
                refine n_aload C dL_stage_279 rfl ?_
                refine n_aload C dL_stage_281 rfl ?_
                refine n_iload C dL_stage_283 rfl ?_
                refine n_iconst (x := 5) C dL_stage_285 ?_
                refine n_idivP C dL_stage_286 (by unfold rg; omega) (by unfold rg; omega) (by omega) (by omega) ?_
                refine n_bipush (x := 6) C dL_stage_287 (by decide) ?_
                refine n_iremP C dL_stage_289 (by unfold rg; omega) (by unfold rg; omega) (by omega) (by omega) ?_
                have he0 : 0 ≤ (u / 5) % 6 := Int.emod_nonneg _ (by omega)
                have he1 : (u / 5) % 6 < 6 := Int.emod_lt_of_pos _ (by omega)
                obtain ⟨e, he⟩ : ∃ e : Int, (u / 5) % 6 = e := ⟨_, rfl⟩
                rw [he] at he0 he1 ⊢
                refine n_invS C (l_isWorker hst hJ (a := e) (by omega) (by omega)) ⟨t4_86, t4_88, t1_0, ⟨by decide, by decide⟩, by show _ = some 4; decide +kernel, by decide⟩ t4_87 (by decide) (by omega) (by omega) (Nat.le_of_ble_eq_true rfl) rfl dL_stage_290 (fun r σ h' => ?_) (fun _ _ h => h.elim)
                obtain ⟨rfl, hJ⟩ := h'
                obtain ⟨hdis, -, ⟨fm, hmI, hm⟩, ⟨fq, hqI, hq⟩, ⟨fc, hcI, hc⟩, fz, hzI, hz⟩ := id hJ
                refine n_if_eq C 326 dL_stage_293 (by decide) (by unfold rg; omega) (fun hk => by exfalso; first | omega | exact hk (by omega) | exact (by omega) hk) (fun _ => ?_)
                refine n_aload_n C dL_stage_296 rfl ?_
                refine n_aload C dL_stage_297 rfl ?_
                refine n_aload C dL_stage_299 rfl ?_
                refine n_invS C (l_isNight hst hJ) ⟨t4_101, t4_103, t1_0, ⟨by decide, by decide⟩, by show _ = some 3; decide +kernel, by decide⟩ t4_102 (by decide) (by omega) (by omega) (Nat.le_of_ble_eq_true rfl) rfl dL_stage_301 (fun r σ h' => ?_) (fun _ _ h => h.elim)
                obtain ⟨rfl, hJ⟩ := h'
                obtain ⟨hdis, -, ⟨fm, hmI, hm⟩, ⟨fq, hqI, hq⟩, ⟨fc, hcI, hc⟩, fz, hzI, hz⟩ := id hJ
                refine n_if_eq C 326 dL_stage_304 (by decide) (by unfold rg; omega) (fun hk => by exfalso; first | omega | exact hk (by omega) | exact (by omega) hk) (fun _ => ?_)
                refine n_keep (lv' := [(11, iv (tt : Int)), (9, iv v), (8, iv u), (7, iv (k : Int)), (0, .ref (scB g.2.2)), (1, iv at0), (2, .ref x), (3, .ref am), (4, .ref aq), (5, .ref ac), (6, .ref az)]) [11, 9, 8, 7, 0, 1, 2, 3, 4, 5, 6] rfl ?_
                exact n_widen (by omega) (by omega) (J307 σ hJ)
          have J229 : ∀ (σ : Wd) (hJ : SJ g x am aq ac az c c σ), N Φ (10 + 2700 * k + 27) (100 + 16300 * k + 278) σ 229 [(11, iv (tt : Int)), (9, iv v), (8, iv u), (7, iv (k : Int)), (0, .ref (scB g.2.2)), (1, iv at0), (2, .ref x), (3, .ref am), (4, .ref aq), (5, .ref ac), (6, .ref az)] [] := by
            intro σ hJ
            obtain ⟨hdis, -, ⟨fm, hmI, hm⟩, ⟨fq, hqI, hq⟩, ⟨fc, hcI, hc⟩, fz, hzI, hz⟩ := id hJ
            refine n_iconst (x := 1) C dL_stage_229 ?_
            refine n_goto C 234 dL_stage_230 (by decide) ?_
            refine n_istore (lv' := [(12, iv 1), (11, iv (tt : Int)), (9, iv v), (8, iv u), (7, iv (k : Int)), (0, .ref (scB g.2.2)), (1, iv at0), (2, .ref x), (3, .ref am), (4, .ref aq), (5, .ref ac), (6, .ref az)]) C dL_stage_234 (by rw [hN]; decide) rfl ?_
            refine n_iload C dL_stage_236 rfl ?_
            refine n_if_eq C 326 dL_stage_238 (by decide) (by unfold rg; omega) (fun hk => by exfalso; first | omega | exact hk (by omega) | exact (by omega) hk) (fun _ => ?_)
            refine n_iload C dL_stage_241 rfl ?_
            refine n_iconst (x := 3) C dL_stage_243 ?_
            refine n_iremP C dL_stage_244 (by unfold rg; omega) (by unfold rg; omega) (by omega) (by omega) ?_
            refine n_iconst (x := 2) C dL_stage_245 ?_
            refine n_icmp_ne C 263 dL_stage_246 (by decide) (by unfold rg; omega) (by unfold rg; omega) (fun b246 => ?_) (fun b246 => ?_)
            · refine n_keep (lv' := [(11, iv (tt : Int)), (9, iv v), (8, iv u), (7, iv (k : Int)), (0, .ref (scB g.2.2)), (1, iv at0), (2, .ref x), (3, .ref am), (4, .ref aq), (5, .ref ac), (6, .ref az)]) [11, 9, 8, 7, 0, 1, 2, 3, 4, 5, 6] rfl ?_
              exact n_widen (by omega) (by omega) (J263 σ hJ)
            · refine n_aload_n C dL_stage_249 rfl ?_
              refine n_aload_n C dL_stage_250 rfl ?_
              refine n_aload C dL_stage_251 rfl ?_
              refine n_iload C dL_stage_253 rfl ?_
              refine n_iconst (x := 3) C dL_stage_255 ?_
              refine n_idivP C dL_stage_256 (by unfold rg; omega) (by unfold rg; omega) (by omega) (by omega) ?_
              have hv3 : 0 ≤ v / 3 ∧ v / 3 < 2147483648 := by omega
              refine n_invS C (l_areMeetings hst hJ hv3) ⟨t4_56, t4_58, t1_0, ⟨by decide, by decide⟩, by show _ = some 4; decide +kernel, by decide⟩ t4_57 (by decide) (by omega) (by omega) (Nat.le_of_ble_eq_true rfl) rfl dL_stage_257 (fun r σ h' => ?_) (fun _ _ h => h.elim)
              obtain ⟨rfl, hJ⟩ := h'
              obtain ⟨hdis, -, ⟨fm, hmI, hm⟩, ⟨fq, hqI, hq⟩, ⟨fc, hcI, hc⟩, fz, hzI, hz⟩ := id hJ
              refine n_if_eq C 326 dL_stage_260 (by decide) (by unfold rg; omega) (fun hk => by exfalso; first | omega | exact hk (by omega) | exact (by omega) hk) (fun _ => ?_)
              refine n_keep (lv' := [(11, iv (tt : Int)), (9, iv v), (8, iv u), (7, iv (k : Int)), (0, .ref (scB g.2.2)), (1, iv at0), (2, .ref x), (3, .ref am), (4, .ref aq), (5, .ref ac), (6, .ref az)]) [11, 9, 8, 7, 0, 1, 2, 3, 4, 5, 6] rfl ?_
              exact n_widen (by omega) (by omega) (J263 σ hJ)
          refine n_aload C dL_stage_199 rfl ?_
          refine n_iconst (x := 1) C dL_stage_201 ?_
          refine n_ialdv C (c 6 0) hc (by omega) (by omega) (by omega) hcI.2.1 dL_stage_202 ?_
          refine n_if_eq C 229 dL_stage_203 (by decide) (by unfold rg; omega) (fun b203 => ?_) (fun b203 => ?_)
          · refine n_keep (lv' := [(11, iv (tt : Int)), (9, iv v), (8, iv u), (7, iv (k : Int)), (0, .ref (scB g.2.2)), (1, iv at0), (2, .ref x), (3, .ref am), (4, .ref aq), (5, .ref ac), (6, .ref az)]) [11, 9, 8, 7, 0, 1, 2, 3, 4, 5, 6] rfl ?_
            exact n_widen (by omega) (by omega) (J229 σ hJ)
          · refine n_aload_n C dL_stage_206 rfl ?_
            refine n_aload C dL_stage_207 rfl ?_
            refine n_aload C dL_stage_209 rfl ?_
            refine n_aload C dL_stage_211 rfl ?_
            refine n_iload C dL_stage_213 rfl ?_
            refine n_bipush (x := 7) C dL_stage_215 (by decide) ?_
            refine n_idivP C dL_stage_217 (by unfold rg; omega) (by unfold rg; omega) (by omega) (by omega) ?_
            refine n_aload C dL_stage_218 rfl ?_
            refine n_iconst (x := 1) C dL_stage_220 ?_
            refine n_ialdv C (c 6 0) hc (by omega) (by omega) (by omega) hcI.2.1 dL_stage_221 ?_
            refine n_iremP C dL_stage_222 (by unfold rg; omega) (by unfold rg; omega) (by omega) (by omega) ?_
            have hee0 : 0 ≤ (v / 7) % c 6 0 := Int.emod_nonneg _ (by omega)
            have hee1 : (v / 7) % c 6 0 < c 6 0 := Int.emod_lt_of_pos _ (by omega)
            obtain ⟨ee, hee⟩ : ∃ ee : Nat, (v / 7) % c 6 0 = ee := ⟨((v / 7) % c 6 0).toNat, by omega⟩
            rw [hee] at hee0 hee1 ⊢
            refine n_invS C (l_isCue hst hJ (k := ee) (by omega)) ⟨t4_11, t4_13, t1_0, ⟨by decide, by decide⟩, by show _ = some 5; decide +kernel, by decide⟩ t4_12 (by decide) (by omega) (by omega) (Nat.le_of_ble_eq_true rfl) rfl dL_stage_223 (fun r σ h' => ?_) (fun _ _ h => h.elim)
            obtain ⟨rfl, hJ⟩ := h'
            obtain ⟨hdis, -, ⟨fm, hmI, hm⟩, ⟨fq, hqI, hq⟩, ⟨fc, hcI, hc⟩, fz, hzI, hz⟩ := id hJ
            refine n_if_eq C 233 dL_stage_226 (by decide) (by unfold rg; omega) (fun hk => by exfalso; first | omega | exact hk (by omega) | exact (by omega) hk) (fun _ => ?_)
            refine n_keep (lv' := [(11, iv (tt : Int)), (9, iv v), (8, iv u), (7, iv (k : Int)), (0, .ref (scB g.2.2)), (1, iv at0), (2, .ref x), (3, .ref am), (4, .ref aq), (5, .ref ac), (6, .ref az)]) [11, 9, 8, 7, 0, 1, 2, 3, 4, 5, 6] rfl ?_
            exact n_widen (by omega) (by omega) (J229 σ hJ)
        refine n_iload C dL_stage_104 rfl ?_
        refine n_iconst (x := 4) C dL_stage_106 ?_
        refine n_icmp_ge C 114 dL_stage_107 (by decide) (by unfold rg; omega) (by unfold rg; omega) (fun b107 => ?_) (fun b107 => ?_)
        · refine n_iload C dL_stage_114 rfl ?_
          refine n_bipush (x := 12) C dL_stage_116 (by decide) ?_
          refine n_icmp_ge C 125 dL_stage_118 (by decide) (by unfold rg; omega) (by unfold rg; omega) (fun b118 => ?_) (fun b118 => ?_)
          · refine n_aload_n C dL_stage_125 rfl ?_
            refine n_iload_n C dL_stage_126 rfl ?_
            refine n_iconst (x := 3) C dL_stage_127 ?_
            refine n_iload C dL_stage_128 rfl ?_
            refine n_imul C dL_stage_130 ?_
            refine n_iadd C dL_stage_131 ?_
            refine n_bipush (x := 12) C dL_stage_132 (by decide) ?_
            refine n_invS C (l_draw hst (by omega) (by omega) hSL) ⟨t1_97, t1_99, t1_0, ⟨by decide, by decide⟩, by show _ = some 3; decide +kernel, by decide⟩ t1_98 (by decide) (by omega) (by omega) (Nat.le_of_ble_eq_true rfl) rfl dL_stage_134 (fun r σ' h' => ?_) (fun _ _ h => h.elim)
            obtain ⟨wh, rfl, hw0, hw1, hσ⟩ := h'
            rw [hσ]
            exact J137 wh ⟨hw0, hw1⟩
          · refine n_iconst (x := 1) C dL_stage_121 ?_
            refine n_goto C 137 dL_stage_122 (by decide) ?_
            exact n_widen (by omega) (by omega) (J137 1 (by omega))
        · refine n_iconst (x := 0) C dL_stage_110 ?_
          refine n_goto C 137 dL_stage_111 (by decide) ?_
          exact J137 0 (by omega)
  refine n_keep (lv' := [(7, iv 0), (0, .ref (scB g.2.2)), (1, iv at0), (2, .ref x), (3, .ref am), (4, .ref aq), (5, .ref ac), (6, .ref az)]) [7, 0, 1, 2, 3, 4, 5, 6] rfl ?_
  exact n_widen (by omega) (by omega) (LP 32 0 _ σ hJ0 (by omega) (by omega))
