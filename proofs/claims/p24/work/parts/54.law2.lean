set_option maxRecDepth 100000 in
set_option maxHeartbeats 4000000 in
theorem l_isPlace {g : Gx} (hst : g.1.stackTraces = false) {x am aq ac az : Nat} {c : Tb} {σ : Wd} (hJ : SJ g x am aq ac az c c σ) {i : Nat} (hi : (i : Int) < c 0 0) {t : Nat} (ht : (t : Int) ≤ c 12 0 * lenB c (c 14 0))  : CT g yL_isPlace cL_isPlace 10 (some .boolean) 5 16 96 [.ref x, .ref am, .ref aq, .ref ac, iv (i : Int), iv (t : Int)] σ (fun r σ' => r = some (iv 1) ∧ SJ g x am aq ac az c c σ') (fun _ _ => False) := by
  refine CT.of hst (by decide +kernel) (Nat.le_of_ble_eq_true rfl) (fun Φ C Rr hY hN => ?_)
  show N Φ 0 0 σ 0 [(0, .ref x), (1, .ref am), (2, .ref aq), (3, .ref ac), (4, iv (i : Int)), (5, iv (t : Int))] []
  obtain ⟨hdis, -, ⟨fm, hmI, hm⟩, ⟨fq, hqI, hq⟩, ⟨fc, hcI, hc⟩, fz, hzI, hz⟩ := id hJ
  have hw := hJ.wf
  obtain ⟨w0, w6, w12, w13, w14, w15, w16, wm, wq, ww⟩ := id hw
  have hLr := lenB_rg hw (T := c 14 0) w14.1
  obtain ⟨L, hL⟩ : ∃ L : Nat, lenB c (c 14 0) = L := ⟨(lenB c (c 14 0)).toNat, by omega⟩
  rw [hL] at hLr
  have hLL : LL c = L := by unfold LL; omega
  obtain ⟨n12, h12⟩ : ∃ n : Nat, c 12 0 = n := ⟨(c 12 0).toNat, by omega⟩
  obtain ⟨n0, hn0⟩ : ∃ n : Nat, c 0 0 = n := ⟨(c 0 0).toNat, by omega⟩
  obtain ⟨n6, hn6⟩ : ∃ n : Nat, c 6 0 = n := ⟨(c 6 0).toNat, by omega⟩
  obtain ⟨NN, hNd⟩ : ∃ NN : Nat, n12 * L = NN := ⟨_, rfl⟩
  have hNN : NN ≤ 2400 := by
    rw [← hNd]
    exact Nat.mul_le_mul (show n12 ≤ 30 by omega) (show L ≤ 80 by omega)
  have hNL : c 12 0 * lenB c (c 14 0) = (NN : Int) := by rw [h12, hL, ← Int.natCast_mul, hNd]
  have hNT : NT c L = NN := by
    unfold NT
    rw [show (c 12 0).toNat = n12 by omega]
    exact hNd
  replace ht : t ≤ NN := by omega
  refine n_aload_n C dL_isPlace_0 rfl ?_
  refine n_iload C dL_isPlace_1 rfl ?_
  refine n_iload C dL_isPlace_3 rfl ?_
  have hcd : cdPlace c (i : Int) (t : Int) = 0 := by
    unfold cdPlace
    rw [hNL, if_pos (by omega), if_pos (by omega)]
  have hvp : vlPlace c (i : Int) (t : Int) = (tr c L i t).1 := by
    unfold vlPlace
    rw [hLL, show ((i : Int) : Int).toNat = i by omega, show ((t : Int) : Int).toNat = t by omega]
  have hpr := tr_rg hw L i t
  obtain ⟨fo, hfo⟩ := hJ.obj
  refine n_invV C (s_place hst (by unfold rg; omega) (by unfold rg; omega) hJ hcd) ⟨t3_207, t3_210, t1_1, ⟨by decide, by decide⟩, by show _ = some 2; decide +kernel, by decide⟩ t3_208 t3_209 hfo vC5 (by decide) (by omega) (by omega) (Nat.le_of_ble_eq_true rfl) rfl dL_isPlace_5 (fun r σ h' => ?_) (fun _ _ h => h.elim)
  obtain ⟨rfl, hJ⟩ := h'
  obtain ⟨hdis, -, ⟨fm, hmI, hm⟩, ⟨fq, hqI, hq⟩, ⟨fc, hcI, hc⟩, fz, hzI, hz⟩ := id hJ
  rw [hvp]
  refine n_istore (lv' := [(6, iv ((tr c L i t).1)), (0, .ref x), (1, .ref am), (2, .ref aq), (3, .ref ac), (4, iv (i : Int)), (5, iv (t : Int))]) C dL_isPlace_8 (by rw [hN]; decide) rfl ?_
  refine n_aload_n C dL_isPlace_10 rfl ?_
  refine n_aload_n C dL_isPlace_11 rfl ?_
  refine n_iload C dL_isPlace_12 rfl ?_
  refine n_iload C dL_isPlace_14 rfl ?_
  refine n_invS C (l_by hst hw hi (by omega) hq hqI hc hcI) ⟨t3_232, t3_234, t1_0, ⟨by decide, by decide⟩, by show _ = some 4; decide +kernel, by decide⟩ t3_233 (by decide) (by omega) (by omega) (Nat.le_of_ble_eq_true rfl) rfl dL_isPlace_16 (fun r σ' h' => ?_) (fun _ _ h => h.elim)
  obtain ⟨rfl, hσ⟩ := h'
  rw [hσ, hLL]
  have hlat := tr_lat (c := c) (i := i) (L := L) (by omega) t
  have hRr := lat_rg (c := c) (i := i) w6.2 (t / L + 1)
  rw [← hlat] at hRr
  have hrun := tr_run (c := c) (L := L) (k := i) (by omega) w6.2 (t + 1)
  have hm1 := tr_mm hw (L := L) (i := i) (t + 1)
  have hmv := tr_mv c L i t
  obtain ⟨R, hR⟩ : ∃ R : Int, (tr c L i (t + 1)).2 = R := ⟨_, rfl⟩
  rw [hR] at hRr hrun hm1 hmv
  rw [hR]
  refine n_istore (lv' := [(7, iv R), (6, iv ((tr c L i t).1)), (0, .ref x), (1, .ref am), (2, .ref aq), (3, .ref ac), (4, iv (i : Int)), (5, iv (t : Int))]) C dL_isPlace_19 (by rw [hN]; decide) rfl ?_
  refine n_aload_n C dL_isPlace_21 rfl ?_
  refine n_iload C dL_isPlace_22 rfl ?_
  refine n_iconst (x := 0) C dL_isPlace_24 ?_
  have wi := wm i
  have hcd : cdPlace c (i : Int) 0 = 0 := by
    unfold cdPlace
    rw [hNL, if_pos (by omega), if_pos (by omega)]
  have hvp : vlPlace c (i : Int) 0 = (tr c L i 0).1 := by
    unfold vlPlace
    rw [hLL, show ((i : Int) : Int).toNat = i by omega, show (0 : Int).toNat = 0 by omega]
  have hpr := tr_rg hw L i 0
  obtain ⟨fo, hfo⟩ := hJ.obj
  refine n_invV C (s_place hst (by unfold rg; omega) (by unfold rg; omega) hJ hcd) ⟨t3_207, t3_210, t1_1, ⟨by decide, by decide⟩, by show _ = some 2; decide +kernel, by decide⟩ t3_208 t3_209 hfo vC5 (by decide) (by omega) (by omega) (Nat.le_of_ble_eq_true rfl) rfl dL_isPlace_25 (fun r σ h' => ?_) (fun _ _ h => h.elim)
  obtain ⟨rfl, hJ⟩ := h'
  obtain ⟨hdis, -, ⟨fm, hmI, hm⟩, ⟨fq, hqI, hq⟩, ⟨fc, hcI, hc⟩, fz, hzI, hz⟩ := id hJ
  rw [hvp]
  have h00 : (tr c L i 0).1 = c 5 i := rfl
  refine n_aload_n C dL_isPlace_28 rfl ?_
  refine n_iconst (x := 4) C dL_isPlace_29 ?_
  refine n_iload C dL_isPlace_30 rfl ?_
  refine n_imul C dL_isPlace_32 ?_
  refine n_iconst (x := 1) C dL_isPlace_33 ?_
  refine n_iadd C dL_isPlace_34 ?_
  refine n_ialdv C (c 5 i) hm (by omega) (by omega) (by omega) (by rw [show (((4 * (i : Int)) + 1)).toNat = 4 * i + 1 by omega]; exact (hmI i (by omega)).2.1) dL_isPlace_35 ?_
  refine n_icmp_ne C 61 dL_isPlace_36 (by decide) (by unfold rg; omega) (by unfold rg; omega) (fun hk => by exfalso; first | omega | exact hk (by omega) | exact (by omega) hk) (fun _ => ?_)
  refine n_aload_n C dL_isPlace_39 rfl ?_
  refine n_iload C dL_isPlace_40 rfl ?_
  refine n_iconst (x := 0) C dL_isPlace_42 ?_
  have hcd : cdBar c (i : Int) 0 = 0 := by
    unfold cdBar
    rw [if_pos (by omega), if_pos (by omega)]
  have hvp : (tr c (LL c) ((i : Int) : Int).toNat ((0 : Int).toNat * LL c)).1 = (tr c L i (0 * L)).1 := by
    rw [hLL, show ((i : Int) : Int).toNat = i by omega, show (0 : Int).toNat = 0 by omega]
  have hpr := tr_rg hw L i (0 * L)
  obtain ⟨fo, hfo⟩ := hJ.obj
  refine n_invV C (s_placeAtBar hst (by unfold rg; omega) (by unfold rg; omega) hJ hcd) ⟨t4_1, t4_4, t1_1, ⟨by decide, by decide⟩, by show _ = some 2; decide +kernel, by decide⟩ t4_2 t4_3 hfo vC5 (by decide) (by omega) (by omega) (Nat.le_of_ble_eq_true rfl) rfl dL_isPlace_43 (fun r σ h' => ?_) (fun _ _ h => h.elim)
  obtain ⟨rfl, hJ⟩ := h'
  obtain ⟨hdis, -, ⟨fm, hmI, hm⟩, ⟨fq, hqI, hq⟩, ⟨fc, hcI, hc⟩, fz, hzI, hz⟩ := id hJ
  rw [hvp]
  have h01 : (tr c L i (0 * L)).1 = c 5 i := by rw [Nat.zero_mul]; rfl
  refine n_aload_n C dL_isPlace_46 rfl ?_
  refine n_iconst (x := 4) C dL_isPlace_47 ?_
  refine n_iload C dL_isPlace_48 rfl ?_
  refine n_imul C dL_isPlace_50 ?_
  refine n_iconst (x := 1) C dL_isPlace_51 ?_
  refine n_iadd C dL_isPlace_52 ?_
  refine n_ialdv C (c 5 i) hm (by omega) (by omega) (by omega) (by rw [show (((4 * (i : Int)) + 1)).toNat = 4 * i + 1 by omega]; exact (hmI i (by omega)).2.1) dL_isPlace_53 ?_
  refine n_icmp_ne C 61 dL_isPlace_54 (by decide) (by unfold rg; omega) (by unfold rg; omega) (fun hk => by exfalso; first | omega | exact hk (by omega) | exact (by omega) hk) (fun _ => ?_)
  refine n_iconst (x := 1) C dL_isPlace_57 ?_
  refine n_goto C 62 dL_isPlace_58 (by decide) ?_
  refine n_istore (lv' := [(8, iv 1), (7, iv R), (6, iv ((tr c L i t).1)), (0, .ref x), (1, .ref am), (2, .ref aq), (3, .ref ac), (4, iv (i : Int)), (5, iv (t : Int))]) C dL_isPlace_62 (by rw [hN]; decide) rfl ?_
  refine n_iload C dL_isPlace_64 rfl ?_
  refine n_aload_n C dL_isPlace_66 rfl ?_
  obtain ⟨fo, hfo⟩ := hJ.obj
  refine n_invV C (s_end hst hJ) ⟨t3_195, t3_198, t1_1, ⟨by decide, by decide⟩, by show _ = some 0; decide +kernel, by decide⟩ t3_196 t3_197 hfo vC5 (by decide) (by omega) (by omega) (Nat.le_of_ble_eq_true rfl) rfl dL_isPlace_67 (fun r σ h' => ?_) (fun _ _ h => h.elim)
  obtain ⟨rfl, hJ⟩ := h'
  obtain ⟨hdis, -, ⟨fm, hmI, hm⟩, ⟨fq, hqI, hq⟩, ⟨fc, hcI, hc⟩, fz, hzI, hz⟩ := id hJ
  rw [hNL]
  have hbt : t / L ≤ t := Nat.div_le_self t L
  obtain ⟨b, hb⟩ : ∃ b : Nat, t / L = b := ⟨_, rfl⟩
  have hbL : b * L ≤ t := by rw [← hb]; exact Nat.div_mul_le_self t L
  have hbn : b ≤ n12 := by
    rw [← hb]
    exact Nat.div_le_of_le_mul (by rw [Nat.mul_comm, hNd]; exact ht)
  rw [hb] at hbt
  have J128 : ∀ (σ : Wd) (hJ : SJ g x am aq ac az c c σ), N Φ 8 48 σ 128 [(8, iv 1), (7, iv R), (6, iv ((tr c L i t).1)), (0, .ref x), (1, .ref am), (2, .ref aq), (3, .ref ac), (4, iv (i : Int)), (5, iv (t : Int))] [] := by
    intro σ hJ
    obtain ⟨hdis, -, ⟨fm, hmI, hm⟩, ⟨fq, hqI, hq⟩, ⟨fc, hcI, hc⟩, fz, hzI, hz⟩ := id hJ
    refine n_iload C dL_isPlace_128 rfl ?_
    refine n_aload_n C dL_isPlace_130 rfl ?_
    refine n_invS C (l_length hst hw hc hcI) ⟨t3_235, t3_237, t1_0, ⟨by decide, by decide⟩, by show _ = some 1; decide +kernel, by decide⟩ t3_236 (by decide) (by omega) (by omega) (Nat.le_of_ble_eq_true rfl) rfl dL_isPlace_131 (fun r σ' h' => ?_) (fun _ _ h => h.elim)
    obtain ⟨rfl, hσ⟩ := h'
    rw [hσ, hL]
    refine n_idivP C dL_isPlace_134 (by unfold rg; omega) (by unfold rg; omega) (by omega) (by omega) ?_
    have hbI : (t : Int) / (L : Int) = (b : Int) := by rw [← hb]; rfl
    rw [hbI]
    refine n_istore (lv' := [(9, iv (b : Int)), (8, iv 1), (7, iv R), (6, iv ((tr c L i t).1)), (0, .ref x), (1, .ref am), (2, .ref aq), (3, .ref ac), (4, iv (i : Int)), (5, iv (t : Int))]) C dL_isPlace_135 (by rw [hN]; decide) rfl ?_
    refine n_iload C dL_isPlace_137 rfl ?_
    refine n_if_eq C 192 dL_isPlace_139 (by decide) (by unfold rg; omega) (fun hk => by exfalso; first | omega | exact hk (by omega) | exact (by omega) hk) (fun _ => ?_)
    refine n_aload_n C dL_isPlace_142 rfl ?_
    refine n_iload C dL_isPlace_143 rfl ?_
    refine n_iload C dL_isPlace_145 rfl ?_
    have hcd : cdBar c (i : Int) (b : Int) = 0 := by
      unfold cdBar
      rw [if_pos (by omega), if_pos (by omega)]
    have hvp : (tr c (LL c) ((i : Int) : Int).toNat (((b : Int) : Int).toNat * LL c)).1 = (tr c L i (b * L)).1 := by
      rw [hLL, show ((i : Int) : Int).toNat = i by omega, show ((b : Int) : Int).toNat = b by omega]
    have hpr := tr_rg hw L i (b * L)
    obtain ⟨fo, hfo⟩ := hJ.obj
    refine n_invV C (s_placeAtBar hst (by unfold rg; omega) (by unfold rg; omega) hJ hcd) ⟨t4_1, t4_4, t1_1, ⟨by decide, by decide⟩, by show _ = some 2; decide +kernel, by decide⟩ t4_2 t4_3 hfo vC5 (by decide) (by omega) (by omega) (Nat.le_of_ble_eq_true rfl) rfl dL_isPlace_147 (fun r σ h' => ?_) (fun _ _ h => h.elim)
    obtain ⟨rfl, hJ⟩ := h'
    obtain ⟨hdis, -, ⟨fm, hmI, hm⟩, ⟨fq, hqI, hq⟩, ⟨fc, hcI, hc⟩, fz, hzI, hz⟩ := id hJ
    rw [hvp]
    refine n_aload_n C dL_isPlace_150 rfl ?_
    refine n_iload C dL_isPlace_151 rfl ?_
    refine n_iload C dL_isPlace_153 rfl ?_
    refine n_aload_n C dL_isPlace_155 rfl ?_
    refine n_invS C (l_length hst hw hc hcI) ⟨t3_235, t3_237, t1_0, ⟨by decide, by decide⟩, by show _ = some 1; decide +kernel, by decide⟩ t3_236 (by decide) (by omega) (by omega) (Nat.le_of_ble_eq_true rfl) rfl dL_isPlace_156 (fun r σ' h' => ?_) (fun _ _ h => h.elim)
    obtain ⟨rfl, hσ⟩ := h'
    rw [hσ, hL]
    refine n_imul C dL_isPlace_159 ?_
    rw [← Int.natCast_mul]
    have hcd : cdPlace c (i : Int) ((b * L : Nat) : Int) = 0 := by
      unfold cdPlace
      rw [hNL, if_pos (by omega), if_pos (by omega)]
    have hvp : vlPlace c (i : Int) ((b * L : Nat) : Int) = (tr c L i (b * L)).1 := by
      unfold vlPlace
      rw [hLL, show ((i : Int) : Int).toNat = i by omega, show (((b * L : Nat) : Int) : Int).toNat = (b * L) by omega]
    have hpr := tr_rg hw L i (b * L)
    obtain ⟨fo, hfo⟩ := hJ.obj
    refine n_invV C (s_place hst (by unfold rg; omega) (by unfold rg; omega) hJ hcd) ⟨t3_207, t3_210, t1_1, ⟨by decide, by decide⟩, by show _ = some 2; decide +kernel, by decide⟩ t3_208 t3_209 hfo vC5 (by decide) (by omega) (by omega) (Nat.le_of_ble_eq_true rfl) rfl dL_isPlace_160 (fun r σ h' => ?_) (fun _ _ h => h.elim)
    obtain ⟨rfl, hJ⟩ := h'
    obtain ⟨hdis, -, ⟨fm, hmI, hm⟩, ⟨fq, hqI, hq⟩, ⟨fc, hcI, hc⟩, fz, hzI, hz⟩ := id hJ
    rw [hvp]
    refine n_icmp_ne C 192 dL_isPlace_163 (by decide) (by unfold rg; omega) (by unfold rg; omega) (fun hk => by exfalso; first | omega | exact hk (by omega) | exact (by omega) hk) (fun _ => ?_)
    refine n_aload_n C dL_isPlace_166 rfl ?_
    refine n_iload C dL_isPlace_167 rfl ?_
    refine n_aload_n C dL_isPlace_169 rfl ?_
    refine n_iconst (x := 2) C dL_isPlace_170 ?_
    refine n_ialdv C (c 12 0) hc (by omega) (by omega) (by omega) hcI.2.2.1 dL_isPlace_171 ?_
    have hcd : cdBar c (i : Int) (c 12 0) = 0 := by
      unfold cdBar
      rw [if_pos (by omega), if_pos (by omega)]
    have hvp : (tr c (LL c) ((i : Int) : Int).toNat (((c 12 0) : Int).toNat * LL c)).1 = (tr c L i (n12 * L)).1 := by
      rw [hLL, show ((i : Int) : Int).toNat = i by omega, show ((c 12 0) : Int).toNat = n12 by omega]
    have hpr := tr_rg hw L i (n12 * L)
    obtain ⟨fo, hfo⟩ := hJ.obj
    refine n_invV C (s_placeAtBar hst (by unfold rg; omega) (by unfold rg; omega) hJ hcd) ⟨t4_1, t4_4, t1_1, ⟨by decide, by decide⟩, by show _ = some 2; decide +kernel, by decide⟩ t4_2 t4_3 hfo vC5 (by decide) (by omega) (by omega) (Nat.le_of_ble_eq_true rfl) rfl dL_isPlace_172 (fun r σ h' => ?_) (fun _ _ h => h.elim)
    obtain ⟨rfl, hJ⟩ := h'
    obtain ⟨hdis, -, ⟨fm, hmI, hm⟩, ⟨fq, hqI, hq⟩, ⟨fc, hcI, hc⟩, fz, hzI, hz⟩ := id hJ
    rw [hvp]
    rw [hNd]
    rw [hNd] at hvp hpr
    refine n_aload_n C dL_isPlace_175 rfl ?_
    refine n_iload C dL_isPlace_176 rfl ?_
    refine n_aload_n C dL_isPlace_178 rfl ?_
    obtain ⟨fo, hfo⟩ := hJ.obj
    refine n_invV C (s_end hst hJ) ⟨t3_195, t3_198, t1_1, ⟨by decide, by decide⟩, by show _ = some 0; decide +kernel, by decide⟩ t3_196 t3_197 hfo vC5 (by decide) (by omega) (by omega) (Nat.le_of_ble_eq_true rfl) rfl dL_isPlace_179 (fun r σ h' => ?_) (fun _ _ h => h.elim)
    obtain ⟨rfl, hJ⟩ := h'
    obtain ⟨hdis, -, ⟨fm, hmI, hm⟩, ⟨fq, hqI, hq⟩, ⟨fc, hcI, hc⟩, fz, hzI, hz⟩ := id hJ
    rw [hNL]
    have hcd : cdPlace c (i : Int) (NN : Int) = 0 := by
      unfold cdPlace
      rw [hNL, if_pos (by omega), if_pos (by omega)]
    have hvp : vlPlace c (i : Int) (NN : Int) = (tr c L i NN).1 := by
      unfold vlPlace
      rw [hLL, show ((i : Int) : Int).toNat = i by omega, show ((NN : Int) : Int).toNat = NN by omega]
    have hpr := tr_rg hw L i NN
    obtain ⟨fo, hfo⟩ := hJ.obj
    refine n_invV C (s_place hst (by unfold rg; omega) (by unfold rg; omega) hJ hcd) ⟨t3_207, t3_210, t1_1, ⟨by decide, by decide⟩, by show _ = some 2; decide +kernel, by decide⟩ t3_208 t3_209 hfo vC5 (by decide) (by omega) (by omega) (Nat.le_of_ble_eq_true rfl) rfl dL_isPlace_182 (fun r σ h' => ?_) (fun _ _ h => h.elim)
    obtain ⟨rfl, hJ⟩ := h'
    obtain ⟨hdis, -, ⟨fm, hmI, hm⟩, ⟨fq, hqI, hq⟩, ⟨fc, hcI, hc⟩, fz, hzI, hz⟩ := id hJ
    rw [hvp]
    refine n_icmp_ne C 192 dL_isPlace_185 (by decide) (by unfold rg; omega) (by unfold rg; omega) (fun hk => by exfalso; first | omega | exact hk (by omega) | exact (by omega) hk) (fun _ => ?_)
    refine n_iconst (x := 1) C dL_isPlace_188 ?_
    refine n_goto C 193 dL_isPlace_189 (by decide) ?_
    exact n_ireturn C Rr (nar_bv (by first | decide | omega)) ⟨rfl, hJ⟩ (by omega) (by omega) dL_isPlace_193
  refine n_icmp_ge C 128 dL_isPlace_70 (by decide) (by unfold rg; omega) (by unfold rg; omega) (fun b70 => ?_) (fun b70 => ?_)
  · refine n_keep (lv' := [(8, iv 1), (7, iv R), (6, iv ((tr c L i t).1)), (0, .ref x), (1, .ref am), (2, .ref aq), (3, .ref ac), (4, iv (i : Int)), (5, iv (t : Int))]) [8, 7, 6, 0, 1, 2, 3, 4, 5] rfl ?_
    exact n_widen (by omega) (by omega) (J128 σ hJ)
  · refine n_iload C dL_isPlace_73 rfl ?_
    refine n_if_eq C 125 dL_isPlace_75 (by decide) (by unfold rg; omega) (fun hk => by exfalso; first | omega | exact hk (by omega) | exact (by omega) hk) (fun _ => ?_)
    refine n_aload_n C dL_isPlace_78 rfl ?_
    refine n_iload C dL_isPlace_79 rfl ?_
    refine n_iload C dL_isPlace_81 rfl ?_
    refine n_iconst (x := 1) C dL_isPlace_83 ?_
    refine n_iadd C dL_isPlace_84 ?_
    have hcd : cdPlace c (i : Int) ((t : Int) + 1) = 0 := by
      unfold cdPlace
      rw [hNL, if_pos (by omega), if_pos (by omega)]
    have hvp : vlPlace c (i : Int) ((t : Int) + 1) = (tr c L i (t + 1)).1 := by
      unfold vlPlace
      rw [hLL, show ((i : Int) : Int).toNat = i by omega, show (((t : Int) + 1) : Int).toNat = (t + 1) by omega]
    have hpr := tr_rg hw L i (t + 1)
    obtain ⟨fo, hfo⟩ := hJ.obj
    refine n_invV C (s_place hst (by unfold rg; omega) (by unfold rg; omega) hJ hcd) ⟨t3_207, t3_210, t1_1, ⟨by decide, by decide⟩, by show _ = some 2; decide +kernel, by decide⟩ t3_208 t3_209 hfo vC5 (by decide) (by omega) (by omega) (Nat.le_of_ble_eq_true rfl) rfl dL_isPlace_85 (fun r σ h' => ?_) (fun _ _ h => h.elim)
    obtain ⟨rfl, hJ⟩ := h'
    obtain ⟨hdis, -, ⟨fm, hmI, hm⟩, ⟨fq, hqI, hq⟩, ⟨fc, hcI, hc⟩, fz, hzI, hz⟩ := id hJ
    rw [hvp]
    refine n_iload C dL_isPlace_88 rfl ?_
    refine n_if_ge C 104 dL_isPlace_90 (by decide) (by unfold rg; omega) (fun b90 => ?_) (fun b90 => ?_)
    · obtain ⟨q, rfl⟩ : ∃ q : Nat, R = q := ⟨R.toNat, by omega⟩
      have hq6 : (q : Int) < c 6 0 := by rcases hrun with z | ⟨q', z1, z2, -⟩ <;> omega
      have wqq := wq q
      rw [aim_q rfl] at hmv
      refine n_aload_n C dL_isPlace_104 rfl ?_
      refine n_iload C dL_isPlace_105 rfl ?_
      refine n_iload C dL_isPlace_107 rfl ?_
      refine n_aload_n C dL_isPlace_109 rfl ?_
      refine n_iload C dL_isPlace_110 rfl ?_
      refine n_invS C (l_target hst hw hq6 hq hqI) ⟨t4_5, t4_7, t1_0, ⟨by decide, by decide⟩, by show _ = some 2; decide +kernel, by decide⟩ t4_6 (by decide) (by omega) (by omega) (Nat.le_of_ble_eq_true rfl) rfl dL_isPlace_112 (fun r σ' h' => ?_) (fun _ _ h => h.elim)
      obtain ⟨rfl, hσ⟩ := h'
      rw [hσ]
      refine n_invS C (l_moved hst hw hi (tr_rg hw L i t) wqq.2.2.2.2.1 hm hmI) ⟨t4_8, t4_10, t1_0, ⟨by decide, by decide⟩, by show _ = some 4; decide +kernel, by decide⟩ t4_9 (by decide) (by omega) (by omega) (Nat.le_of_ble_eq_true rfl) rfl dL_isPlace_115 (fun r σ' h' => ?_) (fun _ _ h => h.elim)
      obtain ⟨rfl, hσ⟩ := h'
      rw [hσ, ← hmv]
      refine n_icmp_ne C 125 dL_isPlace_118 (by decide) (by unfold rg; omega) (by unfold rg; omega) (fun hk => by exfalso; first | omega | exact hk rfl | exact rfl hk) (fun _ => ?_)
      refine n_iconst (x := 1) C dL_isPlace_121 ?_
      refine n_goto C 126 dL_isPlace_122 (by decide) ?_
      refine n_istore (lv' := [(8, iv 1), (7, iv (q : Int)), (6, iv ((tr c L i t).1)), (0, .ref x), (1, .ref am), (2, .ref aq), (3, .ref ac), (4, iv (i : Int)), (5, iv (t : Int))]) C dL_isPlace_126 (by rw [hN]; decide) rfl ?_
      refine n_keep (lv' := [(8, iv 1), (7, iv (q : Int)), (6, iv ((tr c L i t).1)), (0, .ref x), (1, .ref am), (2, .ref aq), (3, .ref ac), (4, iv (i : Int)), (5, iv (t : Int))]) [8, 7, 6, 0, 1, 2, 3, 4, 5] rfl ?_
      exact n_widen (by omega) (by omega) (J128 σ hJ)
    · have hR1 : R = -1 := by omega
      have hp1 := hm1 hR1
      refine n_aload_n C dL_isPlace_93 rfl ?_
      refine n_iconst (x := 4) C dL_isPlace_94 ?_
      refine n_iload C dL_isPlace_95 rfl ?_
      refine n_imul C dL_isPlace_97 ?_
      refine n_iconst (x := 1) C dL_isPlace_98 ?_
      refine n_iadd C dL_isPlace_99 ?_
      refine n_ialdv C (c 5 i) hm (by omega) (by omega) (by omega) (by rw [show (((4 * (i : Int)) + 1)).toNat = 4 * i + 1 by omega]; exact (hmI i (by omega)).2.1) dL_isPlace_100 ?_
      refine n_goto C 118 dL_isPlace_101 (by decide) ?_
      refine n_icmp_ne C 125 dL_isPlace_118 (by decide) (by unfold rg; omega) (by unfold rg; omega) (fun hk => by exfalso; first | omega | exact hk (by omega) | exact (by omega) hk) (fun _ => ?_)
      refine n_iconst (x := 1) C dL_isPlace_121 ?_
      refine n_goto C 126 dL_isPlace_122 (by decide) ?_
      refine n_istore (lv' := [(8, iv 1), (7, iv R), (6, iv ((tr c L i t).1)), (0, .ref x), (1, .ref am), (2, .ref aq), (3, .ref ac), (4, iv (i : Int)), (5, iv (t : Int))]) C dL_isPlace_126 (by rw [hN]; decide) rfl ?_
      refine n_keep (lv' := [(8, iv 1), (7, iv R), (6, iv ((tr c L i t).1)), (0, .ref x), (1, .ref am), (2, .ref aq), (3, .ref ac), (4, iv (i : Int)), (5, iv (t : Int))]) [8, 7, 6, 0, 1, 2, 3, 4, 5] rfl ?_
      exact n_widen (by omega) (by omega) (J128 σ hJ)
set_option maxRecDepth 100000 in
set_option maxHeartbeats 4000000 in
theorem l_meeters {g : Gx} (hst : g.1.stackTraces = false) {x am aq ac az : Nat} {c : Tb} {σ : Wd} (hJ : SJ g x am aq ac az c c σ) {t : Nat} (ht : (t : Int) ≤ c 12 0 * lenB c (c 14 0))  : CT g yL_meeters cL_meeters 8 (some .int) 5 144 864 [.ref x, .ref am, .ref ac, iv (t : Int)] σ (fun r σ' => r = some (iv (prM c (LL c) t)) ∧ SJ g x am aq ac az c c σ') (fun _ _ => False) := by
  refine CT.of hst (by decide +kernel) (Nat.le_of_ble_eq_true rfl) (fun Φ C Rr hY hN => ?_)
  show N Φ 0 0 σ 0 [(0, .ref x), (1, .ref am), (2, .ref ac), (3, iv (t : Int))] []
  obtain ⟨hdis, -, ⟨fm, hmI, hm⟩, ⟨fq, hqI, hq⟩, ⟨fc, hcI, hc⟩, fz, hzI, hz⟩ := id hJ
  have hw := hJ.wf
  obtain ⟨w0, w6, w12, w13, w14, w15, w16, wm, wq, ww⟩ := id hw
  have hLr := lenB_rg hw (T := c 14 0) w14.1
  obtain ⟨L, hL⟩ : ∃ L : Nat, lenB c (c 14 0) = L := ⟨(lenB c (c 14 0)).toNat, by omega⟩
  rw [hL] at hLr
  have hLL : LL c = L := by unfold LL; omega
  obtain ⟨n12, h12⟩ : ∃ n : Nat, c 12 0 = n := ⟨(c 12 0).toNat, by omega⟩
  obtain ⟨n0, hn0⟩ : ∃ n : Nat, c 0 0 = n := ⟨(c 0 0).toNat, by omega⟩
  obtain ⟨n6, hn6⟩ : ∃ n : Nat, c 6 0 = n := ⟨(c 6 0).toNat, by omega⟩
  obtain ⟨NN, hNd⟩ : ∃ NN : Nat, n12 * L = NN := ⟨_, rfl⟩
  have hNN : NN ≤ 2400 := by
    rw [← hNd]
    exact Nat.mul_le_mul (show n12 ≤ 30 by omega) (show L ≤ 80 by omega)
  have hNL : c 12 0 * lenB c (c 14 0) = (NN : Int) := by rw [h12, hL, ← Int.natCast_mul, hNd]
  have hNT : NT c L = NN := by
    unfold NT
    rw [show (c 12 0).toNat = n12 by omega]
    exact hNd
  replace ht : t ≤ NN := by omega
  obtain ⟨P, hP⟩ : ∃ P : Nat → Int, (fun k => (tr c L k t).1) = P := ⟨_, rfl⟩
  have hPk : ∀ k : Nat, (tr c L k t).1 = P k := fun k => by rw [← hP]
  have hPr : ∀ k : Nat, 0 ≤ P k ∧ P k ≤ 359 := fun k => by rw [← hPk]; exact tr_rg hw L k t
  have hpm : prM c (LL c) t = lpK c P (-1) n0 := by
    unfold prM
    rw [hLL, hP, show (c 0 0).toNat = n0 by omega]
  refine n_iconst (x := 0) C dL_meeters_0 ?_
  refine n_istore (lv' := [(4, iv 0), (0, .ref x), (1, .ref am), (2, .ref ac), (3, iv (t : Int))]) C dL_meeters_1 (by rw [hN]; decide) rfl ?_
  have LP : ∀ (fu : Nat) (k : Nat) (σ : Wd) (hJ : SJ g x am aq ac az c c σ) (hK : lpK c P (-1) k = -1) (hk : k ≤ n0) (hf : n0 + 1 ≤ k + fu), N Φ (24 * k) (144 * k) σ 3 [(4, iv (k : Int)), (0, .ref x), (1, .ref am), (2, .ref ac), (3, iv (t : Int))] [] := by
    intro fu
    induction fu with
    | zero =>
      intro k σ hJ hK hk hf
      omega
    | succ fu ih =>
      intro k σ hJ hK hk hf
      obtain ⟨hdis, -, ⟨fm, hmI, hm⟩, ⟨fq, hqI, hq⟩, ⟨fc, hcI, hc⟩, fz, hzI, hz⟩ := id hJ
      refine n_iload C dL_meeters_3 rfl ?_
      refine n_aload_n C dL_meeters_5 rfl ?_
      refine n_iconst (x := 0) C dL_meeters_6 ?_
      refine n_ialdv C (c 0 0) hc (by omega) (by omega) (by omega) hcI.1 dL_meeters_7 ?_
      refine n_icmp_ge C 126 dL_meeters_8 (by decide) (by unfold rg; omega) (by unfold rg; omega) (fun b8 => ?_) (fun b8 => ?_)
      · refine n_iconst (x := (-1)) C dL_meeters_126 ?_
        exact n_ireturn C Rr rfl ⟨by rw [hpm, show n0 = k by omega, hK], hJ⟩ (by omega) (by omega) dL_meeters_127
      · refine n_iload C dL_meeters_11 rfl ?_
        refine n_iconst (x := 1) C dL_meeters_13 ?_
        refine n_iadd C dL_meeters_14 ?_
        refine n_istore (lv' := [(5, iv ((k : Int) + 1)), (4, iv (k : Int)), (0, .ref x), (1, .ref am), (2, .ref ac), (3, iv (t : Int))]) C dL_meeters_15 (by rw [hN]; decide) rfl ?_
        have e5 : ((k : Int) + 1) = ((k + 1 + 0 : Nat) : Int) := by omega
        rw [e5]
        have LP2 : ∀ (fuX : Nat) (m : Nat) (σ : Wd) (hJ : SJ g x am aq ac az c c σ) (hM : lpJ c P k (-1) m = -1) (hk2 : k + 1 + m ≤ n0) (hf2 : n0 + 1 ≤ k + 1 + m + fuX), N Φ (24 * k + 4 * (k + 1 + m)) (144 * k + 24 * (k + 1 + m)) σ 17 [(5, iv ((k + 1 + m : Nat) : Int)), (4, iv (k : Int)), (0, .ref x), (1, .ref am), (2, .ref ac), (3, iv (t : Int))] [] := by
          intro fuX
          induction fuX with
          | zero =>
            intro m σ hJ hM hk2 hf2
            omega
          | succ fuX ih2 =>
            intro m σ hJ hM hk2 hf2
            obtain ⟨hdis, -, ⟨fm, hmI, hm⟩, ⟨fq, hqI, hq⟩, ⟨fc, hcI, hc⟩, fz, hzI, hz⟩ := id hJ
            refine n_iload C dL_meeters_17 rfl ?_
            refine n_aload_n C dL_meeters_19 rfl ?_
            refine n_iconst (x := 0) C dL_meeters_20 ?_
            refine n_ialdv C (c 0 0) hc (by omega) (by omega) (by omega) hcI.1 dL_meeters_21 ?_
            refine n_icmp_ge C 120 dL_meeters_22 (by decide) (by unfold rg; omega) (by unfold rg; omega) (fun b22 => ?_) (fun b22 => ?_)
            · refine n_iinc (lv' := [(4, iv ((k : Int) + 1)), (5, iv ((k + 1 + m : Nat) : Int)), (0, .ref x), (1, .ref am), (2, .ref ac), (3, iv (t : Int))]) C dL_meeters_120 rfl (by rw [hN]; decide) rfl ?_
              refine n_goto C 3 dL_meeters_123 (by decide) ?_
              refine n_keep (lv' := [(4, iv ((k : Int) + 1)), (0, .ref x), (1, .ref am), (2, .ref ac), (3, iv (t : Int))]) [4, 0, 1, 2, 3] rfl ?_
              have hm9 : k + 1 + m = n0 := by omega
              have hK1 : lpK c P (-1) (k + 1) = -1 := by
                show lpJ c P k (lpK c P (-1) k) ((c 0 0).toNat - (k + 1)) = -1
                rw [hK, show (c 0 0).toNat - (k + 1) = m by omega]
                exact hM
              exact n_widen (k' := 24 * (k + 1)) (n' := 144 * (k + 1)) (by omega) (by omega) (ih (k + 1) σ hJ hK1 (by omega) (by omega))
            · have htk := tkL_at hw k
              have htj := tkL_at hw (k + 1 + m)
              have wk := wm k
              have wj := wm (k + 1 + m)
              have hmt := mtB_eq (c := c) (P := P) (k := k) (j := k + 1 + m) rfl rfl
              refine n_aload_n C dL_meeters_25 rfl ?_
              refine n_iconst (x := 4) C dL_meeters_26 ?_
              refine n_iload C dL_meeters_27 rfl ?_
              refine n_imul C dL_meeters_29 ?_
              refine n_ialdv C (tkL c k) hm (by omega) (by omega) (by omega) (by rw [show ((4 * (k : Int))).toNat = 4 * k by omega]; exact (hmI k (by omega)).1) dL_meeters_30 ?_
              refine n_iconst (x := 3) C dL_meeters_31 ?_
              refine n_icmp_ge C 114 dL_meeters_32 (by decide) (by unfold rg; omega) (by unfold rg; omega) (fun b32 => ?_) (fun b32 => ?_)
              · refine n_iinc (lv' := [(5, iv (((k + 1 + m : Nat) : Int) + 1)), (4, iv (k : Int)), (0, .ref x), (1, .ref am), (2, .ref ac), (3, iv (t : Int))]) C dL_meeters_114 rfl (by rw [hN]; decide) rfl ?_
                refine n_goto C 17 dL_meeters_117 (by decide) ?_
                refine n_keep (lv' := [(5, iv (((k + 1 + m : Nat) : Int) + 1)), (4, iv (k : Int)), (0, .ref x), (1, .ref am), (2, .ref ac), (3, iv (t : Int))]) [5, 4, 0, 1, 2, 3] rfl ?_
                exact n_widen (k' := 24 * k + 4 * (k + 1 + (m + 1))) (n' := 144 * k + 24 * (k + 1 + (m + 1))) (by omega) (by omega) (ih2 (m + 1) σ hJ (lpJ_no hM (mt hmt.mp (by omega))) (by omega) (by omega))
              · refine n_aload_n C dL_meeters_35 rfl ?_
                refine n_iconst (x := 4) C dL_meeters_36 ?_
                refine n_iload C dL_meeters_37 rfl ?_
                refine n_imul C dL_meeters_39 ?_
                refine n_ialdv C (tkL c k) hm (by omega) (by omega) (by omega) (by rw [show ((4 * (k : Int))).toNat = 4 * k by omega]; exact (hmI k (by omega)).1) dL_meeters_40 ?_
                refine n_aload_n C dL_meeters_41 rfl ?_
                refine n_iconst (x := 4) C dL_meeters_42 ?_
                refine n_iload C dL_meeters_43 rfl ?_
                refine n_imul C dL_meeters_45 ?_
                refine n_ialdv C (tkL c (k + 1 + m)) hm (by omega) (by omega) (by omega) (by rw [show ((4 * ((k + 1 + m : Nat) : Int))).toNat = 4 * (k + 1 + m) by omega]; exact (hmI (k + 1 + m) (by omega)).1) dL_meeters_46 ?_
                refine n_icmp_ne C 114 dL_meeters_47 (by decide) (by unfold rg; omega) (by unfold rg; omega) (fun b47 => ?_) (fun b47 => ?_)
                · refine n_iinc (lv' := [(5, iv (((k + 1 + m : Nat) : Int) + 1)), (4, iv (k : Int)), (0, .ref x), (1, .ref am), (2, .ref ac), (3, iv (t : Int))]) C dL_meeters_114 rfl (by rw [hN]; decide) rfl ?_
                  refine n_goto C 17 dL_meeters_117 (by decide) ?_
                  refine n_keep (lv' := [(5, iv (((k + 1 + m : Nat) : Int) + 1)), (4, iv (k : Int)), (0, .ref x), (1, .ref am), (2, .ref ac), (3, iv (t : Int))]) [5, 4, 0, 1, 2, 3] rfl ?_
                  exact n_widen (k' := 24 * k + 4 * (k + 1 + (m + 1))) (n' := 144 * k + 24 * (k + 1 + (m + 1))) (by omega) (by omega) (ih2 (m + 1) σ hJ (lpJ_no hM (mt hmt.mp (by omega))) (by omega) (by omega))
                · refine n_aload_n C dL_meeters_50 rfl ?_
                  refine n_iload C dL_meeters_51 rfl ?_
                  refine n_iload_n C dL_meeters_53 rfl ?_
                  have hcd : cdPlace c (k : Int) (t : Int) = 0 := by
                    unfold cdPlace
                    rw [hNL, if_pos (by omega), if_pos (by omega)]
                  have hvp : vlPlace c (k : Int) (t : Int) = (tr c L k t).1 := by
                    unfold vlPlace
                    rw [hLL, show ((k : Int) : Int).toNat = k by omega, show ((t : Int) : Int).toNat = t by omega]
                  have hpr := tr_rg hw L k t
                  obtain ⟨fo, hfo⟩ := hJ.obj
                  refine n_invV C (s_place hst (by unfold rg; omega) (by unfold rg; omega) hJ hcd) ⟨t3_207, t3_210, t1_1, ⟨by decide, by decide⟩, by show _ = some 2; decide +kernel, by decide⟩ t3_208 t3_209 hfo vC5 (by decide) (by omega) (by omega) (Nat.le_of_ble_eq_true rfl) rfl dL_meeters_54 (fun r σ h' => ?_) (fun _ _ h => h.elim)
                  obtain ⟨rfl, hJ⟩ := h'
                  obtain ⟨hdis, -, ⟨fm, hmI, hm⟩, ⟨fq, hqI, hq⟩, ⟨fc, hcI, hc⟩, fz, hzI, hz⟩ := id hJ
                  rw [hvp]
                  rw [hPk k]
                  have hpk_1 := hPr k
                  refine n_aload_n C dL_meeters_57 rfl ?_
                  refine n_iload C dL_meeters_58 rfl ?_
                  refine n_iload_n C dL_meeters_60 rfl ?_
                  have hcd : cdPlace c ((k + 1 + m : Nat) : Int) (t : Int) = 0 := by
                    unfold cdPlace
                    rw [hNL, if_pos (by omega), if_pos (by omega)]
                  have hvp : vlPlace c ((k + 1 + m : Nat) : Int) (t : Int) = (tr c L (k + 1 + m) t).1 := by
                    unfold vlPlace
                    rw [hLL, show (((k + 1 + m : Nat) : Int) : Int).toNat = (k + 1 + m) by omega, show ((t : Int) : Int).toNat = t by omega]
                  have hpr := tr_rg hw L (k + 1 + m) t
                  obtain ⟨fo, hfo⟩ := hJ.obj
                  refine n_invV C (s_place hst (by unfold rg; omega) (by unfold rg; omega) hJ hcd) ⟨t3_207, t3_210, t1_1, ⟨by decide, by decide⟩, by show _ = some 2; decide +kernel, by decide⟩ t3_208 t3_209 hfo vC5 (by decide) (by omega) (by omega) (Nat.le_of_ble_eq_true rfl) rfl dL_meeters_61 (fun r σ h' => ?_) (fun _ _ h => h.elim)
                  obtain ⟨rfl, hJ⟩ := h'
                  obtain ⟨hdis, -, ⟨fm, hmI, hm⟩, ⟨fq, hqI, hq⟩, ⟨fc, hcI, hc⟩, fz, hzI, hz⟩ := id hJ
                  rw [hvp]
                  rw [hPk (k + 1 + m)]
                  have hpk_11 := hPr (k + 1 + m)
                  refine n_isub C dL_meeters_64 ?_
                  refine n_istore (lv' := [(6, iv ((P k) - (P (k + 1 + m)))), (5, iv ((k + 1 + m : Nat) : Int)), (4, iv (k : Int)), (0, .ref x), (1, .ref am), (2, .ref ac), (3, iv (t : Int))]) C dL_meeters_65 (by rw [hN]; decide) rfl ?_
                  refine n_aload_n C dL_meeters_67 rfl ?_
                  refine n_iconst (x := 4) C dL_meeters_68 ?_
                  refine n_iload C dL_meeters_69 rfl ?_
                  refine n_imul C dL_meeters_71 ?_
                  refine n_iconst (x := 2) C dL_meeters_72 ?_
                  refine n_iadd C dL_meeters_73 ?_
                  refine n_ialdv C (c 3 k) hm (by omega) (by omega) (by omega) (by rw [show (((4 * (k : Int)) + 2)).toNat = 4 * k + 2 by omega]; exact (hmI k (by omega)).2.2.2 (by omega)) dL_meeters_74 ?_
                  refine n_aload_n C dL_meeters_75 rfl ?_
                  refine n_iconst (x := 4) C dL_meeters_76 ?_
                  refine n_iload C dL_meeters_77 rfl ?_
                  refine n_imul C dL_meeters_79 ?_
                  refine n_iconst (x := 2) C dL_meeters_80 ?_
                  refine n_iadd C dL_meeters_81 ?_
                  refine n_ialdv C (c 3 (k + 1 + m)) hm (by omega) (by omega) (by omega) (by rw [show (((4 * ((k + 1 + m : Nat) : Int)) + 2)).toNat = 4 * (k + 1 + m) + 2 by omega]; exact (hmI (k + 1 + m) (by omega)).2.2.2 (by omega)) dL_meeters_82 ?_
                  refine n_iadd C dL_meeters_83 ?_
                  refine n_istore (lv' := [(7, iv ((c 3 k) + (c 3 (k + 1 + m)))), (6, iv ((P k) - (P (k + 1 + m)))), (5, iv ((k + 1 + m : Nat) : Int)), (4, iv (k : Int)), (0, .ref x), (1, .ref am), (2, .ref ac), (3, iv (t : Int))]) C dL_meeters_84 (by rw [hN]; decide) rfl ?_
                  refine n_iconst (x := 2) C dL_meeters_86 ?_
                  refine n_iload C dL_meeters_87 rfl ?_
                  refine n_imul C dL_meeters_89 ?_
                  refine n_iload C dL_meeters_90 rfl ?_
                  refine n_icmp_ge C 114 dL_meeters_92 (by decide) (by unfold rg; omega) (by unfold rg; omega) (fun b92 => ?_) (fun b92 => ?_)
                  · refine n_iinc (lv' := [(5, iv (((k + 1 + m : Nat) : Int) + 1)), (7, iv ((c 3 k) + (c 3 (k + 1 + m)))), (6, iv ((P k) - (P (k + 1 + m)))), (4, iv (k : Int)), (0, .ref x), (1, .ref am), (2, .ref ac), (3, iv (t : Int))]) C dL_meeters_114 rfl (by rw [hN]; decide) rfl ?_
                    refine n_goto C 17 dL_meeters_117 (by decide) ?_
                    refine n_keep (lv' := [(5, iv (((k + 1 + m : Nat) : Int) + 1)), (4, iv (k : Int)), (0, .ref x), (1, .ref am), (2, .ref ac), (3, iv (t : Int))]) [5, 4, 0, 1, 2, 3] rfl ?_
                    exact n_widen (k' := 24 * k + 4 * (k + 1 + (m + 1))) (n' := 144 * k + 24 * (k + 1 + (m + 1))) (by omega) (by omega) (ih2 (m + 1) σ hJ (lpJ_no hM (mt hmt.mp (by omega))) (by omega) (by omega))
                  · refine n_bipush (x := (-2)) C dL_meeters_95 (by decide) ?_
                    refine n_iload C dL_meeters_97 rfl ?_
                    refine n_imul C dL_meeters_99 ?_
                    refine n_iload C dL_meeters_100 rfl ?_
                    refine n_icmp_ge C 114 dL_meeters_102 (by decide) (by unfold rg; omega) (by unfold rg; omega) (fun b102 => ?_) (fun b102 => ?_)
                    · refine n_iinc (lv' := [(5, iv (((k + 1 + m : Nat) : Int) + 1)), (7, iv ((c 3 k) + (c 3 (k + 1 + m)))), (6, iv ((P k) - (P (k + 1 + m)))), (4, iv (k : Int)), (0, .ref x), (1, .ref am), (2, .ref ac), (3, iv (t : Int))]) C dL_meeters_114 rfl (by rw [hN]; decide) rfl ?_
                      refine n_goto C 17 dL_meeters_117 (by decide) ?_
                      refine n_keep (lv' := [(5, iv (((k + 1 + m : Nat) : Int) + 1)), (4, iv (k : Int)), (0, .ref x), (1, .ref am), (2, .ref ac), (3, iv (t : Int))]) [5, 4, 0, 1, 2, 3] rfl ?_
                      exact n_widen (k' := 24 * k + 4 * (k + 1 + (m + 1))) (n' := 144 * k + 24 * (k + 1 + (m + 1))) (by omega) (by omega) (ih2 (m + 1) σ hJ (lpJ_no hM (mt hmt.mp (by omega))) (by omega) (by omega))
                    · refine n_bipush (x := 10) C dL_meeters_105 (by decide) ?_
                      refine n_iload C dL_meeters_107 rfl ?_
                      refine n_imul C dL_meeters_109 ?_
                      refine n_iload C dL_meeters_110 rfl ?_
                      refine n_iadd C dL_meeters_112 ?_
                      exact n_ireturn C Rr rfl ⟨by rw [hpm, lp_found (by omega) hK hM (hmt.mpr (by omega)) (by omega)], hJ⟩ (by omega) (by omega) dL_meeters_113
        exact n_widen (k' := 24 * k + 4 * (k + 1 + 0)) (n' := 144 * k + 24 * (k + 1 + 0)) (by omega) (by omega) (LP2 8 0 σ hJ rfl (by omega) (by omega))
  refine n_keep (lv' := [(4, iv 0), (0, .ref x), (1, .ref am), (2, .ref ac), (3, iv (t : Int))]) [4, 0, 1, 2, 3] rfl ?_
  exact LP 8 0 σ hJ rfl (by omega) (by omega)
set_option maxRecDepth 100000 in
set_option maxHeartbeats 4000000 in
theorem l_areMeetings {g : Gx} (hst : g.1.stackTraces = false) {x am aq ac az : Nat} {c : Tb} {σ : Wd} (hJ : SJ g x am aq ac az c c σ) {u : Int} (hu : 0 ≤ u ∧ u < 2147483648)  : CT g yL_areMeetings cL_areMeetings 5 (some .boolean) 6 432 2592 [.ref x, .ref am, .ref ac, iv u] σ (fun r σ' => r = some (iv 1) ∧ SJ g x am aq ac az c c σ') (fun _ _ => False) := by
  refine CT.of hst (by decide +kernel) (Nat.le_of_ble_eq_true rfl) (fun Φ C Rr hY hN => ?_)
  show N Φ 0 0 σ 0 [(0, .ref x), (1, .ref am), (2, .ref ac), (3, iv u)] []
  obtain ⟨hdis, -, ⟨fm, hmI, hm⟩, ⟨fq, hqI, hq⟩, ⟨fc, hcI, hc⟩, fz, hzI, hz⟩ := id hJ
  have hw := hJ.wf
  obtain ⟨w0, w6, w12, w13, w14, w15, w16, wm, wq, ww⟩ := id hw
  have hLr := lenB_rg hw (T := c 14 0) w14.1
  obtain ⟨L, hL⟩ : ∃ L : Nat, lenB c (c 14 0) = L := ⟨(lenB c (c 14 0)).toNat, by omega⟩
  rw [hL] at hLr
  have hLL : LL c = L := by unfold LL; omega
  obtain ⟨n12, h12⟩ : ∃ n : Nat, c 12 0 = n := ⟨(c 12 0).toNat, by omega⟩
  obtain ⟨n0, hn0⟩ : ∃ n : Nat, c 0 0 = n := ⟨(c 0 0).toNat, by omega⟩
  obtain ⟨n6, hn6⟩ : ∃ n : Nat, c 6 0 = n := ⟨(c 6 0).toNat, by omega⟩
  obtain ⟨NN, hNd⟩ : ∃ NN : Nat, n12 * L = NN := ⟨_, rfl⟩
  have hNN : NN ≤ 2400 := by
    rw [← hNd]
    exact Nat.mul_le_mul (show n12 ≤ 30 by omega) (show L ≤ 80 by omega)
  have hNL : c 12 0 * lenB c (c 14 0) = (NN : Int) := by rw [h12, hL, ← Int.natCast_mul, hNd]
  have hNT : NT c L = NN := by
    unfold NT
    rw [show (c 12 0).toNat = n12 by omega]
    exact hNd
  refine n_aload_n C dL_areMeetings_0 rfl ?_
  obtain ⟨fo, hfo⟩ := hJ.obj
  refine n_invV C (s_meeting hst hJ) ⟨t4_59, t4_62, t1_1, ⟨by decide, by decide⟩, by show _ = some 0; decide +kernel, by decide⟩ t4_60 t4_61 hfo vC5 (by decide) (by omega) (by omega) (Nat.le_of_ble_eq_true rfl) rfl dL_areMeetings_1 (fun r σ h' => ?_) (fun _ _ h => h.elim)
  obtain ⟨rfl, hJ⟩ := h'
  obtain ⟨hdis, -, ⟨fm, hmI, hm⟩, ⟨fq, hqI, hq⟩, ⟨fc, hcI, hc⟩, fz, hzI, hz⟩ := id hJ
  rw [hLL, hNT]
  have hmr := mtP_rg (c := c) L w0.2 (NN + 1)
  rcases mt_at (c := c) (L := L) (NN + 1) with ⟨e1, e2, e3⟩ | ⟨t0, h1, e1, e2, e4, e3⟩
  · rw [e1]
    refine n_istore (lv' := [(4, iv (-1)), (0, .ref x), (1, .ref am), (2, .ref ac), (3, iv u)]) C dL_areMeetings_4 (by rw [hN]; decide) rfl ?_
    refine n_iload C dL_areMeetings_6 rfl ?_
    refine n_iconst (x := (-1)) C dL_areMeetings_8 ?_
    refine n_icmp_ne C 58 dL_areMeetings_9 (by decide) (by unfold rg; omega) (by unfold rg; omega) (fun hk => by exfalso; first | omega | exact hk (by omega) | exact (by omega) hk) (fun _ => ?_)
    refine n_aload_n C dL_areMeetings_12 rfl ?_
    obtain ⟨fo, hfo⟩ := hJ.obj
    refine n_invV C (s_meeters hst hJ) ⟨t4_79, t4_82, t1_1, ⟨by decide, by decide⟩, by show _ = some 0; decide +kernel, by decide⟩ t4_80 t4_81 hfo vC5 (by decide) (by omega) (by omega) (Nat.le_of_ble_eq_true rfl) rfl dL_areMeetings_13 (fun r σ h' => ?_) (fun _ _ h => h.elim)
    obtain ⟨rfl, hJ⟩ := h'
    obtain ⟨hdis, -, ⟨fm, hmI, hm⟩, ⟨fq, hqI, hq⟩, ⟨fc, hcI, hc⟩, fz, hzI, hz⟩ := id hJ
    rw [hLL, hNT, e2]
    refine n_iconst (x := (-1)) C dL_areMeetings_16 ?_
    refine n_icmp_ne C 56 dL_areMeetings_17 (by decide) (by unfold rg; omega) (by unfold rg; omega) (fun hk => by exfalso; first | omega | exact hk (by omega) | exact (by omega) hk) (fun _ => ?_)
    refine n_aload_n C dL_areMeetings_20 rfl ?_
    refine n_aload_n C dL_areMeetings_21 rfl ?_
    refine n_aload_n C dL_areMeetings_22 rfl ?_
    refine n_iload_n C dL_areMeetings_23 rfl ?_
    refine n_aload_n C dL_areMeetings_24 rfl ?_
    obtain ⟨fo, hfo⟩ := hJ.obj
    refine n_invV C (s_end hst hJ) ⟨t3_195, t3_198, t1_1, ⟨by decide, by decide⟩, by show _ = some 0; decide +kernel, by decide⟩ t3_196 t3_197 hfo vC5 (by decide) (by omega) (by omega) (Nat.le_of_ble_eq_true rfl) rfl dL_areMeetings_25 (fun r σ h' => ?_) (fun _ _ h => h.elim)
    obtain ⟨rfl, hJ⟩ := h'
    obtain ⟨hdis, -, ⟨fm, hmI, hm⟩, ⟨fq, hqI, hq⟩, ⟨fc, hcI, hc⟩, fz, hzI, hz⟩ := id hJ
    rw [hNL]
    refine n_iconst (x := 1) C dL_areMeetings_28 ?_
    refine n_iadd C dL_areMeetings_29 ?_
    refine n_iremP C dL_areMeetings_30 (by unfold rg; omega) (by unfold rg; omega) (by omega) (by omega) ?_
    obtain ⟨tt, htt⟩ : ∃ tt : Nat, (u % ((NN : Int) + 1)) = tt := ⟨((u % ((NN : Int) + 1))).toNat, by have := Int.emod_nonneg u (show ((NN : Int) + 1) ≠ 0 by omega); omega⟩
    have htl : (u % ((NN : Int) + 1)) < ((NN : Int) + 1) := Int.emod_lt_of_pos _ (by omega)
    rw [htt] at htl ⊢
    refine n_invS C (l_meeters hst hJ (t := tt) (by rw [hNL]; omega)) ⟨t4_83, t4_85, t1_0, ⟨by decide, by decide⟩, by show _ = some 4; decide +kernel, by decide⟩ t4_84 (by decide) (by omega) (by omega) (Nat.le_of_ble_eq_true rfl) rfl dL_areMeetings_31 (fun r σ h' => ?_) (fun _ _ h => h.elim)
    obtain ⟨rfl, hJ⟩ := h'
    obtain ⟨hdis, -, ⟨fm, hmI, hm⟩, ⟨fq, hqI, hq⟩, ⟨fc, hcI, hc⟩, fz, hzI, hz⟩ := id hJ
    rw [hLL, e3 tt (by omega)]
    refine n_iconst (x := (-1)) C dL_areMeetings_34 ?_
    refine n_icmp_ne C 56 dL_areMeetings_35 (by decide) (by unfold rg; omega) (by unfold rg; omega) (fun hk => by exfalso; first | omega | exact hk (by omega) | exact (by omega) hk) (fun _ => ?_)
    refine n_aload_n C dL_areMeetings_38 rfl ?_
    refine n_aload_n C dL_areMeetings_39 rfl ?_
    refine n_aload_n C dL_areMeetings_40 rfl ?_
    refine n_aload_n C dL_areMeetings_41 rfl ?_
    obtain ⟨fo, hfo⟩ := hJ.obj
    refine n_invV C (s_end hst hJ) ⟨t3_195, t3_198, t1_1, ⟨by decide, by decide⟩, by show _ = some 0; decide +kernel, by decide⟩ t3_196 t3_197 hfo vC5 (by decide) (by omega) (by omega) (Nat.le_of_ble_eq_true rfl) rfl dL_areMeetings_42 (fun r σ h' => ?_) (fun _ _ h => h.elim)
    obtain ⟨rfl, hJ⟩ := h'
    obtain ⟨hdis, -, ⟨fm, hmI, hm⟩, ⟨fq, hqI, hq⟩, ⟨fc, hcI, hc⟩, fz, hzI, hz⟩ := id hJ
    rw [hNL]
    refine n_invS C (l_meeters hst hJ (t := NN) (by rw [hNL]; omega)) ⟨t4_83, t4_85, t1_0, ⟨by decide, by decide⟩, by show _ = some 4; decide +kernel, by decide⟩ t4_84 (by decide) (by omega) (by omega) (Nat.le_of_ble_eq_true rfl) rfl dL_areMeetings_45 (fun r σ h' => ?_) (fun _ _ h => h.elim)
    obtain ⟨rfl, hJ⟩ := h'
    obtain ⟨hdis, -, ⟨fm, hmI, hm⟩, ⟨fq, hqI, hq⟩, ⟨fc, hcI, hc⟩, fz, hzI, hz⟩ := id hJ
    rw [hLL, e3 NN (by omega)]
    refine n_iconst (x := (-1)) C dL_areMeetings_48 ?_
    refine n_icmp_ne C 56 dL_areMeetings_49 (by decide) (by unfold rg; omega) (by unfold rg; omega) (fun hk => by exfalso; first | omega | exact hk (by omega) | exact (by omega) hk) (fun _ => ?_)
    refine n_iconst (x := 1) C dL_areMeetings_52 ?_
    refine n_goto C 57 dL_areMeetings_53 (by decide) ?_
    exact n_ireturn C Rr (nar_bv (by first | decide | omega)) ⟨rfl, hJ⟩ (by omega) (by omega) dL_areMeetings_57
  · rw [e1]
    refine n_istore (lv' := [(4, iv (t0 : Int)), (0, .ref x), (1, .ref am), (2, .ref ac), (3, iv u)]) C dL_areMeetings_4 (by rw [hN]; decide) rfl ?_
    refine n_iload C dL_areMeetings_6 rfl ?_
    refine n_iconst (x := (-1)) C dL_areMeetings_8 ?_
    refine n_icmp_ne C 58 dL_areMeetings_9 (by decide) (by unfold rg; omega) (by unfold rg; omega) (fun _ => ?_) (fun hk => by exfalso; first | omega | exact hk (by omega) | exact (by omega) hk)
    have hp2 := hmr.2
    rw [e2] at hp2
    obtain ⟨pr, hpr0⟩ : ∃ pr : Int, prM c L t0 = pr := ⟨_, rfl⟩
    rw [hpr0] at e2 e4 hp2
    refine n_iload C dL_areMeetings_58 rfl ?_
    refine n_aload_n C dL_areMeetings_60 rfl ?_
    obtain ⟨fo, hfo⟩ := hJ.obj
    refine n_invV C (s_end hst hJ) ⟨t3_195, t3_198, t1_1, ⟨by decide, by decide⟩, by show _ = some 0; decide +kernel, by decide⟩ t3_196 t3_197 hfo vC5 (by decide) (by omega) (by omega) (Nat.le_of_ble_eq_true rfl) rfl dL_areMeetings_61 (fun r σ h' => ?_) (fun _ _ h => h.elim)
    obtain ⟨rfl, hJ⟩ := h'
    obtain ⟨hdis, -, ⟨fm, hmI, hm⟩, ⟨fq, hqI, hq⟩, ⟨fc, hcI, hc⟩, fz, hzI, hz⟩ := id hJ
    rw [hNL]
    refine n_icmp_gt C 126 dL_areMeetings_64 (by decide) (by unfold rg; omega) (by unfold rg; omega) (fun hk => by exfalso; first | omega | exact hk (by omega) | exact (by omega) hk) (fun _ => ?_)
    refine n_aload_n C dL_areMeetings_67 rfl ?_
    obtain ⟨fo, hfo⟩ := hJ.obj
    refine n_invV C (s_meeters hst hJ) ⟨t4_79, t4_82, t1_1, ⟨by decide, by decide⟩, by show _ = some 0; decide +kernel, by decide⟩ t4_80 t4_81 hfo vC5 (by decide) (by omega) (by omega) (Nat.le_of_ble_eq_true rfl) rfl dL_areMeetings_68 (fun r σ h' => ?_) (fun _ _ h => h.elim)
    obtain ⟨rfl, hJ⟩ := h'
    obtain ⟨hdis, -, ⟨fm, hmI, hm⟩, ⟨fq, hqI, hq⟩, ⟨fc, hcI, hc⟩, fz, hzI, hz⟩ := id hJ
    rw [hLL, hNT, e2]
    refine n_aload_n C dL_areMeetings_71 rfl ?_
    refine n_aload_n C dL_areMeetings_72 rfl ?_
    refine n_aload_n C dL_areMeetings_73 rfl ?_
    refine n_iload C dL_areMeetings_74 rfl ?_
    refine n_invS C (l_meeters hst hJ (t := t0) (by rw [hNL]; omega)) ⟨t4_83, t4_85, t1_0, ⟨by decide, by decide⟩, by show _ = some 4; decide +kernel, by decide⟩ t4_84 (by decide) (by omega) (by omega) (Nat.le_of_ble_eq_true rfl) rfl dL_areMeetings_76 (fun r σ h' => ?_) (fun _ _ h => h.elim)
    obtain ⟨rfl, hJ⟩ := h'
    obtain ⟨hdis, -, ⟨fm, hmI, hm⟩, ⟨fq, hqI, hq⟩, ⟨fc, hcI, hc⟩, fz, hzI, hz⟩ := id hJ
    rw [hLL, hpr0]
    refine n_icmp_ne C 126 dL_areMeetings_79 (by decide) (by unfold rg; omega) (by unfold rg; omega) (fun hk => by exfalso; first | omega | exact hk (by omega) | exact (by omega) hk) (fun _ => ?_)
    refine n_aload_n C dL_areMeetings_82 rfl ?_
    obtain ⟨fo, hfo⟩ := hJ.obj
    refine n_invV C (s_meeters hst hJ) ⟨t4_79, t4_82, t1_1, ⟨by decide, by decide⟩, by show _ = some 0; decide +kernel, by decide⟩ t4_80 t4_81 hfo vC5 (by decide) (by omega) (by omega) (Nat.le_of_ble_eq_true rfl) rfl dL_areMeetings_83 (fun r σ h' => ?_) (fun _ _ h => h.elim)
    obtain ⟨rfl, hJ⟩ := h'
    obtain ⟨hdis, -, ⟨fm, hmI, hm⟩, ⟨fq, hqI, hq⟩, ⟨fc, hcI, hc⟩, fz, hzI, hz⟩ := id hJ
    rw [hLL, hNT, e2]
    refine n_if_lt C 126 dL_areMeetings_86 (by decide) (by unfold rg; omega) (fun hk => by exfalso; first | omega | exact hk (by omega) | exact (by omega) hk) (fun _ => ?_)
    refine n_iload C dL_areMeetings_89 rfl ?_
    refine n_if_eq C 122 dL_areMeetings_91 (by decide) (by unfold rg; omega) (fun b91 => ?_) (fun b91 => ?_)
    · refine n_iconst (x := 1) C dL_areMeetings_122 ?_
      refine n_goto C 127 dL_areMeetings_123 (by decide) ?_
      exact n_ireturn C Rr (nar_bv (by first | decide | omega)) ⟨rfl, hJ⟩ (by omega) (by omega) dL_areMeetings_127
    · refine n_aload_n C dL_areMeetings_94 rfl ?_
      refine n_aload_n C dL_areMeetings_95 rfl ?_
      refine n_aload_n C dL_areMeetings_96 rfl ?_
      refine n_iload C dL_areMeetings_97 rfl ?_
      refine n_iconst (x := 1) C dL_areMeetings_99 ?_
      refine n_isub C dL_areMeetings_100 ?_
      rw [show (t0 : Int) - 1 = ((t0 - 1 : Nat) : Int) by omega]
      refine n_invS C (l_meeters hst hJ (t := (t0 - 1)) (by rw [hNL]; omega)) ⟨t4_83, t4_85, t1_0, ⟨by decide, by decide⟩, by show _ = some 4; decide +kernel, by decide⟩ t4_84 (by decide) (by omega) (by omega) (Nat.le_of_ble_eq_true rfl) rfl dL_areMeetings_101 (fun r σ h' => ?_) (fun _ _ h => h.elim)
      obtain ⟨rfl, hJ⟩ := h'
      obtain ⟨hdis, -, ⟨fm, hmI, hm⟩, ⟨fq, hqI, hq⟩, ⟨fc, hcI, hc⟩, fz, hzI, hz⟩ := id hJ
      rw [hLL, e3 (t0 - 1) (by omega)]
      refine n_iconst (x := (-1)) C dL_areMeetings_104 ?_
      refine n_icmp_ne C 126 dL_areMeetings_105 (by decide) (by unfold rg; omega) (by unfold rg; omega) (fun hk => by exfalso; first | omega | exact hk (by omega) | exact (by omega) hk) (fun _ => ?_)
      refine n_aload_n C dL_areMeetings_108 rfl ?_
      refine n_aload_n C dL_areMeetings_109 rfl ?_
      refine n_aload_n C dL_areMeetings_110 rfl ?_
      refine n_iload_n C dL_areMeetings_111 rfl ?_
      refine n_iload C dL_areMeetings_112 rfl ?_
      refine n_iremP C dL_areMeetings_114 (by unfold rg; omega) (by unfold rg; omega) (by omega) (by omega) ?_
      obtain ⟨tt, htt⟩ : ∃ tt : Nat, (u % (t0 : Int)) = tt := ⟨((u % (t0 : Int))).toNat, by have := Int.emod_nonneg u (show (t0 : Int) ≠ 0 by omega); omega⟩
      have htl : (u % (t0 : Int)) < (t0 : Int) := Int.emod_lt_of_pos _ (by omega)
      rw [htt] at htl ⊢
      refine n_invS C (l_meeters hst hJ (t := tt) (by rw [hNL]; omega)) ⟨t4_83, t4_85, t1_0, ⟨by decide, by decide⟩, by show _ = some 4; decide +kernel, by decide⟩ t4_84 (by decide) (by omega) (by omega) (Nat.le_of_ble_eq_true rfl) rfl dL_areMeetings_115 (fun r σ h' => ?_) (fun _ _ h => h.elim)
      obtain ⟨rfl, hJ⟩ := h'
      obtain ⟨hdis, -, ⟨fm, hmI, hm⟩, ⟨fq, hqI, hq⟩, ⟨fc, hcI, hc⟩, fz, hzI, hz⟩ := id hJ
      rw [hLL, e3 tt (by omega)]
      refine n_iconst (x := (-1)) C dL_areMeetings_118 ?_
      refine n_icmp_ne C 126 dL_areMeetings_119 (by decide) (by unfold rg; omega) (by unfold rg; omega) (fun hk => by exfalso; first | omega | exact hk (by omega) | exact (by omega) hk) (fun _ => ?_)
      refine n_iconst (x := 1) C dL_areMeetings_122 ?_
      refine n_goto C 127 dL_areMeetings_123 (by decide) ?_
      exact n_ireturn C Rr (nar_bv (by first | decide | omega)) ⟨rfl, hJ⟩ (by omega) (by omega) dL_areMeetings_127
set_option maxRecDepth 100000 in
set_option maxHeartbeats 4000000 in
theorem l_worker {g : Gx} (hst : g.1.stackTraces = false) {c : Tb} {σ : Wd} (hw : WF c) {k : Nat} (hk : (k : Int) < c 6 0) {aq : Nat} {fq : Nat → Int} (hq : σ aq = some (eI g.2.1 24 fq)) (hqI : qI c fq) {ac : Nat} {fc : Nat → Int} (hc : σ ac = some (eI g.2.1 8 fc)) (hcI : cI c fc) {az : Nat} {fz : Nat → Int} (hz : σ az = some (eI g.2.1 6 fz)) (hzI : zI c fz)  : CT g yL_worker cL_worker 6 (some .int) 0 0 0 [.ref aq, .ref ac, .ref az, iv (k : Int)] σ (fun r σ' => r = some (iv (wOf c k)) ∧ σ' = σ) (fun _ _ => False) := by
  refine CT.of hst (by decide +kernel) (Nat.le_of_ble_eq_true rfl) (fun Φ C Rr hY hN => ?_)
  show N Φ 0 0 σ 0 [(0, .ref aq), (1, .ref ac), (2, .ref az), (3, iv (k : Int))] []
  obtain ⟨w0, w6, w12, w13, w14, w15, w16, wm, wq, ww⟩ := id hw
  have hp := qv_parts hw hk
  have w11 := (wq k).2.2.2.2.2.2.2.1
  obtain ⟨N7, hN7, hN64, hbit⟩ := stB_n hw
  obtain ⟨w0', hw0'⟩ : ∃ w0' : Int, c 10 k = w0' := ⟨_, rfl⟩
  have w10 := (wq k).2.2.2.2.2.2.1
  rw [hw0'] at w10
  have J62 : ∀ (its W : Int) (hr : -1 ≤ its ∧ its ≤ 5) (h1 : its < 0 → wOf c k = -1) (h2 : 0 ≤ its → c 17 its.toNat ≠ 0 → wOf c k = -1) (h3 : 0 ≤ its → c 17 its.toNat = 0 → wOf c k = its), N Φ 0 0 σ 62 [(5, iv W), (4, iv its), (0, .ref aq), (1, .ref ac), (2, .ref az), (3, iv (k : Int))] [] := by
    intro its W hr h1 h2 h3
    refine n_iload C dL_worker_62 rfl ?_
    refine n_if_lt C 80 dL_worker_64 (by decide) (by unfold rg; omega) (fun b64 => ?_) (fun b64 => ?_)
    · refine n_iconst (x := (-1)) C dL_worker_80 ?_
      refine n_goto C 86 dL_worker_81 (by decide) ?_
      exact n_ireturn C Rr rfl ⟨by rw [h1 (by omega)], rfl⟩ (by omega) (by omega) dL_worker_86
    · obtain ⟨v, rfl⟩ : ∃ v : Nat, its = v := ⟨its.toNat, by omega⟩
      rw [Int.toNat_natCast] at h2 h3
      have hbv := hbit v (by omega)
      have h17 := (ww v).1
      refine n_aload_n C dL_worker_67 rfl ?_
      refine n_bipush (x := 7) C dL_worker_68 (by decide) ?_
      refine n_ialdv C (stB c) hc (by omega) (by omega) (by omega) hcI.2.2.2.2.2.2.2 dL_worker_70 ?_
      rw [hN7]
      refine n_iload C dL_worker_71 rfl ?_
      refine n_ishr C dL_worker_73 (b6_get (by omega) (by omega)) ?_
      refine n_iconst (x := 1) C dL_worker_74 ?_
      refine n_iand C dL_worker_75 (b6_one _) ?_
      refine n_iconst (x := 1) C dL_worker_76 ?_
      refine n_icmp_ne C 84 dL_worker_77 (by decide) (by unfold rg; omega) (by unfold rg; omega) (fun b77 => ?_) (fun b77 => ?_)
      · refine n_iload C dL_worker_84 rfl ?_
        exact n_ireturn C Rr rfl ⟨by rw [h3 (by omega) (by omega)], rfl⟩ (by omega) (by omega) dL_worker_86
      · refine n_iconst (x := (-1)) C dL_worker_80 ?_
        refine n_goto C 86 dL_worker_81 (by decide) ?_
        exact n_ireturn C Rr rfl ⟨by rw [h2 (by omega) (by omega)], rfl⟩ (by omega) (by omega) dL_worker_86
  refine n_aload_n C dL_worker_0 rfl ?_
  refine n_iload_n C dL_worker_1 rfl ?_
  refine n_ialdv C (qv c k) hq (by omega) (by omega) (by omega) (by rw [Int.toNat_natCast]; exact hqI k (by omega)) dL_worker_2 ?_
  refine n_bipush (x := 8) C dL_worker_3 (by decide) ?_
  refine n_ishr C dL_worker_5 (z_s8 hp.1.1 hp.1.2) ?_
  refine n_bipush (x := 7) C dL_worker_6 (by decide) ?_
  refine n_iand C dL_worker_8 (z_a7 (by omega)) ?_
  rw [hp.2.2.2.1, hw0']
  refine n_istore (lv' := [(4, iv (w0')), (0, .ref aq), (1, .ref ac), (2, .ref az), (3, iv (k : Int))]) C dL_worker_9 (by rw [hN]; decide) rfl ?_
  refine n_iconst (x := 0) C dL_worker_11 ?_
  refine n_istore (lv' := [(5, iv 0), (4, iv (w0')), (0, .ref aq), (1, .ref ac), (2, .ref az), (3, iv (k : Int))]) C dL_worker_12 (by rw [hN]; decide) rfl ?_
  have LP : ∀ (fu : Nat) (j : Nat) (its : Int) (W : Nat) (hI : wkI c w0' j) (hits : its = sqW c w0' j) (hr : -1 ≤ its ∧ its ≤ 5) (hW64 : W < 64) (hW : ∀ v : Nat, v < 6 → (W / 2 ^ v % 2 = 1 ↔ ∃ i : Nat, i < j ∧ sqW c w0' i = v)) (hf : 8 ≤ j + fu), N Φ 0 0 σ 14 [(5, iv (W : Int)), (4, iv its), (0, .ref aq), (1, .ref ac), (2, .ref az), (3, iv (k : Int))] [] := by
    intro fu
    induction fu with
    | zero =>
      intro j its W hI hits hr hW64 hW hf
      have h9 := wkI_6 hI
      omega
    | succ fu ih =>
      intro j its W hI hits hr hW64 hW hf
      have hj6 := wkI_6 hI
      refine n_iload C dL_worker_14 rfl ?_
      refine n_if_lt C 62 dL_worker_16 (by decide) (by unfold rg; omega) (fun b16 => ?_) (fun b16 => ?_)
      · refine n_keep (lv' := [(5, iv (W : Int)), (4, iv its), (0, .ref aq), (1, .ref ac), (2, .ref az), (3, iv (k : Int))]) [5, 4, 0, 1, 2, 3] rfl ?_
        exact J62 its W hr (fun _ => wOf_m1 (by rw [hw0', wk_end hI (Or.inl (by omega))]; exact Or.inl (by omega))) (fun t _ => by omega) (fun t _ => by omega)
      · obtain ⟨v, rfl⟩ : ∃ v : Nat, its = v := ⟨its.toNat, by omega⟩
        have hbv := hbit v (by omega)
        have h17 := (ww v).1
        have h18 := (ww v).2
        have hsv : (sqW c w0' j).toNat = v := by omega
        refine n_aload_n C dL_worker_19 rfl ?_
        refine n_bipush (x := 7) C dL_worker_20 (by decide) ?_
        refine n_ialdv C (stB c) hc (by omega) (by omega) (by omega) hcI.2.2.2.2.2.2.2 dL_worker_22 ?_
        rw [hN7]
        refine n_iload C dL_worker_23 rfl ?_
        refine n_ishr C dL_worker_25 (b6_get (by omega) (by omega)) ?_
        refine n_iconst (x := 1) C dL_worker_26 ?_
        refine n_iand C dL_worker_27 (b6_one _) ?_
        refine n_iconst (x := 1) C dL_worker_28 ?_
        refine n_icmp_ne C 62 dL_worker_29 (by decide) (by unfold rg; omega) (by unfold rg; omega) (fun b29 => ?_) (fun b29 => ?_)
        · refine n_keep (lv' := [(5, iv (W : Int)), (4, iv (v : Int)), (0, .ref aq), (1, .ref ac), (2, .ref az), (3, iv (k : Int))]) [5, 4, 0, 1, 2, 3] rfl ?_
          exact J62 v W hr (fun t => by omega) (fun _ t => absurd t (by rw [Int.toNat_natCast]; omega)) (fun _ t => wOf_on (by rw [hw0', wk_end hI (Or.inr (by rw [hsv]; omega)), ← hits]) (by omega) t)
        · refine n_iload C dL_worker_32 rfl ?_
          refine n_iload C dL_worker_34 rfl ?_
          refine n_ishr C dL_worker_36 (b6_get (by omega) (by omega)) ?_
          refine n_iconst (x := 1) C dL_worker_37 ?_
          refine n_iand C dL_worker_38 (b6_one _) ?_
          refine n_if_ne C 62 dL_worker_39 (by decide) (by unfold rg; omega) (fun b39 => ?_) (fun b39 => ?_)
          · refine n_keep (lv' := [(5, iv (W : Int)), (4, iv (v : Int)), (0, .ref aq), (1, .ref ac), (2, .ref az), (3, iv (k : Int))]) [5, 4, 0, 1, 2, 3] rfl ?_
            obtain ⟨i, i1, i2⟩ := (hW v (by omega)).mp (by omega)
            exact J62 v W hr (fun t => by omega) (fun _ _ => wOf_m1 (by rw [hw0']; exact wk_cyc hI i1 (by rw [i2, hits]))) (fun _ t => absurd t (by rw [Int.toNat_natCast]; omega))
          · refine n_iload C dL_worker_42 rfl ?_
            refine n_iconst (x := 1) C dL_worker_44 ?_
            refine n_iload C dL_worker_45 rfl ?_
            refine n_ishl C dL_worker_47 (b6_shl v (by omega)) ?_
            refine n_ior C dL_worker_48 (b6_add hW64 (by omega) (by omega)) ?_
            refine n_istore (lv' := [(5, iv ((W + 2 ^ v : Nat) : Int)), (4, iv (v : Int)), (0, .ref aq), (1, .ref ac), (2, .ref az), (3, iv (k : Int))]) C dL_worker_49 (by rw [hN]; decide) rfl ?_
            refine n_aload_n C dL_worker_51 rfl ?_
            refine n_iload C dL_worker_52 rfl ?_
            refine n_ialdv C (c 18 v + 1) hz (by omega) (by omega) (by omega) (by rw [Int.toNat_natCast]; exact hzI v (by omega)) dL_worker_54 ?_
            refine n_iconst (x := 1) C dL_worker_55 ?_
            refine n_isub C dL_worker_56 ?_
            refine n_istore (lv' := [(4, iv ((c 18 v + 1) - 1)), (5, iv ((W + 2 ^ v : Nat) : Int)), (0, .ref aq), (1, .ref ac), (2, .ref az), (3, iv (k : Int))]) C dL_worker_57 (by rw [hN]; decide) rfl ?_
            refine n_goto C 14 dL_worker_59 (by decide) ?_
            refine n_keep (lv' := [(5, iv ((W + 2 ^ v : Nat) : Int)), (4, iv ((c 18 v + 1) - 1)), (0, .ref aq), (1, .ref ac), (2, .ref az), (3, iv (k : Int))]) [5, 4, 0, 1, 2, 3] rfl ?_
            obtain ⟨n1, n2⟩ := b6_new W hW64 v (by omega) (by omega)
            have hI' : wkI c w0' (j + 1) := by
              refine ⟨fun i hi => ?_, fun i l hil hl => ?_⟩
              · by_cases z : i = j
                · rw [z, hsv]
                  omega
                · exact hI.1 i (by omega)
              · by_cases z : l = j
                · intro t
                  rw [z, ← hits] at t
                  have := (hW v (by omega)).mpr ⟨i, by omega, t⟩
                  omega
                · exact hI.2 i l hil (by omega)
            have hits' : c 18 v + 1 - 1 = sqW c w0' (j + 1) := by
              show _ = c 18 (sqW c w0' j).toNat
              rw [hsv]
              omega
            exact ih (j + 1) _ (W + 2 ^ v) hI' hits' (by omega) n1 (fun u hu => by
              rw [n2 u hu]
              by_cases z : u = v
              · rw [if_pos z]
                exact ⟨fun _ => ⟨j, Nat.lt_succ_self j, by rw [z, hits]⟩, fun _ => rfl⟩
              · rw [if_neg z, hW u hu]
                constructor
                · intro ⟨i, i1, i2⟩
                  exact ⟨i, by omega, i2⟩
                · intro ⟨i, i1, i2⟩
                  by_cases y : i = j
                  · rw [y, ← hits] at i2
                    omega
                  · exact ⟨i, by omega, i2⟩) (by omega)
  refine n_keep (lv' := [(5, iv 0), (4, iv (w0')), (0, .ref aq), (1, .ref ac), (2, .ref az), (3, iv (k : Int))]) [5, 4, 0, 1, 2, 3] rfl ?_
  exact LP 8 0 w0' 0 ⟨fun i hi => absurd hi (Nat.not_lt_zero i), fun i l _ hl => absurd hl (Nat.not_lt_zero l)⟩ rfl (by omega) (by omega) (fun v hv => ⟨fun z => absurd z (by rw [Nat.zero_div]; decide), fun ⟨i, hi, _⟩ => absurd hi (Nat.not_lt_zero i)⟩) (by omega)
