set_option maxRecDepth 100000 in
set_option maxHeartbeats 4000000 in
theorem l_asked {g : Gx} (hst : g.1.stackTraces = false) {x am aq ac az : Nat} {c d : Tb} {σ : Wd} (hJ : SJ g x am aq ac az c d σ) {k : Nat} (hk : (k : Int) < c 6 0) : CTW g yL_asked cL_asked 3 (some .int) [(0, 5, 6, 61)] 6 1 6 [.ref x, iv (k : Int)] σ (fun r σ' => r = some (iv (if c 11 k = 0 then vlTakes c (k : Int) else -7)) ∧ SJ g x am aq ac az c d σ') := by
  refine CTW.of hst (by decide +kernel) (Nat.le_of_ble_eq_true rfl) (fun Φ C Rr hN => ?_)
  show N Φ 0 0 σ 0 [(0, .ref x), (1, iv (k : Int))] []
  have w6 := hJ.wf.2.1
  refine n_aload_n C dL_asked_0 rfl ?_
  refine n_iload_n C dL_asked_1 rfl ?_
  obtain ⟨fo, hfo⟩ := hJ.obj
  obtain ⟨hc0, hc1⟩ := cdIs_q (c := c) hk
  refine n_invV C (s_takesX hst (by unfold rg; omega) hJ) ⟨t4_17, t4_20, t1_1, ⟨by decide, by decide⟩, by show _ = some 1; decide +kernel, by decide⟩ t4_18 t4_19 hfo vC5 (by decide) (by omega) (by omega) (Nat.le_of_ble_eq_true rfl) rfl dL_asked_2 (fun r σ h' => ?_) (fun E σ hx => ?_)
  · obtain ⟨rfl, hJ, hcd⟩ := h'
    have h11 : c 11 k = 0 := Classical.byContradiction (fun z => by have := hc1 z; omega)
    exact n_ireturnW C Rr rfl ⟨by rw [if_pos h11], hJ⟩ (by omega) (by omega) dL_asked_5
  · obtain ⟨hJ, rfl, hcd⟩ := hx
    have h11 : c 11 k ≠ 0 := fun z => by have := hc0 z; omega
    refine n_catch (E := "java/lang/IndexOutOfBoundsException") (name := "java/lang/IndexOutOfBoundsException") (0, 5, 6, 61) [] C Rr ⟨by decide, by decide⟩ (by decide) t3_156 t2_73 (fun q => ?_)
    refine n_astore_n (lv' := [(2, .ref q), (0, .ref x), (1, iv (k : Int))]) C dL_asked_6 (by rw [hN]; decide) rfl ?_
    refine n_bipush (x := (-7)) C dL_asked_7 (by decide) ?_
    exact n_ireturnW C Rr rfl ⟨by rw [if_neg h11], hJ⟩ (by omega) (by omega) dL_asked_9
set_option maxRecDepth 100000 in
set_option maxHeartbeats 4000000 in
theorem l_scores {g : Gx} (hst : g.1.stackTraces = false) {b t : Int} (hb : 1 ≤ b ∧ b ≤ 30) (ht : 1 ≤ t ∧ t ≤ 40) {x am aq ac az : Nat} {c d : Tb} {σ : Wd} (hJ : SJ g x am aq ac az c d σ) : CTW g yL_scores cL_scores 4 (some .int) [(0, 6, 9, 96)] 5 2 12 [.ref x, iv b, iv t] σ (fun r σ' => r = some (iv (if cdScore c b t = 0 then 0 else -8)) ∧ SJ g x am aq ac az (if cdScore c b t = 0 then nxScore c b t else c) d σ') := by
  refine CTW.of hst (by decide +kernel) (Nat.le_of_ble_eq_true rfl) (fun Φ C Rr hN => ?_)
  show N Φ 0 0 σ 0 [(0, .ref x), (1, iv b), (2, iv t)] []
  refine n_aload_n C dL_scores_0 rfl ?_
  refine n_iload_n C dL_scores_1 rfl ?_
  refine n_iload_n C dL_scores_2 rfl ?_
  obtain ⟨fo, hfo⟩ := hJ.obj
  refine n_invV C (s_setScore hst (by unfold rg; omega) (by unfold rg; omega) hJ) ⟨t3_174, t3_177, t1_1, ⟨by decide, by decide⟩, by show _ = some 2; decide +kernel, by decide⟩ t3_175 t3_176 hfo vC5 (by decide) (by omega) (by omega) (Nat.le_of_ble_eq_true rfl) rfl dL_scores_3 (fun r σ h' => ?_) (fun E σ hx => ?_)
  · obtain ⟨rfl, hJ, hcd⟩ := h'
    refine n_goto C 13 dL_scores_6 (by decide) ?_
    refine n_iconst (x := 0) C dL_scores_13 ?_
    exact n_ireturnW C Rr rfl ⟨by rw [if_pos hcd], by rw [if_pos hcd]; exact hJ⟩ (by omega) (by omega) dL_scores_14
  · obtain ⟨hJ, hx⟩ := hx
    have hne : cdScore c b t ≠ 1 := by
      unfold cdScore
      rw [if_pos (by omega)]
      split <;> omega
    obtain ⟨rfl, hcd⟩ := hx.resolve_left (fun z => hne z.2)
    have hcd0 : ¬ cdScore c b t = 0 := by omega
    refine n_catch (E := "java/lang/IllegalStateException") (name := "java/lang/IllegalStateException") (0, 6, 9, 96) [] C Rr ⟨by decide, by decide⟩ (by decide) t3_173 t1_194 (fun q => ?_)
    refine n_astore_n (lv' := [(3, .ref q), (0, .ref x), (1, iv b), (2, iv t)]) C dL_scores_9 (by rw [hN]; decide) rfl ?_
    refine n_bipush (x := (-8)) C dL_scores_10 (by decide) ?_
    exact n_ireturnW C Rr rfl ⟨by rw [if_neg hcd0], by rw [if_neg hcd0]; exact hJ⟩ (by omega) (by omega) dL_scores_12
set_option maxRecDepth 100000 in
set_option maxHeartbeats 4000000 in
theorem l_strikesOut {g : Gx} (hst : g.1.stackTraces = false) {a : Int} (ha : 0 ≤ a ∧ a ≤ 100) {x am aq ac az : Nat} {c d : Tb} {σ : Wd} (hJ : SJ g x am aq ac az c d σ) : CTW g yL_strikesOut cL_strikesOut 3 (some .int) [(0, 5, 6, 61)] 5 1 6 [.ref x, iv a] σ (fun r σ' => r = some (iv (if cdIs c a = 0 then c 7 a.toNat else -7)) ∧ SJ g x am aq ac az (if cdIs c a = 0 then nxOut c a else c) d σ') := by
  refine CTW.of hst (by decide +kernel) (Nat.le_of_ble_eq_true rfl) (fun Φ C Rr hN => ?_)
  show N Φ 0 0 σ 0 [(0, .ref x), (1, iv a)] []
  refine n_aload_n C dL_strikesOut_0 rfl ?_
  refine n_iload_n C dL_strikesOut_1 rfl ?_
  obtain ⟨fo, hfo⟩ := hJ.obj
  refine n_invV C (s_strikeOut hst (by unfold rg; omega) hJ) ⟨t3_157, t3_160, t1_1, ⟨by decide, by decide⟩, by show _ = some 1; decide +kernel, by decide⟩ t3_158 t3_159 hfo vC5 (by decide) (by omega) (by omega) (Nat.le_of_ble_eq_true rfl) rfl dL_strikesOut_2 (fun r σ h' => ?_) (fun E σ hx => ?_)
  · obtain ⟨rfl, hJ, hcd⟩ := h'
    exact n_ireturnW C Rr rfl ⟨by rw [if_pos hcd], by rw [if_pos hcd]; exact hJ⟩ (by omega) (by omega) dL_strikesOut_5
  · obtain ⟨hJ, rfl, hcd⟩ := hx
    have hcd0 : ¬ cdIs c a = 0 := by omega
    refine n_catch (E := "java/lang/IndexOutOfBoundsException") (name := "java/lang/IndexOutOfBoundsException") (0, 5, 6, 61) [] C Rr ⟨by decide, by decide⟩ (by decide) t3_156 t2_73 (fun q => ?_)
    refine n_astore_n (lv' := [(2, .ref q), (0, .ref x), (1, iv a)]) C dL_strikesOut_6 (by rw [hN]; decide) rfl ?_
    refine n_bipush (x := (-7)) C dL_strikesOut_7 (by decide) ?_
    exact n_ireturnW C Rr rfl ⟨by rw [if_neg hcd0], by rw [if_neg hcd0]; exact hJ⟩ (by omega) (by omega) dL_strikesOut_9
set_option maxRecDepth 100000 in
set_option maxHeartbeats 4000000 in
theorem l_isCue {g : Gx} (hst : g.1.stackTraces = false) {x am aq ac az : Nat} {c : Tb} {σ : Wd} (hJ : SJ g x am aq ac az c c σ) {k : Nat} (hk : (k : Int) < c 6 0)  : CT g yL_isCue cL_isCue 13 (some .boolean) 7 6 36 [.ref x, .ref aq, .ref ac, .ref az, iv (k : Int)] σ (fun r σ' => r = some (iv 1) ∧ SJ g x am aq ac az c c σ') (fun _ _ => False) := by
  refine CT.of hst (by decide +kernel) (Nat.le_of_ble_eq_true rfl) (fun Φ C Rr hY hN => ?_)
  show N Φ 0 0 σ 0 [(0, .ref x), (1, .ref aq), (2, .ref ac), (3, .ref az), (4, iv (k : Int))] []
  obtain ⟨hdis, -, ⟨fm, hmI, hm⟩, ⟨fq, hqI, hq⟩, ⟨fc, hcI, hc⟩, fz, hzI, hz⟩ := id hJ
  have hw := hJ.wf
  obtain ⟨w0, w6, w12, w13, w14, w15, w16, wm, wq, ww⟩ := id hw
  have hLr := lenB_rg hw (T := c 14 0) w14.1
  obtain ⟨L, hL⟩ : ∃ L : Nat, lenB c (c 14 0) = L := ⟨(lenB c (c 14 0)).toNat, by omega⟩
  rw [hL] at hLr
  have hLL : LL c = L := by unfold LL; omega
  obtain ⟨n12, h12⟩ : ∃ n : Nat, c 12 0 = n := ⟨(c 12 0).toNat, by omega⟩
  obtain ⟨n0, hn0⟩ : ∃ n : Nat, c 0 0 = n := ⟨(c 0 0).toNat, by omega⟩
  obtain ⟨n6, hn6⟩ : ∃ n : Nat, c 6 0 = n := ⟨(c 6 0).toNat, by omega⟩
  obtain ⟨NN, hNd⟩ : ∃ NN : Nat, n12 * L = NN := ⟨_, rfl⟩
  have hNN : NN ≤ 2400 := by
    rw [← hNd]
    exact Nat.mul_le_mul (show n12 ≤ 30 by omega) (show L ≤ 80 by omega)
  have hNL : c 12 0 * lenB c (c 14 0) = (NN : Int) := by rw [h12, hL, ← Int.natCast_mul, hNd]
  have hNT : NT c L = NN := by
    unfold NT
    rw [show (c 12 0).toNat = n12 by omega]
    exact hNd
  have hp := qv_parts hw hk
  refine n_aload_n C dL_isCue_0 rfl ?_
  refine n_iload C dL_isCue_1 rfl ?_
  refine n_invSW C (l_asked hst hJ hk) ⟨t4_14, t4_16, t1_0, ⟨by decide, by decide⟩, by show _ = some 2; decide +kernel, by decide⟩ t4_15 (by decide) (by omega) (by omega) (Nat.le_of_ble_eq_true rfl) rfl dL_isCue_3 (fun r σ h' => ?_)
  obtain ⟨rfl, hJ⟩ := h'
  obtain ⟨hdis, -, ⟨fm, hmI, hm⟩, ⟨fq, hqI, hq⟩, ⟨fc, hcI, hc⟩, fz, hzI, hz⟩ := id hJ
  have hkk := wq k
  by_cases h11 : c 11 k = 0
  · obtain ⟨i, hi8⟩ : ∃ i : Nat, c 8 k = i := ⟨(c 8 k).toNat, by omega⟩
    obtain ⟨b, hb7⟩ : ∃ b : Nat, c 7 k = b := ⟨(c 7 k).toNat, by omega⟩
    have hbn := hkk.2.1 hk h11
    have hi0 := hkk.2.2.2.1 hk
    have hvt : vlTakes c (k : Int) = cnt c L k NN := by
      unfold vlTakes
      rw [hLL, hNT, Int.toNat_natCast]
    have hTr := cnt_rg c L k NN
    obtain ⟨T, hT⟩ : ∃ T : Nat, cnt c L k NN = T := ⟨(cnt c L k NN).toNat, by omega⟩
    rw [hT] at hTr
    rw [if_pos h11, hvt, hT]
    have hbL : b * L ≤ NN := by
      rw [← hNd]
      exact Nat.mul_le_mul_right L (by omega)
    refine n_istore (lv' := [(5, iv (T : Int)), (0, .ref x), (1, .ref aq), (2, .ref ac), (3, .ref az), (4, iv (k : Int))]) C dL_isCue_6 (by rw [hN]; decide) rfl ?_
    refine n_aload_n C dL_isCue_8 rfl ?_
    refine n_iload C dL_isCue_9 rfl ?_
    refine n_invS C (l_isOut hst hw (k := k) hk hq hqI) ⟨t3_149, t3_151, t1_0, ⟨by decide, by decide⟩, by show _ = some 2; decide +kernel, by decide⟩ t3_150 (by decide) (by omega) (by omega) (Nat.le_of_ble_eq_true rfl) rfl dL_isCue_11 (fun r σ' h' => ?_) (fun _ _ h => h.elim)
    obtain ⟨u, rfl, hσ, hu⟩ := h'
    rw [hσ]
    refine n_if_eq C 30 dL_isCue_14 (by decide) (by unfold rg; omega) (fun _ => ?_) (fun hk => by exfalso; first | omega | exact hk (by omega) | exact (by omega) hk)
    refine n_aload_n C dL_isCue_30 rfl ?_
    refine n_iload C dL_isCue_31 rfl ?_
    refine n_ialdv C (qv c k) hq (by omega) (by omega) (by omega) (by rw [Int.toNat_natCast]; exact hqI k (by omega)) dL_isCue_33 ?_
    refine n_iconst (x := 5) C dL_isCue_34 ?_
    refine n_ishr C dL_isCue_35 (z_s5 hp.1.1 hp.1.2) ?_
    refine n_bipush (x := 7) C dL_isCue_36 (by decide) ?_
    refine n_iand C dL_isCue_38 (z_a7 (by omega)) ?_
    rw [hp.2.2.2.2.1, hi8]
    refine n_istore (lv' := [(6, iv (i : Int)), (5, iv (T : Int)), (0, .ref x), (1, .ref aq), (2, .ref ac), (3, .ref az), (4, iv (k : Int))]) C dL_isCue_39 (by rw [hN]; decide) rfl ?_
    refine n_aload_n C dL_isCue_41 rfl ?_
    refine n_iload C dL_isCue_42 rfl ?_
    refine n_ialdv C (qv c k) hq (by omega) (by omega) (by omega) (by rw [Int.toNat_natCast]; exact hqI k (by omega)) dL_isCue_44 ?_
    refine n_bipush (x := 31) C dL_isCue_45 (by decide) ?_
    refine n_iand C dL_isCue_47 (z_a31 (by omega)) ?_
    rw [hp.2.2.2.2.2, hb7]
    refine n_istore (lv' := [(7, iv (b : Int)), (6, iv (i : Int)), (5, iv (T : Int)), (0, .ref x), (1, .ref aq), (2, .ref ac), (3, .ref az), (4, iv (k : Int))]) C dL_isCue_48 (by rw [hN]; decide) rfl ?_
    refine n_iload C dL_isCue_50 rfl ?_
    refine n_aload_n C dL_isCue_52 rfl ?_
    refine n_invS C (l_length hst hw hc hcI) ⟨t3_235, t3_237, t1_0, ⟨by decide, by decide⟩, by show _ = some 1; decide +kernel, by decide⟩ t3_236 (by decide) (by omega) (by omega) (Nat.le_of_ble_eq_true rfl) rfl dL_isCue_53 (fun r σ' h' => ?_) (fun _ _ h => h.elim)
    obtain ⟨rfl, hσ⟩ := h'
    rw [hσ, hL]
    refine n_imul C dL_isCue_56 ?_
    rw [← Int.natCast_mul]
    refine n_istore (lv' := [(8, iv ((b * L : Nat) : Int)), (7, iv (b : Int)), (6, iv (i : Int)), (5, iv (T : Int)), (0, .ref x), (1, .ref aq), (2, .ref ac), (3, .ref az), (4, iv (k : Int))]) C dL_isCue_57 (by rw [hN]; decide) rfl ?_
    refine n_aload_n C dL_isCue_59 rfl ?_
    refine n_iload C dL_isCue_60 rfl ?_
    have hwr := wOf_rg hw k
    have hvw : vlWorker c (k : Int) = wOf c k := rfl
    obtain ⟨fo, hfo⟩ := hJ.obj
    refine n_invV C (s_worker hst (by unfold rg; omega) hJ ((cdIs_q hk).1 h11)) ⟨t4_45, t4_48, t1_1, ⟨by decide, by decide⟩, by show _ = some 1; decide +kernel, by decide⟩ t4_46 t4_47 hfo vC5 (by decide) (by omega) (by omega) (Nat.le_of_ble_eq_true rfl) rfl dL_isCue_62 (fun r σ h' => ?_) (fun _ _ h => h.elim)
    obtain ⟨rfl, hJ⟩ := h'
    obtain ⟨hdis, -, ⟨fm, hmI, hm⟩, ⟨fq, hqI, hq⟩, ⟨fc, hcI, hc⟩, fz, hzI, hz⟩ := id hJ
    rw [hvw]
    refine n_aload_n C dL_isCue_65 rfl ?_
    refine n_aload_n C dL_isCue_66 rfl ?_
    refine n_aload_n C dL_isCue_67 rfl ?_
    refine n_iload C dL_isCue_68 rfl ?_
    refine n_invS C (l_worker hst hw hk hq hqI hc hcI hz hzI) ⟨t4_53, t4_55, t1_0, ⟨by decide, by decide⟩, by show _ = some 4; decide +kernel, by decide⟩ t4_54 (by decide) (by omega) (by omega) (Nat.le_of_ble_eq_true rfl) rfl dL_isCue_70 (fun r σ' h' => ?_) (fun _ _ h => h.elim)
    obtain ⟨rfl, hσ⟩ := h'
    rw [hσ]
    refine n_icmp_ne C 85 dL_isCue_73 (by decide) (by unfold rg; omega) (by unfold rg; omega) (fun hk => by exfalso; first | omega | exact hk (by omega) | exact (by omega) hk) (fun _ => ?_)
    refine n_iload C dL_isCue_76 rfl ?_
    refine n_if_lt C 85 dL_isCue_78 (by decide) (by unfold rg; omega) (fun hk => by exfalso; first | omega | exact hk (by omega) | exact (by omega) hk) (fun _ => ?_)
    refine n_iconst (x := 1) C dL_isCue_81 ?_
    refine n_goto C 86 dL_isCue_82 (by decide) ?_
    refine n_istore (lv' := [(9, iv 1), (8, iv ((b * L : Nat) : Int)), (7, iv (b : Int)), (6, iv (i : Int)), (5, iv (T : Int)), (0, .ref x), (1, .ref aq), (2, .ref ac), (3, .ref az), (4, iv (k : Int))]) C dL_isCue_86 (by rw [hN]; decide) rfl ?_
    refine n_aload_n C dL_isCue_88 rfl ?_
    refine n_aload_n C dL_isCue_89 rfl ?_
    refine n_iload C dL_isCue_90 rfl ?_
    refine n_iload C dL_isCue_92 rfl ?_
    refine n_invS C (l_effect hst hw (a := (i : Int)) (b := (b : Int)) (by unfold rg; omega) (by unfold rg; omega) hq hqI hc hcI) ⟨t3_238, t4_0, t1_0, ⟨by decide, by decide⟩, by show _ = some 4; decide +kernel, by decide⟩ t3_239 (by decide) (by omega) (by omega) (Nat.le_of_ble_eq_true rfl) rfl dL_isCue_94 (fun r σ' h' => ?_) (fun _ _ h => h.elim)
    obtain ⟨rfl, hσ⟩ := h'
    rw [hσ]
    have her := eff_rg c (i : Int) (b : Int) (c 6 0).toNat (by omega)
    have her2 : -1 ≤ eff c (i : Int) (b : Int) ∧ eff c (i : Int) (b : Int) < 24 := by unfold eff; omega
    refine n_iload C dL_isCue_97 rfl ?_
    refine n_icmp_eq C 118 dL_isCue_99 (by decide) (by unfold rg; omega) (by unfold rg; omega) (fun b99 => ?_) (fun b99 => ?_)
    · have he : eff c (i : Int) (b : Int) = (k : Int) := b99
      refine n_iload C dL_isCue_118 rfl ?_
      refine n_iconst (x := 1) C dL_isCue_120 ?_
      refine n_iadd C dL_isCue_121 ?_
      refine n_istore (lv' := [(10, iv ((b : Int) + 1)), (9, iv 1), (8, iv ((b * L : Nat) : Int)), (7, iv (b : Int)), (6, iv (i : Int)), (5, iv (T : Int)), (0, .ref x), (1, .ref aq), (2, .ref ac), (3, .ref az), (4, iv (k : Int))]) C dL_isCue_122 (by rw [hN]; decide) rfl ?_
      have hn1 : ((b : Int) + 1) = ((b + 1 : Nat) : Int) := by omega
      rw [hn1]
      have J151 : ∀ (n : Nat) (hbn2 : b < n) (hn12 : n ≤ n12) (hm2 : ∀ d : Nat, b < d → d < n → eff c i d = -1) (hn2 : n = n12 ∨ eff c i n ≠ -1), N Φ 2 12 σ 151 [(10, iv (n : Int)), (9, iv 1), (8, iv ((b * L : Nat) : Int)), (7, iv (b : Int)), (6, iv (i : Int)), (5, iv (T : Int)), (0, .ref x), (1, .ref aq), (2, .ref ac), (3, .ref az), (4, iv (k : Int))] [] := by
        intro n hbn2 hn12 hm2 hn2
        obtain ⟨T', e1, e2, e3, e4⟩ := takes_at hw (L := L) (by omega) h12 he hbn2 hn12 hm2 hn2
        rw [hNT] at e1
        obtain rfl : T' = T := by omega
        have hnL : n * L ≤ NN := by
          rw [← hNd]
          exact Nat.mul_le_mul_right L hn12
        refine n_iload C dL_isCue_151 rfl ?_
        refine n_aload_n C dL_isCue_153 rfl ?_
        refine n_invS C (l_length hst hw hc hcI) ⟨t3_235, t3_237, t1_0, ⟨by decide, by decide⟩, by show _ = some 1; decide +kernel, by decide⟩ t3_236 (by decide) (by omega) (by omega) (Nat.le_of_ble_eq_true rfl) rfl dL_isCue_154 (fun r σ' h' => ?_) (fun _ _ h => h.elim)
        obtain ⟨rfl, hσ⟩ := h'
        rw [hσ, hL]
        refine n_imul C dL_isCue_157 ?_
        rw [← Int.natCast_mul]
        refine n_istore (lv' := [(11, iv ((n * L : Nat) : Int)), (10, iv (n : Int)), (9, iv 1), (8, iv ((b * L : Nat) : Int)), (7, iv (b : Int)), (6, iv (i : Int)), (5, iv (T' : Int)), (0, .ref x), (1, .ref aq), (2, .ref ac), (3, .ref az), (4, iv (k : Int))]) C dL_isCue_158 (by rw [hN]; decide) rfl ?_
        refine n_aload_n C dL_isCue_160 rfl ?_
        refine n_iload C dL_isCue_161 rfl ?_
        refine n_iload C dL_isCue_163 rfl ?_
        refine n_iload C dL_isCue_165 rfl ?_
        refine n_iadd C dL_isCue_167 ?_
        rw [← Int.natCast_add]
        have hcd : cdPlace c (i : Int) ((b * L + T' : Nat) : Int) = 0 := by
          unfold cdPlace
          rw [hNL, if_pos (by omega), if_pos (by omega)]
        have hvp : vlPlace c (i : Int) ((b * L + T' : Nat) : Int) = (tr c L i (b * L + T')).1 := by
          unfold vlPlace
          rw [hLL, show ((i : Int) : Int).toNat = i by omega, show (((b * L + T' : Nat) : Int) : Int).toNat = (b * L + T') by omega]
        have hpr := tr_rg hw L i (b * L + T')
        obtain ⟨fo, hfo⟩ := hJ.obj
        refine n_invV C (s_place hst (by unfold rg; omega) (by unfold rg; omega) hJ hcd) ⟨t3_207, t3_210, t1_1, ⟨by decide, by decide⟩, by show _ = some 2; decide +kernel, by decide⟩ t3_208 t3_209 hfo vC5 (by decide) (by omega) (by omega) (Nat.le_of_ble_eq_true rfl) rfl dL_isCue_168 (fun r σ h' => ?_) (fun _ _ h => h.elim)
        obtain ⟨rfl, hJ⟩ := h'
        obtain ⟨hdis, -, ⟨fm, hmI, hm⟩, ⟨fq, hqI, hq⟩, ⟨fc, hcI, hc⟩, fz, hzI, hz⟩ := id hJ
        rw [hvp]
        refine n_aload_n C dL_isCue_171 rfl ?_
        refine n_iload C dL_isCue_172 rfl ?_
        refine n_invS C (l_target hst hw (k := k) hk hq hqI) ⟨t4_5, t4_7, t1_0, ⟨by decide, by decide⟩, by show _ = some 2; decide +kernel, by decide⟩ t4_6 (by decide) (by omega) (by omega) (Nat.le_of_ble_eq_true rfl) rfl dL_isCue_174 (fun r σ' h' => ?_) (fun _ _ h => h.elim)
        obtain ⟨rfl, hσ⟩ := h'
        rw [hσ]
        refine n_icmp_ne C 184 dL_isCue_177 (by decide) (by unfold rg; omega) (by unfold rg; omega) (fun b177 => ?_) (fun b177 => ?_)
        · have hne : (tr c L i (b * L + T')).1 ≠ c 9 k := b177
          refine n_iconst (x := 0) C dL_isCue_184 ?_
          refine n_istore (lv' := [(12, iv 0), (11, iv ((n * L : Nat) : Int)), (10, iv (n : Int)), (9, iv 1), (8, iv ((b * L : Nat) : Int)), (7, iv (b : Int)), (6, iv (i : Int)), (5, iv (T' : Int)), (0, .ref x), (1, .ref aq), (2, .ref ac), (3, .ref az), (4, iv (k : Int))]) C dL_isCue_185 (by rw [hN]; decide) rfl ?_
          refine n_iload C dL_isCue_187 rfl ?_
          refine n_if_eq C 248 dL_isCue_189 (by decide) (by unfold rg; omega) (fun hk => by exfalso; first | omega | exact hk (by omega) | exact (by omega) hk) (fun _ => ?_)
          refine n_iload C dL_isCue_192 rfl ?_
          refine n_iload C dL_isCue_194 rfl ?_
          refine n_iadd C dL_isCue_196 ?_
          refine n_iload C dL_isCue_197 rfl ?_
          refine n_icmp_gt C 248 dL_isCue_199 (by decide) (by unfold rg; omega) (by unfold rg; omega) (fun hk => by exfalso; first | omega | exact hk (by omega) | exact (by omega) hk) (fun _ => ?_)
          refine n_iload C dL_isCue_202 rfl ?_
          refine n_if_ne C 217 dL_isCue_204 (by decide) (by unfold rg; omega) (fun hk => by exfalso; first | omega | exact hk (by omega) | exact (by omega) hk) (fun _ => ?_)
          have e5 : b * L + T' = n * L := Classical.byContradiction (fun z => hne (e3 (by omega)))
          refine n_iload C dL_isCue_207 rfl ?_
          refine n_iload C dL_isCue_209 rfl ?_
          refine n_iadd C dL_isCue_211 ?_
          refine n_iload C dL_isCue_212 rfl ?_
          refine n_icmp_ne C 248 dL_isCue_214 (by decide) (by unfold rg; omega) (by unfold rg; omega) (fun hk => by exfalso; first | omega | exact hk (by omega) | exact (by omega) hk) (fun _ => ?_)
          refine n_iload C dL_isCue_217 rfl ?_
          refine n_if_eq C 244 dL_isCue_219 (by decide) (by unfold rg; omega) (fun b219 => ?_) (fun b219 => ?_)
          · refine n_iconst (x := 1) C dL_isCue_244 ?_
            refine n_goto C 249 dL_isCue_245 (by decide) ?_
            exact n_ireturn C Rr (nar_bv (by first | decide | omega)) ⟨rfl, hJ⟩ (by omega) (by omega) dL_isCue_249
          · refine n_aload_n C dL_isCue_222 rfl ?_
            refine n_iload C dL_isCue_223 rfl ?_
            refine n_iload C dL_isCue_225 rfl ?_
            refine n_iload C dL_isCue_227 rfl ?_
            refine n_iadd C dL_isCue_229 ?_
            refine n_iconst (x := 1) C dL_isCue_230 ?_
            refine n_isub C dL_isCue_231 ?_
            have hcd : cdPlace c (i : Int) ((((b * L : Nat) : Int) + (T' : Int)) - 1) = 0 := by
              unfold cdPlace
              rw [hNL, if_pos (by omega), if_pos (by omega)]
            have hvp : vlPlace c (i : Int) ((((b * L : Nat) : Int) + (T' : Int)) - 1) = (tr c L i (b * L + (T' - 1))).1 := by
              unfold vlPlace
              rw [hLL, show ((i : Int) : Int).toNat = i by omega, show (((((b * L : Nat) : Int) + (T' : Int)) - 1) : Int).toNat = (b * L + (T' - 1)) by omega]
            have hpr := tr_rg hw L i (b * L + (T' - 1))
            obtain ⟨fo, hfo⟩ := hJ.obj
            refine n_invV C (s_place hst (by unfold rg; omega) (by unfold rg; omega) hJ hcd) ⟨t3_207, t3_210, t1_1, ⟨by decide, by decide⟩, by show _ = some 2; decide +kernel, by decide⟩ t3_208 t3_209 hfo vC5 (by decide) (by omega) (by omega) (Nat.le_of_ble_eq_true rfl) rfl dL_isCue_232 (fun r σ h' => ?_) (fun _ _ h => h.elim)
            obtain ⟨rfl, hJ⟩ := h'
            obtain ⟨hdis, -, ⟨fm, hmI, hm⟩, ⟨fq, hqI, hq⟩, ⟨fc, hcI, hc⟩, fz, hzI, hz⟩ := id hJ
            rw [hvp]
            have e6 := e4 (T' - 1) (by omega)
            refine n_aload_n C dL_isCue_235 rfl ?_
            refine n_iload C dL_isCue_236 rfl ?_
            refine n_invS C (l_target hst hw (k := k) hk hq hqI) ⟨t4_5, t4_7, t1_0, ⟨by decide, by decide⟩, by show _ = some 2; decide +kernel, by decide⟩ t4_6 (by decide) (by omega) (by omega) (Nat.le_of_ble_eq_true rfl) rfl dL_isCue_238 (fun r σ' h' => ?_) (fun _ _ h => h.elim)
            obtain ⟨rfl, hσ⟩ := h'
            rw [hσ]
            refine n_icmp_eq C 248 dL_isCue_241 (by decide) (by unfold rg; omega) (by unfold rg; omega) (fun hk => by exfalso; first | omega | exact hk e6 | exact e6 hk) (fun _ => ?_)
            refine n_iconst (x := 1) C dL_isCue_244 ?_
            refine n_goto C 249 dL_isCue_245 (by decide) ?_
            exact n_ireturn C Rr (nar_bv (by first | decide | omega)) ⟨rfl, hJ⟩ (by omega) (by omega) dL_isCue_249
        · refine n_iconst (x := 1) C dL_isCue_180 ?_
          refine n_goto C 185 dL_isCue_181 (by decide) ?_
          refine n_istore (lv' := [(12, iv 1), (11, iv ((n * L : Nat) : Int)), (10, iv (n : Int)), (9, iv 1), (8, iv ((b * L : Nat) : Int)), (7, iv (b : Int)), (6, iv (i : Int)), (5, iv (T' : Int)), (0, .ref x), (1, .ref aq), (2, .ref ac), (3, .ref az), (4, iv (k : Int))]) C dL_isCue_185 (by rw [hN]; decide) rfl ?_
          refine n_iload C dL_isCue_187 rfl ?_
          refine n_if_eq C 248 dL_isCue_189 (by decide) (by unfold rg; omega) (fun hk => by exfalso; first | omega | exact hk (by omega) | exact (by omega) hk) (fun _ => ?_)
          refine n_iload C dL_isCue_192 rfl ?_
          refine n_iload C dL_isCue_194 rfl ?_
          refine n_iadd C dL_isCue_196 ?_
          refine n_iload C dL_isCue_197 rfl ?_
          refine n_icmp_gt C 248 dL_isCue_199 (by decide) (by unfold rg; omega) (by unfold rg; omega) (fun hk => by exfalso; first | omega | exact hk (by omega) | exact (by omega) hk) (fun _ => ?_)
          refine n_iload C dL_isCue_202 rfl ?_
          refine n_if_ne C 217 dL_isCue_204 (by decide) (by unfold rg; omega) (fun _ => ?_) (fun hk => by exfalso; first | omega | exact hk (by omega) | exact (by omega) hk)
          refine n_iload C dL_isCue_217 rfl ?_
          refine n_if_eq C 244 dL_isCue_219 (by decide) (by unfold rg; omega) (fun b219 => ?_) (fun b219 => ?_)
          · refine n_iconst (x := 1) C dL_isCue_244 ?_
            refine n_goto C 249 dL_isCue_245 (by decide) ?_
            exact n_ireturn C Rr (nar_bv (by first | decide | omega)) ⟨rfl, hJ⟩ (by omega) (by omega) dL_isCue_249
          · refine n_aload_n C dL_isCue_222 rfl ?_
            refine n_iload C dL_isCue_223 rfl ?_
            refine n_iload C dL_isCue_225 rfl ?_
            refine n_iload C dL_isCue_227 rfl ?_
            refine n_iadd C dL_isCue_229 ?_
            refine n_iconst (x := 1) C dL_isCue_230 ?_
            refine n_isub C dL_isCue_231 ?_
            have hcd : cdPlace c (i : Int) ((((b * L : Nat) : Int) + (T' : Int)) - 1) = 0 := by
              unfold cdPlace
              rw [hNL, if_pos (by omega), if_pos (by omega)]
            have hvp : vlPlace c (i : Int) ((((b * L : Nat) : Int) + (T' : Int)) - 1) = (tr c L i (b * L + (T' - 1))).1 := by
              unfold vlPlace
              rw [hLL, show ((i : Int) : Int).toNat = i by omega, show (((((b * L : Nat) : Int) + (T' : Int)) - 1) : Int).toNat = (b * L + (T' - 1)) by omega]
            have hpr := tr_rg hw L i (b * L + (T' - 1))
            obtain ⟨fo, hfo⟩ := hJ.obj
            refine n_invV C (s_place hst (by unfold rg; omega) (by unfold rg; omega) hJ hcd) ⟨t3_207, t3_210, t1_1, ⟨by decide, by decide⟩, by show _ = some 2; decide +kernel, by decide⟩ t3_208 t3_209 hfo vC5 (by decide) (by omega) (by omega) (Nat.le_of_ble_eq_true rfl) rfl dL_isCue_232 (fun r σ h' => ?_) (fun _ _ h => h.elim)
            obtain ⟨rfl, hJ⟩ := h'
            obtain ⟨hdis, -, ⟨fm, hmI, hm⟩, ⟨fq, hqI, hq⟩, ⟨fc, hcI, hc⟩, fz, hzI, hz⟩ := id hJ
            rw [hvp]
            have e6 := e4 (T' - 1) (by omega)
            refine n_aload_n C dL_isCue_235 rfl ?_
            refine n_iload C dL_isCue_236 rfl ?_
            refine n_invS C (l_target hst hw (k := k) hk hq hqI) ⟨t4_5, t4_7, t1_0, ⟨by decide, by decide⟩, by show _ = some 2; decide +kernel, by decide⟩ t4_6 (by decide) (by omega) (by omega) (Nat.le_of_ble_eq_true rfl) rfl dL_isCue_238 (fun r σ' h' => ?_) (fun _ _ h => h.elim)
            obtain ⟨rfl, hσ⟩ := h'
            rw [hσ]
            refine n_icmp_eq C 248 dL_isCue_241 (by decide) (by unfold rg; omega) (by unfold rg; omega) (fun hk => by exfalso; first | omega | exact hk e6 | exact e6 hk) (fun _ => ?_)
            refine n_iconst (x := 1) C dL_isCue_244 ?_
            refine n_goto C 249 dL_isCue_245 (by decide) ?_
            exact n_ireturn C Rr (nar_bv (by first | decide | omega)) ⟨rfl, hJ⟩ (by omega) (by omega) dL_isCue_249
      have LP : ∀ (fu : Nat) (n : Nat) (hbn2 : b < n) (hn12 : n ≤ n12) (hm2 : ∀ d : Nat, b < d → d < n → eff c i d = -1) (hf : n12 + 1 ≤ n + fu), N Φ 2 12 σ 124 [(10, iv (n : Int)), (9, iv 1), (8, iv ((b * L : Nat) : Int)), (7, iv (b : Int)), (6, iv (i : Int)), (5, iv (T : Int)), (0, .ref x), (1, .ref aq), (2, .ref ac), (3, .ref az), (4, iv (k : Int))] [] := by
        intro fu
        induction fu with
        | zero =>
          intro n hbn2 hn12 hm2 hf
          omega
        | succ fu ih =>
          intro n hbn2 hn12 hm2 hf
          refine n_iload C dL_isCue_124 rfl ?_
          refine n_aload_n C dL_isCue_126 rfl ?_
          refine n_iconst (x := 2) C dL_isCue_127 ?_
          refine n_ialdv C (c 12 0) hc (by omega) (by omega) (by omega) hcI.2.2.1 dL_isCue_128 ?_
          refine n_icmp_ge C 151 dL_isCue_129 (by decide) (by unfold rg; omega) (by unfold rg; omega) (fun b129 => ?_) (fun b129 => ?_)
          · exact J151 n hbn2 hn12 hm2 (Or.inl (by omega))
          · refine n_aload_n C dL_isCue_132 rfl ?_
            refine n_aload_n C dL_isCue_133 rfl ?_
            refine n_iload C dL_isCue_134 rfl ?_
            refine n_iload C dL_isCue_136 rfl ?_
            refine n_invS C (l_effect hst hw (a := (i : Int)) (b := (n : Int)) (by unfold rg; omega) (by unfold rg; omega) hq hqI hc hcI) ⟨t3_238, t4_0, t1_0, ⟨by decide, by decide⟩, by show _ = some 4; decide +kernel, by decide⟩ t3_239 (by decide) (by omega) (by omega) (Nat.le_of_ble_eq_true rfl) rfl dL_isCue_138 (fun r σ' h' => ?_) (fun _ _ h => h.elim)
            obtain ⟨rfl, hσ⟩ := h'
            rw [hσ]
            have her3 := eff_rg c (i : Int) (n : Int) (c 6 0).toNat (by omega)
            have her4 : -1 ≤ eff c (i : Int) (n : Int) ∧ eff c (i : Int) (n : Int) < 24 := by unfold eff; omega
            refine n_iconst (x := (-1)) C dL_isCue_141 ?_
            refine n_icmp_ne C 151 dL_isCue_142 (by decide) (by unfold rg; omega) (by unfold rg; omega) (fun b142 => ?_) (fun b142 => ?_)
            · exact J151 n hbn2 hn12 hm2 (Or.inr b142)
            · refine n_iinc (lv' := [(10, iv ((n : Int) + 1)), (9, iv 1), (8, iv ((b * L : Nat) : Int)), (7, iv (b : Int)), (6, iv (i : Int)), (5, iv (T : Int)), (0, .ref x), (1, .ref aq), (2, .ref ac), (3, .ref az), (4, iv (k : Int))]) C dL_isCue_145 rfl (by rw [hN]; decide) rfl ?_
              refine n_goto C 124 dL_isCue_148 (by decide) ?_
              refine n_keep (lv' := [(10, iv ((n : Int) + 1)), (9, iv 1), (8, iv ((b * L : Nat) : Int)), (7, iv (b : Int)), (6, iv (i : Int)), (5, iv (T : Int)), (0, .ref x), (1, .ref aq), (2, .ref ac), (3, .ref az), (4, iv (k : Int))]) [10, 9, 8, 7, 6, 5, 0, 1, 2, 3, 4] rfl ?_
              exact ih (n + 1) (by omega) (by omega) (fun d d1 d2 => by
                by_cases z : d = n
                · rw [z]; exact b142
                · exact hm2 d d1 (by omega)) (by omega)
      refine n_keep (lv' := [(10, iv ((b : Int) + 1)), (9, iv 1), (8, iv ((b * L : Nat) : Int)), (7, iv (b : Int)), (6, iv (i : Int)), (5, iv (T : Int)), (0, .ref x), (1, .ref aq), (2, .ref ac), (3, .ref az), (4, iv (k : Int))]) [10, 9, 8, 7, 6, 5, 0, 1, 2, 3, 4] rfl ?_
      exact LP 32 (b + 1) (by omega) (by omega) (fun d d1 d2 => by omega) (by omega)
    · have hT0 := takes_no (c := c) (L := L) (by omega) hi8 hb7 b99 NN
      refine n_iload C dL_isCue_102 rfl ?_
      refine n_if_eq C 116 dL_isCue_104 (by decide) (by unfold rg; omega) (fun hk => by exfalso; first | omega | exact hk (by omega) | exact (by omega) hk) (fun _ => ?_)
      refine n_iload C dL_isCue_107 rfl ?_
      refine n_if_ne C 116 dL_isCue_109 (by decide) (by unfold rg; omega) (fun hk => by exfalso; first | omega | exact hk (by omega) | exact (by omega) hk) (fun _ => ?_)
      refine n_iconst (x := 1) C dL_isCue_112 ?_
      refine n_goto C 117 dL_isCue_113 (by decide) ?_
      exact n_ireturn C Rr (nar_bv (by first | decide | omega)) ⟨rfl, hJ⟩ (by omega) (by omega) dL_isCue_117
  · rw [if_neg h11]
    refine n_istore (lv' := [(5, iv (-7)), (0, .ref x), (1, .ref aq), (2, .ref ac), (3, .ref az), (4, iv (k : Int))]) C dL_isCue_6 (by rw [hN]; decide) rfl ?_
    refine n_aload_n C dL_isCue_8 rfl ?_
    refine n_iload C dL_isCue_9 rfl ?_
    refine n_invS C (l_isOut hst hw (k := k) hk hq hqI) ⟨t3_149, t3_151, t1_0, ⟨by decide, by decide⟩, by show _ = some 2; decide +kernel, by decide⟩ t3_150 (by decide) (by omega) (by omega) (Nat.le_of_ble_eq_true rfl) rfl dL_isCue_11 (fun r σ' h' => ?_) (fun _ _ h => h.elim)
    obtain ⟨u, rfl, hσ, hu⟩ := h'
    rw [hσ]
    refine n_if_eq C 30 dL_isCue_14 (by decide) (by unfold rg; omega) (fun hk => by exfalso; first | omega | exact hk (by omega) | exact (by omega) hk) (fun _ => ?_)
    refine n_iload C dL_isCue_17 rfl ?_
    refine n_bipush (x := (-7)) C dL_isCue_19 (by decide) ?_
    refine n_icmp_ne C 28 dL_isCue_21 (by decide) (by unfold rg; omega) (by unfold rg; omega) (fun hk => by exfalso; first | omega | exact hk (by omega) | exact (by omega) hk) (fun _ => ?_)
    refine n_iconst (x := 1) C dL_isCue_24 ?_
    refine n_goto C 29 dL_isCue_25 (by decide) ?_
    exact n_ireturn C Rr (nar_bv (by first | decide | omega)) ⟨rfl, hJ⟩ (by omega) (by omega) dL_isCue_29
