set_option maxRecDepth 100000 in
set_option maxHeartbeats 4000000 in
theorem l_isNight {g : Gx} (hst : g.1.stackTraces = false) {x am aq ac az : Nat} {c : Tb} {σ : Wd} (hJ : SJ g x am aq ac az c c σ)  : CT g yL_isNight cL_isNight 5 (some .boolean) 7 54 324 [.ref x, .ref aq, .ref ac] σ (fun r σ' => r = some (iv 1) ∧ SJ g x am aq ac az c c σ') (fun _ _ => False) := by
  refine CT.of hst (by decide +kernel) (Nat.le_of_ble_eq_true rfl) (fun Φ C Rr hY hN => ?_)
  show N Φ 0 0 σ 0 [(0, .ref x), (1, .ref aq), (2, .ref ac)] []
  obtain ⟨hdis, -, ⟨fm, hmI, hm⟩, ⟨fq, hqI, hq⟩, ⟨fc, hcI, hc⟩, fz, hzI, hz⟩ := id hJ
  have hw := hJ.wf
  obtain ⟨w0, w6, w12, w13, w14, w15, w16, wm, wq, ww⟩ := id hw
  have hLr := lenB_rg hw (T := c 14 0) w14.1
  obtain ⟨L, hL⟩ : ∃ L : Nat, lenB c (c 14 0) = L := ⟨(lenB c (c 14 0)).toNat, by omega⟩
  rw [hL] at hLr
  have hLL : LL c = L := by unfold LL; omega
  obtain ⟨n12, h12⟩ : ∃ n : Nat, c 12 0 = n := ⟨(c 12 0).toNat, by omega⟩
  obtain ⟨n0, hn0⟩ : ∃ n : Nat, c 0 0 = n := ⟨(c 0 0).toNat, by omega⟩
  obtain ⟨n6, hn6⟩ : ∃ n : Nat, c 6 0 = n := ⟨(c 6 0).toNat, by omega⟩
  obtain ⟨NN, hNd⟩ : ∃ NN : Nat, n12 * L = NN := ⟨_, rfl⟩
  have hNN : NN ≤ 2400 := by
    rw [← hNd]
    exact Nat.mul_le_mul (show n12 ≤ 30 by omega) (show L ≤ 80 by omega)
  have hNL : c 12 0 * lenB c (c 14 0) = (NN : Int) := by rw [h12, hL, ← Int.natCast_mul, hNd]
  have hNT : NT c L = NN := by
    unfold NT
    rw [show (c 12 0).toNat = n12 by omega]
    exact hNd
  have hvt : ∀ k : Nat, vlTakes c (k : Int) = cnt c L k NN := fun k => by
    unfold vlTakes
    rw [hLL, hNT, Int.toNat_natCast]
  have hvw : ∀ k : Nat, vlWorker c (k : Int) = wOf c k := fun k => rfl
  have hof : ∀ (q : Nat) (v : Int), (q : Int) < c 6 0 → (ofP c (bB c L) (eE c L) q v ↔ 0 < cnt c L q NN ∧ wOf c q = v) := fun q v hq => by
    rw [← hNT]
    exact of_cl (by omega) w6.2 hq
  have hLLr : LL c = L := hLL
  have hvc : ∀ v : Nat, vlClashes c (v : Int) = clN c (bB c L) (eE c L) v n6 := fun v => by
    unfold vlClashes
    rw [hLL, show (c 6 0).toNat = n6 by omega]
  have hcw : ∀ v : Nat, v < 6 → cdWork (v : Int) = 0 := fun v hv => by
    unfold cdWork
    rw [if_pos (by omega)]
  have hmr := mtP_rg (c := c) L w0.2 (NN + 1)
  refine n_aload_n C dL_isNight_0 rfl ?_
  obtain ⟨fo, hfo⟩ := hJ.obj
  refine n_invV C (s_meeting hst hJ) ⟨t4_59, t4_62, t1_1, ⟨by decide, by decide⟩, by show _ = some 0; decide +kernel, by decide⟩ t4_60 t4_61 hfo vC5 (by decide) (by omega) (by omega) (Nat.le_of_ble_eq_true rfl) rfl dL_isNight_1 (fun r σ h' => ?_) (fun _ _ h => h.elim)
  obtain ⟨rfl, hJ⟩ := h'
  obtain ⟨hdis, -, ⟨fm, hmI, hm⟩, ⟨fq, hqI, hq⟩, ⟨fc, hcI, hc⟩, fz, hzI, hz⟩ := id hJ
  rw [hLL, hNT]
  have J103 : ∀ (f : Int) (σ : Wd) (hJ : SJ g x am aq ac az c c σ) (hf : ((f = 1 ∧ (((mtP c L (NN + 1)).1 = -1 ∧ ∀ v : Nat, v < 6 → clN c (bB c L) (eE c L) v n6 = 0) ∧ ∀ q : Nat, q < n6 → ¬ ofP c (bB c L) (eE c L) q (-1))) ∨ (f = 0 ∧ ¬ (((mtP c L (NN + 1)).1 = -1 ∧ ∀ v : Nat, v < 6 → clN c (bB c L) (eE c L) v n6 = 0) ∧ ∀ q : Nat, q < n6 → ¬ ofP c (bB c L) (eE c L) q (-1))))), N Φ 54 324 σ 103 [(3, iv f), (0, .ref x), (1, .ref aq), (2, .ref ac)] [] := by
    intro f σ hJ hf
    obtain ⟨hdis, -, ⟨fm, hmI, hm⟩, ⟨fq, hqI, hq⟩, ⟨fc, hcI, hc⟩, fz, hzI, hz⟩ := id hJ
    have hFI : FINE c (LL c) ↔ (((mtP c L (NN + 1)).1 = -1 ∧ ∀ v : Nat, v < 6 → clN c (bB c L) (eE c L) v n6 = 0) ∧ ∀ q : Nat, q < n6 → ¬ ofP c (bB c L) (eE c L) q (-1)) := by
      rw [hLL]
      unfold FINE
      rw [hNT, show (c 6 0).toNat = n6 by omega]
      constructor
      · intro ⟨a1, a2, a3⟩
        exact ⟨⟨a1, a3⟩, fun q hq => a2 q (by omega)⟩
      · intro ⟨⟨a1, a3⟩, a2⟩
        exact ⟨a1, fun q hq => a2 q (by omega), a3⟩
    refine n_aload_n C dL_isNight_103 rfl ?_
    obtain ⟨fo, hfo⟩ := hJ.obj
    refine n_invV C (s_isFine hst hJ) ⟨t4_104, t4_107, t1_1, ⟨by decide, by decide⟩, by show _ = some 0; decide +kernel, by decide⟩ t4_105 t4_106 hfo vC5 (by decide) (by omega) (by omega) (Nat.le_of_ble_eq_true rfl) rfl dL_isNight_104 (fun r σ h' => ?_) (fun _ _ h => h.elim)
    obtain ⟨yv, rfl, hyv, hJ⟩ := h'
    obtain ⟨hdis, -, ⟨fm, hmI, hm⟩, ⟨fq, hqI, hq⟩, ⟨fc, hcI, hc⟩, fz, hzI, hz⟩ := id hJ
    have hyf : yv = f := by
      rcases hyv with ⟨q1, q2⟩ | ⟨q1, q2⟩ <;> rcases hf with ⟨q3, q4⟩ | ⟨q3, q4⟩
      · omega
      · exact absurd (hFI.mp q2) q4
      · exact absurd (hFI.mpr q4) q2
      · omega
    have hfr : f = 0 ∨ f = 1 := by rcases hf with ⟨q, _⟩ | ⟨q, _⟩ <;> omega
    refine n_iload_n C dL_isNight_107 rfl ?_
    refine n_icmp_ne C 141 dL_isNight_108 (by decide) (by unfold rg; omega) (by unfold rg; omega) (fun hk => by exfalso; first | omega | exact hk (by omega) | exact (by omega) hk) (fun _ => ?_)
    refine n_aload_n C dL_isNight_111 rfl ?_
    obtain ⟨fo, hfo⟩ := hJ.obj
    refine n_invV C (s_bar hst hJ) ⟨t4_120, t4_123, t1_1, ⟨by decide, by decide⟩, by show _ = some 0; decide +kernel, by decide⟩ t4_121 t4_122 hfo vC5 (by decide) (by omega) (by omega) (Nat.le_of_ble_eq_true rfl) rfl dL_isNight_112 (fun r σ h' => ?_) (fun _ _ h => h.elim)
    obtain ⟨rfl, hJ⟩ := h'
    obtain ⟨hdis, -, ⟨fm, hmI, hm⟩, ⟨fq, hqI, hq⟩, ⟨fc, hcI, hc⟩, fz, hzI, hz⟩ := id hJ
    rw [hL]
    refine n_aload_n C dL_isNight_115 rfl ?_
    refine n_invS C (l_length hst hw hc hcI) ⟨t3_235, t3_237, t1_0, ⟨by decide, by decide⟩, by show _ = some 1; decide +kernel, by decide⟩ t3_236 (by decide) (by omega) (by omega) (Nat.le_of_ble_eq_true rfl) rfl dL_isNight_116 (fun r σ' h' => ?_) (fun _ _ h => h.elim)
    obtain ⟨rfl, hσ⟩ := h'
    rw [hσ, hL]
    refine n_icmp_ne C 141 dL_isNight_119 (by decide) (by unfold rg; omega) (by unfold rg; omega) (fun hk => by exfalso; first | omega | exact hk (by omega) | exact (by omega) hk) (fun _ => ?_)
    refine n_aload_n C dL_isNight_122 rfl ?_
    obtain ⟨fo, hfo⟩ := hJ.obj
    refine n_invV C (s_end hst hJ) ⟨t3_195, t3_198, t1_1, ⟨by decide, by decide⟩, by show _ = some 0; decide +kernel, by decide⟩ t3_196 t3_197 hfo vC5 (by decide) (by omega) (by omega) (Nat.le_of_ble_eq_true rfl) rfl dL_isNight_123 (fun r σ h' => ?_) (fun _ _ h => h.elim)
    obtain ⟨rfl, hJ⟩ := h'
    obtain ⟨hdis, -, ⟨fm, hmI, hm⟩, ⟨fq, hqI, hq⟩, ⟨fc, hcI, hc⟩, fz, hzI, hz⟩ := id hJ
    rw [hNL]
    refine n_aload_n C dL_isNight_126 rfl ?_
    refine n_iconst (x := 2) C dL_isNight_127 ?_
    refine n_ialdv C (c 12 0) hc (by omega) (by omega) (by omega) hcI.2.2.1 dL_isNight_128 ?_
    refine n_aload_n C dL_isNight_129 rfl ?_
    refine n_invS C (l_length hst hw hc hcI) ⟨t3_235, t3_237, t1_0, ⟨by decide, by decide⟩, by show _ = some 1; decide +kernel, by decide⟩ t3_236 (by decide) (by omega) (by omega) (Nat.le_of_ble_eq_true rfl) rfl dL_isNight_130 (fun r σ' h' => ?_) (fun _ _ h => h.elim)
    obtain ⟨rfl, hσ⟩ := h'
    rw [hσ, hL]
    refine n_imul C dL_isNight_133 ?_
    rw [← hL, hNL]
    refine n_icmp_ne C 141 dL_isNight_134 (by decide) (by unfold rg; omega) (by unfold rg; omega) (fun hk => by exfalso; first | omega | exact hk (by omega) | exact (by omega) hk) (fun _ => ?_)
    refine n_iconst (x := 1) C dL_isNight_137 ?_
    refine n_goto C 142 dL_isNight_138 (by decide) ?_
    exact n_ireturn C Rr (nar_bv (by first | decide | omega)) ⟨rfl, hJ⟩ (by omega) (by omega) dL_isNight_142
  have J49 : ∀ (f : Int) (σ : Wd) (hJ : SJ g x am aq ac az c c σ) (hf : ((f = 1 ∧ ((mtP c L (NN + 1)).1 = -1 ∧ ∀ v : Nat, v < 6 → clN c (bB c L) (eE c L) v n6 = 0)) ∨ (f = 0 ∧ ¬ ((mtP c L (NN + 1)).1 = -1 ∧ ∀ v : Nat, v < 6 → clN c (bB c L) (eE c L) v n6 = 0)))), N Φ 6 36 σ 49 [(3, iv f), (0, .ref x), (1, .ref aq), (2, .ref ac)] [] := by
    intro f σ hJ hf
    refine n_iconst (x := 0) C dL_isNight_49 ?_
    refine n_istore (lv' := [(4, iv 0), (3, iv f), (0, .ref x), (1, .ref aq), (2, .ref ac)]) C dL_isNight_50 (by rw [hN]; decide) rfl ?_
    have LP : ∀ (fu : Nat) (k : Nat) (f : Int) (σ : Wd) (hJ : SJ g x am aq ac az c c σ) (hf : ((f = 1 ∧ (((mtP c L (NN + 1)).1 = -1 ∧ ∀ v : Nat, v < 6 → clN c (bB c L) (eE c L) v n6 = 0) ∧ ∀ q : Nat, q < k → ¬ ofP c (bB c L) (eE c L) q (-1))) ∨ (f = 0 ∧ ¬ (((mtP c L (NN + 1)).1 = -1 ∧ ∀ v : Nat, v < 6 → clN c (bB c L) (eE c L) v n6 = 0) ∧ ∀ q : Nat, q < k → ¬ ofP c (bB c L) (eE c L) q (-1))))) (hk : k ≤ n6) (hfu : n6 + 1 ≤ k + fu), N Φ (6 + 2 * k) (36 + 12 * k) σ 52 [(4, iv (k : Int)), (3, iv f), (0, .ref x), (1, .ref aq), (2, .ref ac)] [] := by
      intro fu
      induction fu with
      | zero =>
        intro k f σ hJ hf hk hfu
        omega
      | succ fu ih =>
        intro k f σ hJ hf hk hfu
        obtain ⟨hdis, -, ⟨fm, hmI, hm⟩, ⟨fq, hqI, hq⟩, ⟨fc, hcI, hc⟩, fz, hzI, hz⟩ := id hJ
        have hfr : f = 0 ∨ f = 1 := by rcases hf with ⟨q, _⟩ | ⟨q, _⟩ <;> omega
        refine n_iload C dL_isNight_52 rfl ?_
        refine n_aload_n C dL_isNight_54 rfl ?_
        refine n_iconst (x := 1) C dL_isNight_55 ?_
        refine n_ialdv C (c 6 0) hc (by omega) (by omega) (by omega) hcI.2.1 dL_isNight_56 ?_
        refine n_icmp_ge C 103 dL_isNight_57 (by decide) (by unfold rg; omega) (by unfold rg; omega) (fun b57 => ?_) (fun b57 => ?_)
        · refine n_keep (lv' := [(3, iv f), (0, .ref x), (1, .ref aq), (2, .ref ac)]) [3, 0, 1, 2] rfl ?_
          have hk9 : k = n6 := by omega
          rw [hk9] at hf
          exact n_widen (by omega) (by omega) (J103 f σ hJ hf)
        · have hfk := hof k (-1) (by omega)
          have hcr := cnt_rg c L k NN
          have wkk := wq k
          have hwr := wOf_rg hw k
          refine n_iload_n C dL_isNight_60 rfl ?_
          refine n_if_eq C 95 dL_isNight_61 (by decide) (by unfold rg; omega) (fun b61 => ?_) (fun b61 => ?_)
          · refine n_iconst (x := 0) C dL_isNight_95 ?_
            refine n_istore_n (lv' := [(3, iv 0), (4, iv (k : Int)), (0, .ref x), (1, .ref aq), (2, .ref ac)]) C dL_isNight_96 (by rw [hN]; decide) rfl ?_
            refine n_iinc (lv' := [(4, iv ((k : Int) + 1)), (3, iv 0), (0, .ref x), (1, .ref aq), (2, .ref ac)]) C dL_isNight_97 rfl (by rw [hN]; decide) rfl ?_
            refine n_goto C 52 dL_isNight_100 (by decide) ?_
            refine n_keep (lv' := [(4, iv ((k : Int) + 1)), (3, iv 0), (0, .ref x), (1, .ref aq), (2, .ref ac)]) [4, 3, 0, 1, 2] rfl ?_
            exact n_widen (k' := 6 + 2 * (k + 1)) (n' := 36 + 12 * (k + 1)) (by omega) (by omega) (ih (k + 1) 0 σ hJ (Or.inr ⟨rfl, fun t => (hf.resolve_left (fun y => by omega)).2 ⟨t.1, fun q hq => t.2 q (by omega)⟩⟩) (by omega) (by omega))
          · refine n_aload_n C dL_isNight_64 rfl ?_
            refine n_iload C dL_isNight_65 rfl ?_
            refine n_invS C (l_isOut hst hw (k := k) (by omega) hq hqI) ⟨t3_149, t3_151, t1_0, ⟨by decide, by decide⟩, by show _ = some 2; decide +kernel, by decide⟩ t3_150 (by decide) (by omega) (by omega) (Nat.le_of_ble_eq_true rfl) rfl dL_isNight_67 (fun r σ' h' => ?_) (fun _ _ h => h.elim)
            obtain ⟨u, rfl, hσ, hu⟩ := h'
            rw [hσ]
            refine n_if_ne C 91 dL_isNight_70 (by decide) (by unfold rg; omega) (fun b70 => ?_) (fun b70 => ?_)
            · refine n_iconst (x := 1) C dL_isNight_91 ?_
              refine n_goto C 96 dL_isNight_92 (by decide) ?_
              refine n_istore_n (lv' := [(3, iv 1), (4, iv (k : Int)), (0, .ref x), (1, .ref aq), (2, .ref ac)]) C dL_isNight_96 (by rw [hN]; decide) rfl ?_
              refine n_iinc (lv' := [(4, iv ((k : Int) + 1)), (3, iv 1), (0, .ref x), (1, .ref aq), (2, .ref ac)]) C dL_isNight_97 rfl (by rw [hN]; decide) rfl ?_
              refine n_goto C 52 dL_isNight_100 (by decide) ?_
              refine n_keep (lv' := [(4, iv ((k : Int) + 1)), (3, iv 1), (0, .ref x), (1, .ref aq), (2, .ref ac)]) [4, 3, 0, 1, 2] rfl ?_
              exact n_widen (k' := 6 + 2 * (k + 1)) (n' := 36 + 12 * (k + 1)) (by omega) (by omega) (ih (k + 1) 1 σ hJ (Or.inl ⟨rfl, (hf.resolve_right (fun y => by omega)).2.1, fun q hq => by
                by_cases y : q = k
                · rw [y]; exact fun t => by have := t.2.1; omega
                · exact (hf.resolve_right (fun y => by omega)).2.2 q (by omega)⟩) (by omega) (by omega))
            · have h11 : c 11 k = 0 := by omega
              refine n_aload_n C dL_isNight_73 rfl ?_
              refine n_iload C dL_isNight_74 rfl ?_
              obtain ⟨fo, hfo⟩ := hJ.obj
              refine n_invV C (s_takes hst (by unfold rg; omega) hJ ((cdIs_q (k := k) (by omega)).1 h11)) ⟨t4_17, t4_20, t1_1, ⟨by decide, by decide⟩, by show _ = some 1; decide +kernel, by decide⟩ t4_18 t4_19 hfo vC5 (by decide) (by omega) (by omega) (Nat.le_of_ble_eq_true rfl) rfl dL_isNight_76 (fun r σ h' => ?_) (fun _ _ h => h.elim)
              obtain ⟨rfl, hJ⟩ := h'
              obtain ⟨hdis, -, ⟨fm, hmI, hm⟩, ⟨fq, hqI, hq⟩, ⟨fc, hcI, hc⟩, fz, hzI, hz⟩ := id hJ
              rw [hvt k]
              refine n_if_eq C 91 dL_isNight_79 (by decide) (by unfold rg; omega) (fun b79 => ?_) (fun b79 => ?_)
              · refine n_iconst (x := 1) C dL_isNight_91 ?_
                refine n_goto C 96 dL_isNight_92 (by decide) ?_
                refine n_istore_n (lv' := [(3, iv 1), (4, iv (k : Int)), (0, .ref x), (1, .ref aq), (2, .ref ac)]) C dL_isNight_96 (by rw [hN]; decide) rfl ?_
                refine n_iinc (lv' := [(4, iv ((k : Int) + 1)), (3, iv 1), (0, .ref x), (1, .ref aq), (2, .ref ac)]) C dL_isNight_97 rfl (by rw [hN]; decide) rfl ?_
                refine n_goto C 52 dL_isNight_100 (by decide) ?_
                refine n_keep (lv' := [(4, iv ((k : Int) + 1)), (3, iv 1), (0, .ref x), (1, .ref aq), (2, .ref ac)]) [4, 3, 0, 1, 2] rfl ?_
                exact n_widen (k' := 6 + 2 * (k + 1)) (n' := 36 + 12 * (k + 1)) (by omega) (by omega) (ih (k + 1) 1 σ hJ (Or.inl ⟨rfl, (hf.resolve_right (fun y => by omega)).2.1, fun q hq => by
                  by_cases y : q = k
                  · rw [y]; exact fun t => by have := hfk.mp t; omega
                  · exact (hf.resolve_right (fun y => by omega)).2.2 q (by omega)⟩) (by omega) (by omega))
              · refine n_aload_n C dL_isNight_82 rfl ?_
                refine n_iload C dL_isNight_83 rfl ?_
                obtain ⟨fo, hfo⟩ := hJ.obj
                refine n_invV C (s_worker hst (by unfold rg; omega) hJ ((cdIs_q (k := k) (by omega)).1 h11)) ⟨t4_45, t4_48, t1_1, ⟨by decide, by decide⟩, by show _ = some 1; decide +kernel, by decide⟩ t4_46 t4_47 hfo vC5 (by decide) (by omega) (by omega) (Nat.le_of_ble_eq_true rfl) rfl dL_isNight_85 (fun r σ h' => ?_) (fun _ _ h => h.elim)
                obtain ⟨rfl, hJ⟩ := h'
                obtain ⟨hdis, -, ⟨fm, hmI, hm⟩, ⟨fq, hqI, hq⟩, ⟨fc, hcI, hc⟩, fz, hzI, hz⟩ := id hJ
                rw [hvw k]
                refine n_if_lt C 95 dL_isNight_88 (by decide) (by unfold rg; omega) (fun b88 => ?_) (fun b88 => ?_)
                · refine n_iconst (x := 0) C dL_isNight_95 ?_
                  refine n_istore_n (lv' := [(3, iv 0), (4, iv (k : Int)), (0, .ref x), (1, .ref aq), (2, .ref ac)]) C dL_isNight_96 (by rw [hN]; decide) rfl ?_
                  refine n_iinc (lv' := [(4, iv ((k : Int) + 1)), (3, iv 0), (0, .ref x), (1, .ref aq), (2, .ref ac)]) C dL_isNight_97 rfl (by rw [hN]; decide) rfl ?_
                  refine n_goto C 52 dL_isNight_100 (by decide) ?_
                  refine n_keep (lv' := [(4, iv ((k : Int) + 1)), (3, iv 0), (0, .ref x), (1, .ref aq), (2, .ref ac)]) [4, 3, 0, 1, 2] rfl ?_
                  exact n_widen (k' := 6 + 2 * (k + 1)) (n' := 36 + 12 * (k + 1)) (by omega) (by omega) (ih (k + 1) 0 σ hJ (Or.inr ⟨rfl, fun t => t.2 k (Nat.lt_succ_self k) (hfk.mpr ⟨by omega, by omega⟩)⟩) (by omega) (by omega))
                · refine n_iconst (x := 1) C dL_isNight_91 ?_
                  refine n_goto C 96 dL_isNight_92 (by decide) ?_
                  refine n_istore_n (lv' := [(3, iv 1), (4, iv (k : Int)), (0, .ref x), (1, .ref aq), (2, .ref ac)]) C dL_isNight_96 (by rw [hN]; decide) rfl ?_
                  refine n_iinc (lv' := [(4, iv ((k : Int) + 1)), (3, iv 1), (0, .ref x), (1, .ref aq), (2, .ref ac)]) C dL_isNight_97 rfl (by rw [hN]; decide) rfl ?_
                  refine n_goto C 52 dL_isNight_100 (by decide) ?_
                  refine n_keep (lv' := [(4, iv ((k : Int) + 1)), (3, iv 1), (0, .ref x), (1, .ref aq), (2, .ref ac)]) [4, 3, 0, 1, 2] rfl ?_
                  exact n_widen (k' := 6 + 2 * (k + 1)) (n' := 36 + 12 * (k + 1)) (by omega) (by omega) (ih (k + 1) 1 σ hJ (Or.inl ⟨rfl, (hf.resolve_right (fun y => by omega)).2.1, fun q hq => by
                    by_cases y : q = k
                    · rw [y]; exact fun t => by have := hfk.mp t; omega
                    · exact (hf.resolve_right (fun y => by omega)).2.2 q (by omega)⟩) (by omega) (by omega))
    refine n_keep (lv' := [(4, iv 0), (3, iv f), (0, .ref x), (1, .ref aq), (2, .ref ac)]) [4, 3, 0, 1, 2] rfl ?_
    exact LP 25 0 f σ hJ (hf.imp (fun ⟨a1, a2⟩ => ⟨a1, a2, fun q hq => absurd hq (Nat.not_lt_zero q)⟩) (fun ⟨a1, a2⟩ => ⟨a1, fun t => a2 t.1⟩)) (by omega) (by omega)
  have J14 : ∀ (f : Int) (hf : ((f = 1 ∧ ((mtP c L (NN + 1)).1 = -1)) ∨ (f = 0 ∧ ¬ ((mtP c L (NN + 1)).1 = -1)))), N Φ 0 0 σ 14 [(3, iv f), (0, .ref x), (1, .ref aq), (2, .ref ac)] [] := by
    intro f hf
    refine n_iconst (x := 0) C dL_isNight_14 ?_
    refine n_istore (lv' := [(4, iv 0), (3, iv f), (0, .ref x), (1, .ref aq), (2, .ref ac)]) C dL_isNight_15 (by rw [hN]; decide) rfl ?_
    have LP : ∀ (fu : Nat) (k : Nat) (f : Int) (σ : Wd) (hJ : SJ g x am aq ac az c c σ) (hf : ((f = 1 ∧ ((mtP c L (NN + 1)).1 = -1 ∧ ∀ v : Nat, v < k → clN c (bB c L) (eE c L) v n6 = 0)) ∨ (f = 0 ∧ ¬ ((mtP c L (NN + 1)).1 = -1 ∧ ∀ v : Nat, v < k → clN c (bB c L) (eE c L) v n6 = 0)))) (hk : k ≤ 6) (hfu : 7 ≤ k + fu), N Φ k (6 * k) σ 17 [(4, iv (k : Int)), (3, iv f), (0, .ref x), (1, .ref aq), (2, .ref ac)] [] := by
      intro fu
      induction fu with
      | zero =>
        intro k f σ hJ hf hk hfu
        omega
      | succ fu ih =>
        intro k f σ hJ hf hk hfu
        obtain ⟨hdis, -, ⟨fm, hmI, hm⟩, ⟨fq, hqI, hq⟩, ⟨fc, hcI, hc⟩, fz, hzI, hz⟩ := id hJ
        have hfr : f = 0 ∨ f = 1 := by rcases hf with ⟨q, _⟩ | ⟨q, _⟩ <;> omega
        refine n_iload C dL_isNight_17 rfl ?_
        refine n_bipush (x := 6) C dL_isNight_19 (by decide) ?_
        refine n_icmp_ge C 49 dL_isNight_21 (by decide) (by unfold rg; omega) (by unfold rg; omega) (fun b21 => ?_) (fun b21 => ?_)
        · refine n_keep (lv' := [(3, iv f), (0, .ref x), (1, .ref aq), (2, .ref ac)]) [3, 0, 1, 2] rfl ?_
          have hk9 : k = 6 := by omega
          rw [hk9] at hf
          exact n_widen (by omega) (by omega) (J49 f σ hJ hf)
        · have hcr := clN_rg c (bB c L) (eE c L) (k : Int) n6
          refine n_iload_n C dL_isNight_24 rfl ?_
          refine n_if_eq C 41 dL_isNight_25 (by decide) (by unfold rg; omega) (fun b25 => ?_) (fun b25 => ?_)
          · refine n_iconst (x := 0) C dL_isNight_41 ?_
            refine n_istore_n (lv' := [(3, iv 0), (4, iv (k : Int)), (0, .ref x), (1, .ref aq), (2, .ref ac)]) C dL_isNight_42 (by rw [hN]; decide) rfl ?_
            refine n_iinc (lv' := [(4, iv ((k : Int) + 1)), (3, iv 0), (0, .ref x), (1, .ref aq), (2, .ref ac)]) C dL_isNight_43 rfl (by rw [hN]; decide) rfl ?_
            refine n_goto C 17 dL_isNight_46 (by decide) ?_
            refine n_keep (lv' := [(4, iv ((k : Int) + 1)), (3, iv 0), (0, .ref x), (1, .ref aq), (2, .ref ac)]) [4, 3, 0, 1, 2] rfl ?_
            exact n_widen (k' := k + 1) (n' := 6 * (k + 1)) (by omega) (by omega) (ih (k + 1) 0 σ hJ (Or.inr ⟨rfl, fun t => (hf.resolve_left (fun y => by omega)).2 ⟨t.1, fun q hq => t.2 q (by omega)⟩⟩) (by omega) (by omega))
          · refine n_aload_n C dL_isNight_28 rfl ?_
            refine n_iload C dL_isNight_29 rfl ?_
            obtain ⟨fo, hfo⟩ := hJ.obj
            refine n_invV C (s_clashes hst (by unfold rg; omega) hJ (hcw k (by omega))) ⟨t4_89, t4_92, t1_1, ⟨by decide, by decide⟩, by show _ = some 1; decide +kernel, by decide⟩ t4_90 t4_91 hfo vC5 (by decide) (by omega) (by omega) (Nat.le_of_ble_eq_true rfl) rfl dL_isNight_31 (fun r σ h' => ?_) (fun _ _ h => h.elim)
            obtain ⟨rfl, hJ⟩ := h'
            obtain ⟨hdis, -, ⟨fm, hmI, hm⟩, ⟨fq, hqI, hq⟩, ⟨fc, hcI, hc⟩, fz, hzI, hz⟩ := id hJ
            rw [hvc k]
            refine n_if_ne C 41 dL_isNight_34 (by decide) (by unfold rg; omega) (fun b34 => ?_) (fun b34 => ?_)
            · refine n_iconst (x := 0) C dL_isNight_41 ?_
              refine n_istore_n (lv' := [(3, iv 0), (4, iv (k : Int)), (0, .ref x), (1, .ref aq), (2, .ref ac)]) C dL_isNight_42 (by rw [hN]; decide) rfl ?_
              refine n_iinc (lv' := [(4, iv ((k : Int) + 1)), (3, iv 0), (0, .ref x), (1, .ref aq), (2, .ref ac)]) C dL_isNight_43 rfl (by rw [hN]; decide) rfl ?_
              refine n_goto C 17 dL_isNight_46 (by decide) ?_
              refine n_keep (lv' := [(4, iv ((k : Int) + 1)), (3, iv 0), (0, .ref x), (1, .ref aq), (2, .ref ac)]) [4, 3, 0, 1, 2] rfl ?_
              exact n_widen (k' := k + 1) (n' := 6 * (k + 1)) (by omega) (by omega) (ih (k + 1) 0 σ hJ (Or.inr ⟨rfl, fun t => by have := t.2 k (Nat.lt_succ_self k); omega⟩) (by omega) (by omega))
            · refine n_iconst (x := 1) C dL_isNight_37 ?_
              refine n_goto C 42 dL_isNight_38 (by decide) ?_
              refine n_istore_n (lv' := [(3, iv 1), (4, iv (k : Int)), (0, .ref x), (1, .ref aq), (2, .ref ac)]) C dL_isNight_42 (by rw [hN]; decide) rfl ?_
              refine n_iinc (lv' := [(4, iv ((k : Int) + 1)), (3, iv 1), (0, .ref x), (1, .ref aq), (2, .ref ac)]) C dL_isNight_43 rfl (by rw [hN]; decide) rfl ?_
              refine n_goto C 17 dL_isNight_46 (by decide) ?_
              refine n_keep (lv' := [(4, iv ((k : Int) + 1)), (3, iv 1), (0, .ref x), (1, .ref aq), (2, .ref ac)]) [4, 3, 0, 1, 2] rfl ?_
              exact n_widen (k' := k + 1) (n' := 6 * (k + 1)) (by omega) (by omega) (ih (k + 1) 1 σ hJ (Or.inl ⟨rfl, (hf.resolve_right (fun y => by omega)).2.1, fun q hq => by
                by_cases y : q = k
                · rw [y]; omega
                · exact (hf.resolve_right (fun y => by omega)).2.2 q (by omega)⟩) (by omega) (by omega))
    refine n_keep (lv' := [(4, iv 0), (3, iv f), (0, .ref x), (1, .ref aq), (2, .ref ac)]) [4, 3, 0, 1, 2] rfl ?_
    exact LP 7 0 f σ hJ (hf.imp (fun ⟨a1, a2⟩ => ⟨a1, a2, fun q hq => absurd hq (Nat.not_lt_zero q)⟩) (fun ⟨a1, a2⟩ => ⟨a1, fun t => a2 t.1⟩)) (by omega) (by omega)
  refine n_iconst (x := (-1)) C dL_isNight_4 ?_
  refine n_icmp_ne C 12 dL_isNight_5 (by decide) (by unfold rg; omega) (by unfold rg; omega) (fun b5 => ?_) (fun b5 => ?_)
  · refine n_iconst (x := 0) C dL_isNight_12 ?_
    refine n_istore_n (lv' := [(3, iv 0), (0, .ref x), (1, .ref aq), (2, .ref ac)]) C dL_isNight_13 (by rw [hN]; decide) rfl ?_
    refine n_keep (lv' := [(3, iv 0), (0, .ref x), (1, .ref aq), (2, .ref ac)]) [3, 0, 1, 2] rfl ?_
    exact J14 0 (Or.inr ⟨rfl, b5⟩)
  · refine n_iconst (x := 1) C dL_isNight_8 ?_
    refine n_goto C 13 dL_isNight_9 (by decide) ?_
    refine n_istore_n (lv' := [(3, iv 1), (0, .ref x), (1, .ref aq), (2, .ref ac)]) C dL_isNight_13 (by rw [hN]; decide) rfl ?_
    refine n_keep (lv' := [(3, iv 1), (0, .ref x), (1, .ref aq), (2, .ref ac)]) [3, 0, 1, 2] rfl ?_
    exact J14 1 (Or.inl ⟨rfl, b5⟩)
