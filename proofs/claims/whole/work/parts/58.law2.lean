set_option maxRecDepth 100000 in
set_option maxHeartbeats 4000000 in
theorem lc_9 {g : Gx} {Φ : Fx} {k n b L : Nat} {xs : Nat → Int32} {i : Nat} {o w x0 : Nat} {ar : Nat → Nat} {M c : Tb} {v : Int64} {σ : Wd} (hst : g.1.stackTraces = false) (C : Ok g Φ code "OperaMachinesLaw" ret 40 601024 7293034) (hnc : NCx Φ) (X : SX Φ b L xs) (hN : fN Φ = 7) (hL : L ≤ 2560) (hi : i + 5 ≤ L) (hJ : LJ g o w x0 ar M c v σ) (hc : cut M = c) (hk : k + 20 ≤ 601024) (hn : n + 200 ≤ 7293034) (K : ∀ (σ' : Wd) (M' c' : Tb) (v' : Int64), LJ g o w x0 ar M' c' v' σ' → cut M' = c' → N Φ (k + 20) (n + 200) σ' 1193 [(4, iv (i : Int)), (3, .ref w), (2, .ref o), (1, .ref x0), (0, .ref b)] []) : N Φ k n σ 755 [(4, iv (i : Int)), (3, .ref w), (2, .ref o), (1, .ref x0), (0, .ref b)] [] := by
  obtain ⟨hR, hMW, A, D, f, rfl, hM, hI, hw, ho, hf, hs⟩ := id hJ
  refine n_aload_n C dL_law_755 rfl ?_
  refine n_invV C (p_bar hst hM hw hI) ⟨w1_94, w1_97, w1_1, ⟨by decide, by decide⟩, by show _ = some 0; decide +kernel, by decide⟩ w1_95 w1_96 hM.1.1 vC5 (by decide) (by omega) (by omega) (Nat.le_of_ble_eq_true rfl) rfl dL_law_756 (fun r σ1 h' => ?_) (fun _ _ h => h.elim)
  obtain ⟨x, D', rfl, hB, hx⟩ := h'
  obtain ⟨hJ1, -⟩ := LJ.cls hR hMW rfl ho hf hs (GW.own hB rfl rfl rfl rfl) hI hw
  refine n_aload_n C dL_law_759 rfl ?_
  refine n_invV C (c_bar hst hR hJ1.2.1 hc hw) ⟨w5_28, w5_31, w1_5, ⟨by decide, by decide⟩, by show _ = some 0; decide +kernel, by decide⟩ w5_29 w5_30 hJ1.2.1.1 (show vwCl[6]? = some ("OperaMachinesModel", TX3, 27) from rfl) (by decide) (by omega) (by omega) (Nat.le_of_ble_eq_true rfl) rfl dL_law_760 (fun r σ2 h' => ?_) (fun _ _ h => h.elim)
  obtain ⟨M1, rfl, hM1, hc1, ht1⟩ := h'
  have hJ2 := hJ1.ref hM1
  refine n_icmpE C 1193 hx dL_law_763 (by decide) ?_
  refine n_keep (lv' := [(4, iv (i : Int)), (3, .ref w), (2, .ref o), (1, .ref (shA A 0)), (0, .ref b)]) [4, 3, 2, 1, 0] rfl ?_
  refine n_widen (k' := k + 20) (n' := n + 200) (by omega) (by omega) ?_
  exact K _ _ _ _ hJ2 hc1
set_option maxRecDepth 100000 in
set_option maxHeartbeats 4000000 in
theorem lc_10 {g : Gx} {Φ : Fx} {k n b L : Nat} {xs : Nat → Int32} {i : Nat} {o w x0 : Nat} {ar : Nat → Nat} {M c : Tb} {v : Int64} {σ : Wd} (hst : g.1.stackTraces = false) (C : Ok g Φ code "OperaMachinesLaw" ret 40 601024 7293034) (hnc : NCx Φ) (X : SX Φ b L xs) (hN : fN Φ = 7) (hL : L ≤ 2560) (hi : i + 5 ≤ L) (hJ : LJ g o w x0 ar M c v σ) (hc : cut M = c) (hk : k + 20 ≤ 601024) (hn : n + 200 ≤ 7293034) (K : ∀ (σ' : Wd) (M' c' : Tb) (v' : Int64), LJ g o w x0 ar M' c' v' σ' → cut M' = c' → N Φ (k + 20) (n + 200) σ' 1193 [(4, iv (i : Int)), (3, .ref w), (2, .ref o), (1, .ref x0), (0, .ref b)] []) : N Φ k n σ 768 [(4, iv (i : Int)), (3, .ref w), (2, .ref o), (1, .ref x0), (0, .ref b)] [] := by
  obtain ⟨hR, hMW, A, D, f, rfl, hM, hI, hw, ho, hf, hs⟩ := id hJ
  refine n_aload_n C dL_law_768 rfl ?_
  refine n_invV C (p_end hst hM hw hI) ⟨w1_105, w1_108, w1_1, ⟨by decide, by decide⟩, by show _ = some 0; decide +kernel, by decide⟩ w1_106 w1_107 hM.1.1 vC5 (by decide) (by omega) (by omega) (Nat.le_of_ble_eq_true rfl) rfl dL_law_769 (fun r σ1 h' => ?_) (fun _ _ h => h.elim)
  obtain ⟨x, D', rfl, hB, hx⟩ := h'
  obtain ⟨hJ1, -⟩ := LJ.cls hR hMW rfl ho hf hs (GW.own hB rfl rfl rfl rfl) hI hw
  refine n_aload_n C dL_law_772 rfl ?_
  refine n_invV C (c_end hst hR hJ1.2.1 hc hw) ⟨w5_36, w5_39, w1_5, ⟨by decide, by decide⟩, by show _ = some 0; decide +kernel, by decide⟩ w5_37 w5_38 hJ1.2.1.1 (show vwCl[6]? = some ("OperaMachinesModel", TX3, 27) from rfl) (by decide) (by omega) (by omega) (Nat.le_of_ble_eq_true rfl) rfl dL_law_773 (fun r σ2 h' => ?_) (fun _ _ h => h.elim)
  obtain ⟨M1, rfl, hM1, hc1, ht1⟩ := h'
  have hJ2 := hJ1.ref hM1
  refine n_icmpE C 1193 hx dL_law_776 (by decide) ?_
  refine n_keep (lv' := [(4, iv (i : Int)), (3, .ref w), (2, .ref o), (1, .ref (shA A 0)), (0, .ref b)]) [4, 3, 2, 1, 0] rfl ?_
  refine n_widen (k' := k + 20) (n' := n + 200) (by omega) (by omega) ?_
  exact K _ _ _ _ hJ2 hc1
set_option maxRecDepth 100000 in
set_option maxHeartbeats 4000000 in
theorem lc_11 {g : Gx} {Φ : Fx} {k n b L : Nat} {xs : Nat → Int32} {i : Nat} {o w x0 : Nat} {ar : Nat → Nat} {M c : Tb} {v : Int64} {σ : Wd} (hst : g.1.stackTraces = false) (C : Ok g Φ code "OperaMachinesLaw" ret 40 601024 7293034) (hnc : NCx Φ) (X : SX Φ b L xs) (hN : fN Φ = 7) (hL : L ≤ 2560) (hi : i + 5 ≤ L) (hJ : LJ g o w x0 ar M c v σ) (hc : cut M = c) (hk : k + 20 ≤ 601024) (hn : n + 200 ≤ 7293034) (K : ∀ (σ' : Wd) (M' c' : Tb) (v' : Int64), LJ g o w x0 ar M' c' v' σ' → cut M' = c' → N Φ (k + 20) (n + 200) σ' 1193 [(4, iv (i : Int)), (3, .ref w), (2, .ref o), (1, .ref x0), (0, .ref b)] []) : N Φ k n σ 781 [(4, iv (i : Int)), (3, .ref w), (2, .ref o), (1, .ref x0), (0, .ref b)] [] := by
  obtain ⟨hR, -, A0, D0, f0, -, -, -, hw, -⟩ := id hJ
  refine n_aload_n C dL_law_781 rfl ?_
  refine n_aload_n C dL_law_782 rfl ?_
  refine n_iload C dL_law_783 rfl ?_
  refine n_iconst (x := 1) C dL_law_785 ?_
  refine n_iadd C dL_law_786 ?_
  refine n_sld C X (i + 1) (by omega) (by omega) hL dL_law_787 ?_
  refine n_aload_n C dL_law_788 rfl ?_
  refine n_iload C dL_law_789 rfl ?_
  refine n_iconst (x := 2) C dL_law_791 ?_
  refine n_iadd C dL_law_792 ?_
  refine n_sld C X (i + 2) (by omega) (by omega) hL dL_law_793 ?_
  refine n_aload_n C dL_law_794 rfl ?_
  refine n_invSW C hnc (w_place hst (zz_rg xs (i + 1)) (zz_rg xs (i + 2)) hJ) ⟨w4_80, w4_82, w1_0, ⟨by decide, by decide⟩, by show _ = some 4; decide +kernel, by decide⟩ w4_81 (by decide) (by omega) (by omega) (Nat.le_of_ble_eq_true rfl) rfl dL_law_795 (fun r σ1 h' => ?_)
  obtain ⟨v1, rfl, hJ1, hv1⟩ := h'
  refine n_istore (lv' := [(5, iv (cdPlace c (zz xs (i + 1)) (zz xs (i + 2)))), (4, iv (i : Int)), (3, .ref w), (2, .ref o), (1, .ref x0), (0, .ref b)]) C dL_law_798 (by rw [hN]; decide) rfl ?_
  refine n_aload_n C dL_law_800 rfl ?_
  refine n_aload_n C dL_law_801 rfl ?_
  refine n_iload C dL_law_802 rfl ?_
  refine n_iconst (x := 1) C dL_law_804 ?_
  refine n_iadd C dL_law_805 ?_
  refine n_sld C X (i + 1) (by omega) (by omega) hL dL_law_806 ?_
  refine n_aload_n C dL_law_807 rfl ?_
  refine n_iload C dL_law_808 rfl ?_
  refine n_iconst (x := 2) C dL_law_810 ?_
  refine n_iadd C dL_law_811 ?_
  refine n_sld C X (i + 2) (by omega) (by omega) hL dL_law_812 ?_
  refine n_invV C (c_rplace hst (zz_rg xs (i + 1)) (zz_rg xs (i + 2)) hR hJ1.2.1 hc hw) ⟨w5_40, w5_43, w1_5, ⟨by decide, by decide⟩, by show _ = some 2; decide +kernel, by decide⟩ w5_41 w5_42 hJ1.2.1.1 (show vwCl[6]? = some ("OperaMachinesModel", TX3, 27) from rfl) (by decide) (by omega) (by omega) (Nat.le_of_ble_eq_true rfl) rfl dL_law_813 (fun r σ2 h' => ?_) (fun _ _ h => h.elim)
  obtain ⟨y, M1, rfl, hM1, ht1, hy0, hc1⟩ := h'
  have hJ2 := hJ1.ref hM1
  have hc2 : cut M1 = (if cdPlace c (zz xs (i + 1)) (zz xs (i + 2)) = 0 then c else c) := by
    rw [hc1]
    split <;> rfl
  refine n_istore (lv' := [(6, iv y), (5, iv (cdPlace c (zz xs (i + 1)) (zz xs (i + 2)))), (4, iv (i : Int)), (3, .ref w), (2, .ref o), (1, .ref x0), (0, .ref b)]) C dL_law_816 (by rw [hN]; decide) rfl ?_
  refine n_aload_n C dL_law_818 rfl ?_
  refine n_invV C (c_thrown hst hR hJ2.2.1 rfl) ⟨w4_210, w4_213, w1_5, ⟨by decide, by decide⟩, by show _ = some 0; decide +kernel, by decide⟩ w4_211 w4_212 hJ2.2.1.1 (show vwCl[6]? = some ("OperaMachinesModel", TX3, 27) from rfl) (by decide) (by omega) (by omega) (Nat.le_of_ble_eq_true rfl) rfl dL_law_819 (fun r σ3 h' => ?_) (fun _ _ h => h.elim)
  obtain ⟨rfl, hσ⟩ := h'
  rw [hσ, ht1]
  refine n_iload C dL_law_822 rfl ?_
  refine n_icmpE C 829 rfl dL_law_824 (by decide) ?_
  refine n_iload C dL_law_829 rfl ?_
  refine n_if_ne C 846 dL_law_831 (by decide) (cdPlace_rg c (zz xs (i + 1)) (zz xs (i + 2))) (fun _ => ?_) (fun h0 => ?_)
  · refine n_goto C 1193 dL_law_846 (by decide) ?_
    refine n_keep (lv' := [(4, iv (i : Int)), (3, .ref w), (2, .ref o), (1, .ref x0), (0, .ref b)]) [4, 3, 2, 1, 0] rfl ?_
    refine n_widen (k' := k + 20) (n' := n + 200) (by omega) (by omega) ?_
    exact K _ _ _ _ hJ2 hc2
  · obtain ⟨-, -, A2, D2, f2, -, -, -, -, hw2, hf2, -⟩ := id hJ2
    refine n_aload_n C dL_law_834 rfl ?_
    refine n_iconst (x := 0) C dL_law_835 ?_
    refine n_lald C hw2 (by omega) (by omega) (by omega) dL_law_836 ?_
    refine n_iload C dL_law_837 rfl ?_
    refine n_i2l C dL_law_839 ?_
    refine n_lcmpE C (show f2 0 = (iI y).toInt64 from by rw [hf2, hv1 _ rfl h0]; rw [(hy0 h0)]) dL_law_840 ?_
    refine n_if_eq C 846 dL_law_841 (by decide) rg_0 (fun _ => ?_) (fun h => (h rfl).elim)
    refine n_goto C 1193 dL_law_846 (by decide) ?_
    refine n_keep (lv' := [(4, iv (i : Int)), (3, .ref w), (2, .ref o), (1, .ref x0), (0, .ref b)]) [4, 3, 2, 1, 0] rfl ?_
    refine n_widen (k' := k + 20) (n' := n + 200) (by omega) (by omega) ?_
    exact K _ _ _ _ hJ2 hc2
set_option maxRecDepth 100000 in
set_option maxHeartbeats 4000000 in
theorem lc_12 {g : Gx} {Φ : Fx} {k n b L : Nat} {xs : Nat → Int32} {i : Nat} {o w x0 : Nat} {ar : Nat → Nat} {M c : Tb} {v : Int64} {σ : Wd} (hst : g.1.stackTraces = false) (C : Ok g Φ code "OperaMachinesLaw" ret 40 601024 7293034) (hnc : NCx Φ) (X : SX Φ b L xs) (hN : fN Φ = 7) (hL : L ≤ 2560) (hi : i + 5 ≤ L) (hJ : LJ g o w x0 ar M c v σ) (hc : cut M = c) (hk : k + 20 ≤ 601024) (hn : n + 200 ≤ 7293034) (K : ∀ (σ' : Wd) (M' c' : Tb) (v' : Int64), LJ g o w x0 ar M' c' v' σ' → cut M' = c' → N Φ (k + 20) (n + 200) σ' 1193 [(4, iv (i : Int)), (3, .ref w), (2, .ref o), (1, .ref x0), (0, .ref b)] []) : N Φ k n σ 849 [(4, iv (i : Int)), (3, .ref w), (2, .ref o), (1, .ref x0), (0, .ref b)] [] := by
  obtain ⟨hR, -, A0, D0, f0, -, -, -, hw, -⟩ := id hJ
  refine n_aload_n C dL_law_849 rfl ?_
  refine n_aload_n C dL_law_850 rfl ?_
  refine n_iload C dL_law_851 rfl ?_
  refine n_iconst (x := 1) C dL_law_853 ?_
  refine n_iadd C dL_law_854 ?_
  refine n_sld C X (i + 1) (by omega) (by omega) hL dL_law_855 ?_
  refine n_aload_n C dL_law_856 rfl ?_
  refine n_iload C dL_law_857 rfl ?_
  refine n_iconst (x := 2) C dL_law_859 ?_
  refine n_iadd C dL_law_860 ?_
  refine n_sld C X (i + 2) (by omega) (by omega) hL dL_law_861 ?_
  refine n_aload_n C dL_law_862 rfl ?_
  refine n_invSW C hnc (w_placeAtBar hst (zz_rg xs (i + 1)) (zz_rg xs (i + 2)) hJ) ⟨w4_87, w4_89, w1_0, ⟨by decide, by decide⟩, by show _ = some 4; decide +kernel, by decide⟩ w4_88 (by decide) (by omega) (by omega) (Nat.le_of_ble_eq_true rfl) rfl dL_law_863 (fun r σ1 h' => ?_)
  obtain ⟨v1, rfl, hJ1, hv1⟩ := h'
  refine n_istore (lv' := [(5, iv (cdBar c (zz xs (i + 1)) (zz xs (i + 2)))), (4, iv (i : Int)), (3, .ref w), (2, .ref o), (1, .ref x0), (0, .ref b)]) C dL_law_866 (by rw [hN]; decide) rfl ?_
  refine n_aload_n C dL_law_868 rfl ?_
  refine n_aload_n C dL_law_869 rfl ?_
  refine n_iload C dL_law_870 rfl ?_
  refine n_iconst (x := 1) C dL_law_872 ?_
  refine n_iadd C dL_law_873 ?_
  refine n_sld C X (i + 1) (by omega) (by omega) hL dL_law_874 ?_
  refine n_aload_n C dL_law_875 rfl ?_
  refine n_iload C dL_law_876 rfl ?_
  refine n_iconst (x := 2) C dL_law_878 ?_
  refine n_iadd C dL_law_879 ?_
  refine n_sld C X (i + 2) (by omega) (by omega) hL dL_law_880 ?_
  refine n_invV C (c_rplaceAtBar hst (zz_rg xs (i + 1)) (zz_rg xs (i + 2)) hR hJ1.2.1 hc hw) ⟨w5_60, w5_63, w1_5, ⟨by decide, by decide⟩, by show _ = some 2; decide +kernel, by decide⟩ w5_61 w5_62 hJ1.2.1.1 (show vwCl[6]? = some ("OperaMachinesModel", TX3, 27) from rfl) (by decide) (by omega) (by omega) (Nat.le_of_ble_eq_true rfl) rfl dL_law_881 (fun r σ2 h' => ?_) (fun _ _ h => h.elim)
  obtain ⟨y, M1, rfl, hM1, ht1, hy0, hc1⟩ := h'
  have hJ2 := hJ1.ref hM1
  have hc2 : cut M1 = (if cdBar c (zz xs (i + 1)) (zz xs (i + 2)) = 0 then c else c) := by
    rw [hc1]
    split <;> rfl
  refine n_istore (lv' := [(6, iv y), (5, iv (cdBar c (zz xs (i + 1)) (zz xs (i + 2)))), (4, iv (i : Int)), (3, .ref w), (2, .ref o), (1, .ref x0), (0, .ref b)]) C dL_law_884 (by rw [hN]; decide) rfl ?_
  refine n_aload_n C dL_law_886 rfl ?_
  refine n_invV C (c_thrown hst hR hJ2.2.1 rfl) ⟨w4_210, w4_213, w1_5, ⟨by decide, by decide⟩, by show _ = some 0; decide +kernel, by decide⟩ w4_211 w4_212 hJ2.2.1.1 (show vwCl[6]? = some ("OperaMachinesModel", TX3, 27) from rfl) (by decide) (by omega) (by omega) (Nat.le_of_ble_eq_true rfl) rfl dL_law_887 (fun r σ3 h' => ?_) (fun _ _ h => h.elim)
  obtain ⟨rfl, hσ⟩ := h'
  rw [hσ, ht1]
  refine n_iload C dL_law_890 rfl ?_
  refine n_icmpE C 897 rfl dL_law_892 (by decide) ?_
  refine n_iload C dL_law_897 rfl ?_
  refine n_if_ne C 914 dL_law_899 (by decide) (cdBar_rg c (zz xs (i + 1)) (zz xs (i + 2))) (fun _ => ?_) (fun h0 => ?_)
  · refine n_goto C 1193 dL_law_914 (by decide) ?_
    refine n_keep (lv' := [(4, iv (i : Int)), (3, .ref w), (2, .ref o), (1, .ref x0), (0, .ref b)]) [4, 3, 2, 1, 0] rfl ?_
    refine n_widen (k' := k + 20) (n' := n + 200) (by omega) (by omega) ?_
    exact K _ _ _ _ hJ2 hc2
  · obtain ⟨-, -, A2, D2, f2, -, -, -, -, hw2, hf2, -⟩ := id hJ2
    refine n_aload_n C dL_law_902 rfl ?_
    refine n_iconst (x := 0) C dL_law_903 ?_
    refine n_lald C hw2 (by omega) (by omega) (by omega) dL_law_904 ?_
    refine n_iload C dL_law_905 rfl ?_
    refine n_i2l C dL_law_907 ?_
    refine n_lcmpE C (show f2 0 = (iI y).toInt64 from by rw [hf2, hv1 _ rfl h0]; rw [(hy0 h0)]) dL_law_908 ?_
    refine n_if_eq C 914 dL_law_909 (by decide) rg_0 (fun _ => ?_) (fun h => (h rfl).elim)
    refine n_goto C 1193 dL_law_914 (by decide) ?_
    refine n_keep (lv' := [(4, iv (i : Int)), (3, .ref w), (2, .ref o), (1, .ref x0), (0, .ref b)]) [4, 3, 2, 1, 0] rfl ?_
    refine n_widen (k' := k + 20) (n' := n + 200) (by omega) (by omega) ?_
    exact K _ _ _ _ hJ2 hc2
set_option maxRecDepth 100000 in
set_option maxHeartbeats 4000000 in
theorem lc_13 {g : Gx} {Φ : Fx} {k n b L : Nat} {xs : Nat → Int32} {i : Nat} {o w x0 : Nat} {ar : Nat → Nat} {M c : Tb} {v : Int64} {σ : Wd} (hst : g.1.stackTraces = false) (C : Ok g Φ code "OperaMachinesLaw" ret 40 601024 7293034) (hnc : NCx Φ) (X : SX Φ b L xs) (hN : fN Φ = 7) (hL : L ≤ 2560) (hi : i + 5 ≤ L) (hJ : LJ g o w x0 ar M c v σ) (hc : cut M = c) (hk : k + 20 ≤ 601024) (hn : n + 200 ≤ 7293034) (K : ∀ (σ' : Wd) (M' c' : Tb) (v' : Int64), LJ g o w x0 ar M' c' v' σ' → cut M' = c' → N Φ (k + 20) (n + 200) σ' 1193 [(4, iv (i : Int)), (3, .ref w), (2, .ref o), (1, .ref x0), (0, .ref b)] []) : N Φ k n σ 917 [(4, iv (i : Int)), (3, .ref w), (2, .ref o), (1, .ref x0), (0, .ref b)] [] := by
  obtain ⟨hR, hMW, A, D, f, rfl, hM, hI, hw, ho, hf, hs⟩ := id hJ
  refine n_aload_n C dL_law_917 rfl ?_
  refine n_invV C (p_meeting hst hM hw hI) ⟨w1_109, w1_112, w1_1, ⟨by decide, by decide⟩, by show _ = some 0; decide +kernel, by decide⟩ w1_110 w1_111 hM.1.1 vC5 (by decide) (by omega) (by omega) (Nat.le_of_ble_eq_true rfl) rfl dL_law_918 (fun r σ1 h' => ?_) (fun _ _ h => h.elim)
  obtain ⟨x, D', rfl, hB, hx⟩ := h'
  obtain ⟨hJ1, -⟩ := LJ.cls hR hMW rfl ho hf hs (GW.own hB rfl rfl rfl rfl) hI hw
  refine n_aload_n C dL_law_921 rfl ?_
  refine n_invV C (c_rmeeting hst hR hJ1.2.1 hc hw) ⟨w5_64, w5_67, w1_5, ⟨by decide, by decide⟩, by show _ = some 0; decide +kernel, by decide⟩ w5_65 w5_66 hJ1.2.1.1 (show vwCl[6]? = some ("OperaMachinesModel", TX3, 27) from rfl) (by decide) (by omega) (by omega) (Nat.le_of_ble_eq_true rfl) rfl dL_law_922 (fun r σ2 h' => ?_) (fun _ _ h => h.elim)
  obtain ⟨M1, rfl, hM1, hc1, ht1⟩ := h'
  have hJ2 := hJ1.ref hM1
  refine n_icmpE C 1193 hx dL_law_925 (by decide) ?_
  refine n_keep (lv' := [(4, iv (i : Int)), (3, .ref w), (2, .ref o), (1, .ref (shA A 0)), (0, .ref b)]) [4, 3, 2, 1, 0] rfl ?_
  refine n_widen (k' := k + 20) (n' := n + 200) (by omega) (by omega) ?_
  exact K _ _ _ _ hJ2 hc1
set_option maxRecDepth 100000 in
set_option maxHeartbeats 4000000 in
theorem lc_14 {g : Gx} {Φ : Fx} {k n b L : Nat} {xs : Nat → Int32} {i : Nat} {o w x0 : Nat} {ar : Nat → Nat} {M c : Tb} {v : Int64} {σ : Wd} (hst : g.1.stackTraces = false) (C : Ok g Φ code "OperaMachinesLaw" ret 40 601024 7293034) (hnc : NCx Φ) (X : SX Φ b L xs) (hN : fN Φ = 7) (hL : L ≤ 2560) (hi : i + 5 ≤ L) (hJ : LJ g o w x0 ar M c v σ) (hc : cut M = c) (hk : k + 20 ≤ 601024) (hn : n + 200 ≤ 7293034) (K : ∀ (σ' : Wd) (M' c' : Tb) (v' : Int64), LJ g o w x0 ar M' c' v' σ' → cut M' = c' → N Φ (k + 20) (n + 200) σ' 1193 [(4, iv (i : Int)), (3, .ref w), (2, .ref o), (1, .ref x0), (0, .ref b)] []) : N Φ k n σ 930 [(4, iv (i : Int)), (3, .ref w), (2, .ref o), (1, .ref x0), (0, .ref b)] [] := by
  obtain ⟨hR, hMW, A, D, f, rfl, hM, hI, hw, ho, hf, hs⟩ := id hJ
  refine n_aload_n C dL_law_930 rfl ?_
  refine n_invV C (p_meeters hst hM hw hI) ⟨w1_186, w1_189, w1_1, ⟨by decide, by decide⟩, by show _ = some 0; decide +kernel, by decide⟩ w1_187 w1_188 hM.1.1 vC5 (by decide) (by omega) (by omega) (Nat.le_of_ble_eq_true rfl) rfl dL_law_931 (fun r σ1 h' => ?_) (fun _ _ h => h.elim)
  obtain ⟨x, D', rfl, hB, hx⟩ := h'
  obtain ⟨hJ1, -⟩ := LJ.cls hR hMW rfl ho hf hs (GW.own hB rfl rfl rfl rfl) hI hw
  refine n_aload_n C dL_law_934 rfl ?_
  refine n_invV C (c_rmeeters hst hR hJ1.2.1 hc hw) ⟨w5_80, w5_83, w1_5, ⟨by decide, by decide⟩, by show _ = some 0; decide +kernel, by decide⟩ w5_81 w5_82 hJ1.2.1.1 (show vwCl[6]? = some ("OperaMachinesModel", TX3, 27) from rfl) (by decide) (by omega) (by omega) (Nat.le_of_ble_eq_true rfl) rfl dL_law_935 (fun r σ2 h' => ?_) (fun _ _ h => h.elim)
  obtain ⟨M1, rfl, hM1, hc1, ht1⟩ := h'
  have hJ2 := hJ1.ref hM1
  refine n_icmpE C 1193 hx dL_law_938 (by decide) ?_
  refine n_keep (lv' := [(4, iv (i : Int)), (3, .ref w), (2, .ref o), (1, .ref (shA A 0)), (0, .ref b)]) [4, 3, 2, 1, 0] rfl ?_
  refine n_widen (k' := k + 20) (n' := n + 200) (by omega) (by omega) ?_
  exact K _ _ _ _ hJ2 hc1
set_option maxRecDepth 100000 in
set_option maxHeartbeats 4000000 in
theorem lc_15 {g : Gx} {Φ : Fx} {k n b L : Nat} {xs : Nat → Int32} {i : Nat} {o w x0 : Nat} {ar : Nat → Nat} {M c : Tb} {v : Int64} {σ : Wd} (hst : g.1.stackTraces = false) (C : Ok g Φ code "OperaMachinesLaw" ret 40 601024 7293034) (hnc : NCx Φ) (X : SX Φ b L xs) (hN : fN Φ = 7) (hL : L ≤ 2560) (hi : i + 5 ≤ L) (hJ : LJ g o w x0 ar M c v σ) (hc : cut M = c) (hk : k + 20 ≤ 601024) (hn : n + 200 ≤ 7293034) (K : ∀ (σ' : Wd) (M' c' : Tb) (v' : Int64), LJ g o w x0 ar M' c' v' σ' → cut M' = c' → N Φ (k + 20) (n + 200) σ' 1193 [(4, iv (i : Int)), (3, .ref w), (2, .ref o), (1, .ref x0), (0, .ref b)] []) : N Φ k n σ 943 [(4, iv (i : Int)), (3, .ref w), (2, .ref o), (1, .ref x0), (0, .ref b)] [] := by
  obtain ⟨hR, -, A0, D0, f0, -, -, -, hw, -⟩ := id hJ
  refine n_aload_n C dL_law_943 rfl ?_
  refine n_aload_n C dL_law_944 rfl ?_
  refine n_iload C dL_law_945 rfl ?_
  refine n_iconst (x := 1) C dL_law_947 ?_
  refine n_iadd C dL_law_948 ?_
  refine n_sld C X (i + 1) (by omega) (by omega) hL dL_law_949 ?_
  refine n_aload_n C dL_law_950 rfl ?_
  refine n_invSW C hnc (w_worker hst (zz_rg xs (i + 1)) hJ) ⟨w4_94, w4_96, w1_0, ⟨by decide, by decide⟩, by show _ = some 3; decide +kernel, by decide⟩ w4_95 (by decide) (by omega) (by omega) (Nat.le_of_ble_eq_true rfl) rfl dL_law_951 (fun r σ1 h' => ?_)
  obtain ⟨v1, rfl, hJ1, hv1⟩ := h'
  refine n_istore (lv' := [(5, iv (cdIs c (zz xs (i + 1)))), (4, iv (i : Int)), (3, .ref w), (2, .ref o), (1, .ref x0), (0, .ref b)]) C dL_law_954 (by rw [hN]; decide) rfl ?_
  refine n_aload_n C dL_law_956 rfl ?_
  refine n_aload_n C dL_law_957 rfl ?_
  refine n_iload C dL_law_958 rfl ?_
  refine n_iconst (x := 1) C dL_law_960 ?_
  refine n_iadd C dL_law_961 ?_
  refine n_sld C X (i + 1) (by omega) (by omega) hL dL_law_962 ?_
  refine n_invV C (c_rworker hst (zz_rg xs (i + 1)) hR hJ1.2.1 hc hw) ⟨w5_84, w5_87, w1_5, ⟨by decide, by decide⟩, by show _ = some 1; decide +kernel, by decide⟩ w5_85 w5_86 hJ1.2.1.1 (show vwCl[6]? = some ("OperaMachinesModel", TX3, 27) from rfl) (by decide) (by omega) (by omega) (Nat.le_of_ble_eq_true rfl) rfl dL_law_963 (fun r σ2 h' => ?_) (fun _ _ h => h.elim)
  obtain ⟨y, M1, rfl, hM1, ht1, hy0, hc1⟩ := h'
  have hJ2 := hJ1.ref hM1
  have hc2 : cut M1 = (if cdIs c (zz xs (i + 1)) = 0 then c else c) := by
    rw [hc1]
    split <;> rfl
  refine n_istore (lv' := [(6, iv y), (5, iv (cdIs c (zz xs (i + 1)))), (4, iv (i : Int)), (3, .ref w), (2, .ref o), (1, .ref x0), (0, .ref b)]) C dL_law_966 (by rw [hN]; decide) rfl ?_
  refine n_aload_n C dL_law_968 rfl ?_
  refine n_invV C (c_thrown hst hR hJ2.2.1 rfl) ⟨w4_210, w4_213, w1_5, ⟨by decide, by decide⟩, by show _ = some 0; decide +kernel, by decide⟩ w4_211 w4_212 hJ2.2.1.1 (show vwCl[6]? = some ("OperaMachinesModel", TX3, 27) from rfl) (by decide) (by omega) (by omega) (Nat.le_of_ble_eq_true rfl) rfl dL_law_969 (fun r σ3 h' => ?_) (fun _ _ h => h.elim)
  obtain ⟨rfl, hσ⟩ := h'
  rw [hσ, ht1]
  refine n_iload C dL_law_972 rfl ?_
  refine n_icmpE C 979 rfl dL_law_974 (by decide) ?_
  refine n_iload C dL_law_979 rfl ?_
  refine n_if_ne C 996 dL_law_981 (by decide) (cdIs_rg c (zz xs (i + 1))) (fun _ => ?_) (fun h0 => ?_)
  · refine n_goto C 1193 dL_law_996 (by decide) ?_
    refine n_keep (lv' := [(4, iv (i : Int)), (3, .ref w), (2, .ref o), (1, .ref x0), (0, .ref b)]) [4, 3, 2, 1, 0] rfl ?_
    refine n_widen (k' := k + 20) (n' := n + 200) (by omega) (by omega) ?_
    exact K _ _ _ _ hJ2 hc2
  · obtain ⟨-, -, A2, D2, f2, -, -, -, -, hw2, hf2, -⟩ := id hJ2
    refine n_aload_n C dL_law_984 rfl ?_
    refine n_iconst (x := 0) C dL_law_985 ?_
    refine n_lald C hw2 (by omega) (by omega) (by omega) dL_law_986 ?_
    refine n_iload C dL_law_987 rfl ?_
    refine n_i2l C dL_law_989 ?_
    refine n_lcmpE C (show f2 0 = (iI y).toInt64 from by rw [hf2, hv1 _ rfl h0]; rw [(hy0 h0)]) dL_law_990 ?_
    refine n_if_eq C 996 dL_law_991 (by decide) rg_0 (fun _ => ?_) (fun h => (h rfl).elim)
    refine n_goto C 1193 dL_law_996 (by decide) ?_
    refine n_keep (lv' := [(4, iv (i : Int)), (3, .ref w), (2, .ref o), (1, .ref x0), (0, .ref b)]) [4, 3, 2, 1, 0] rfl ?_
    refine n_widen (k' := k + 20) (n' := n + 200) (by omega) (by omega) ?_
    exact K _ _ _ _ hJ2 hc2
set_option maxRecDepth 100000 in
set_option maxHeartbeats 4000000 in
theorem lc_16 {g : Gx} {Φ : Fx} {k n b L : Nat} {xs : Nat → Int32} {i : Nat} {o w x0 : Nat} {ar : Nat → Nat} {M c : Tb} {v : Int64} {σ : Wd} (hst : g.1.stackTraces = false) (C : Ok g Φ code "OperaMachinesLaw" ret 40 601024 7293034) (hnc : NCx Φ) (X : SX Φ b L xs) (hN : fN Φ = 7) (hL : L ≤ 2560) (hi : i + 5 ≤ L) (hJ : LJ g o w x0 ar M c v σ) (hc : cut M = c) (hk : k + 20 ≤ 601024) (hn : n + 200 ≤ 7293034) (K : ∀ (σ' : Wd) (M' c' : Tb) (v' : Int64), LJ g o w x0 ar M' c' v' σ' → cut M' = c' → N Φ (k + 20) (n + 200) σ' 1193 [(4, iv (i : Int)), (3, .ref w), (2, .ref o), (1, .ref x0), (0, .ref b)] []) : N Φ k n σ 999 [(4, iv (i : Int)), (3, .ref w), (2, .ref o), (1, .ref x0), (0, .ref b)] [] := by
  obtain ⟨hR, -, A0, D0, f0, -, -, -, hw, -⟩ := id hJ
  refine n_aload_n C dL_law_999 rfl ?_
  refine n_aload_n C dL_law_1000 rfl ?_
  refine n_iload C dL_law_1001 rfl ?_
  refine n_iconst (x := 1) C dL_law_1003 ?_
  refine n_iadd C dL_law_1004 ?_
  refine n_sld C X (i + 1) (by omega) (by omega) hL dL_law_1005 ?_
  refine n_aload_n C dL_law_1006 rfl ?_
  refine n_invSW C hnc (w_takes hst (zz_rg xs (i + 1)) hJ) ⟨w4_101, w4_103, w1_0, ⟨by decide, by decide⟩, by show _ = some 3; decide +kernel, by decide⟩ w4_102 (by decide) (by omega) (by omega) (Nat.le_of_ble_eq_true rfl) rfl dL_law_1007 (fun r σ1 h' => ?_)
  obtain ⟨v1, rfl, hJ1, hv1⟩ := h'
  refine n_istore (lv' := [(5, iv (cdIs c (zz xs (i + 1)))), (4, iv (i : Int)), (3, .ref w), (2, .ref o), (1, .ref x0), (0, .ref b)]) C dL_law_1010 (by rw [hN]; decide) rfl ?_
  refine n_aload_n C dL_law_1012 rfl ?_
  refine n_aload_n C dL_law_1013 rfl ?_
  refine n_iload C dL_law_1014 rfl ?_
  refine n_iconst (x := 1) C dL_law_1016 ?_
  refine n_iadd C dL_law_1017 ?_
  refine n_sld C X (i + 1) (by omega) (by omega) hL dL_law_1018 ?_
  refine n_invV C (c_rtakes hst (zz_rg xs (i + 1)) hR hJ1.2.1 hc hw) ⟨w5_92, w5_95, w1_5, ⟨by decide, by decide⟩, by show _ = some 1; decide +kernel, by decide⟩ w5_93 w5_94 hJ1.2.1.1 (show vwCl[6]? = some ("OperaMachinesModel", TX3, 27) from rfl) (by decide) (by omega) (by omega) (Nat.le_of_ble_eq_true rfl) rfl dL_law_1019 (fun r σ2 h' => ?_) (fun _ _ h => h.elim)
  obtain ⟨y, M1, rfl, hM1, ht1, hy0, hc1⟩ := h'
  have hJ2 := hJ1.ref hM1
  have hc2 : cut M1 = (if cdIs c (zz xs (i + 1)) = 0 then c else c) := by
    rw [hc1]
    split <;> rfl
  refine n_istore (lv' := [(6, iv y), (5, iv (cdIs c (zz xs (i + 1)))), (4, iv (i : Int)), (3, .ref w), (2, .ref o), (1, .ref x0), (0, .ref b)]) C dL_law_1022 (by rw [hN]; decide) rfl ?_
  refine n_aload_n C dL_law_1024 rfl ?_
  refine n_invV C (c_thrown hst hR hJ2.2.1 rfl) ⟨w4_210, w4_213, w1_5, ⟨by decide, by decide⟩, by show _ = some 0; decide +kernel, by decide⟩ w4_211 w4_212 hJ2.2.1.1 (show vwCl[6]? = some ("OperaMachinesModel", TX3, 27) from rfl) (by decide) (by omega) (by omega) (Nat.le_of_ble_eq_true rfl) rfl dL_law_1025 (fun r σ3 h' => ?_) (fun _ _ h => h.elim)
  obtain ⟨rfl, hσ⟩ := h'
  rw [hσ, ht1]
  refine n_iload C dL_law_1028 rfl ?_
  refine n_icmpE C 1035 rfl dL_law_1030 (by decide) ?_
  refine n_iload C dL_law_1035 rfl ?_
  refine n_if_ne C 1052 dL_law_1037 (by decide) (cdIs_rg c (zz xs (i + 1))) (fun _ => ?_) (fun h0 => ?_)
  · refine n_goto C 1193 dL_law_1052 (by decide) ?_
    refine n_keep (lv' := [(4, iv (i : Int)), (3, .ref w), (2, .ref o), (1, .ref x0), (0, .ref b)]) [4, 3, 2, 1, 0] rfl ?_
    refine n_widen (k' := k + 20) (n' := n + 200) (by omega) (by omega) ?_
    exact K _ _ _ _ hJ2 hc2
  · obtain ⟨-, -, A2, D2, f2, -, -, -, -, hw2, hf2, -⟩ := id hJ2
    refine n_aload_n C dL_law_1040 rfl ?_
    refine n_iconst (x := 0) C dL_law_1041 ?_
    refine n_lald C hw2 (by omega) (by omega) (by omega) dL_law_1042 ?_
    refine n_iload C dL_law_1043 rfl ?_
    refine n_i2l C dL_law_1045 ?_
    refine n_lcmpE C (show f2 0 = (iI y).toInt64 from by rw [hf2, hv1 _ rfl h0]; rw [(hy0 h0)]) dL_law_1046 ?_
    refine n_if_eq C 1052 dL_law_1047 (by decide) rg_0 (fun _ => ?_) (fun h => (h rfl).elim)
    refine n_goto C 1193 dL_law_1052 (by decide) ?_
    refine n_keep (lv' := [(4, iv (i : Int)), (3, .ref w), (2, .ref o), (1, .ref x0), (0, .ref b)]) [4, 3, 2, 1, 0] rfl ?_
    refine n_widen (k' := k + 20) (n' := n + 200) (by omega) (by omega) ?_
    exact K _ _ _ _ hJ2 hc2
set_option maxRecDepth 100000 in
set_option maxHeartbeats 4000000 in
theorem lc_17 {g : Gx} {Φ : Fx} {k n b L : Nat} {xs : Nat → Int32} {i : Nat} {o w x0 : Nat} {ar : Nat → Nat} {M c : Tb} {v : Int64} {σ : Wd} (hst : g.1.stackTraces = false) (C : Ok g Φ code "OperaMachinesLaw" ret 40 601024 7293034) (hnc : NCx Φ) (X : SX Φ b L xs) (hN : fN Φ = 7) (hL : L ≤ 2560) (hi : i + 5 ≤ L) (hJ : LJ g o w x0 ar M c v σ) (hc : cut M = c) (hk : k + 20 ≤ 601024) (hn : n + 200 ≤ 7293034) (K : ∀ (σ' : Wd) (M' c' : Tb) (v' : Int64), LJ g o w x0 ar M' c' v' σ' → cut M' = c' → N Φ (k + 20) (n + 200) σ' 1193 [(4, iv (i : Int)), (3, .ref w), (2, .ref o), (1, .ref x0), (0, .ref b)] []) : N Φ k n σ 1055 [(4, iv (i : Int)), (3, .ref w), (2, .ref o), (1, .ref x0), (0, .ref b)] [] := by
  obtain ⟨hR, -, A0, D0, f0, -, -, -, hw, -⟩ := id hJ
  refine n_aload_n C dL_law_1055 rfl ?_
  refine n_aload_n C dL_law_1056 rfl ?_
  refine n_iload C dL_law_1057 rfl ?_
  refine n_iconst (x := 1) C dL_law_1059 ?_
  refine n_iadd C dL_law_1060 ?_
  refine n_sld C X (i + 1) (by omega) (by omega) hL dL_law_1061 ?_
  refine n_aload_n C dL_law_1062 rfl ?_
  refine n_invSW C hnc (w_clashes hst (zz_rg xs (i + 1)) hJ) ⟨w4_108, w4_110, w1_0, ⟨by decide, by decide⟩, by show _ = some 3; decide +kernel, by decide⟩ w4_109 (by decide) (by omega) (by omega) (Nat.le_of_ble_eq_true rfl) rfl dL_law_1063 (fun r σ1 h' => ?_)
  obtain ⟨v1, rfl, hJ1, hv1⟩ := h'
  refine n_istore (lv' := [(5, iv (cdWork (zz xs (i + 1)))), (4, iv (i : Int)), (3, .ref w), (2, .ref o), (1, .ref x0), (0, .ref b)]) C dL_law_1066 (by rw [hN]; decide) rfl ?_
  refine n_aload_n C dL_law_1068 rfl ?_
  refine n_aload_n C dL_law_1069 rfl ?_
  refine n_iload C dL_law_1070 rfl ?_
  refine n_iconst (x := 1) C dL_law_1072 ?_
  refine n_iadd C dL_law_1073 ?_
  refine n_sld C X (i + 1) (by omega) (by omega) hL dL_law_1074 ?_
  refine n_invV C (c_rclashes hst (zz_rg xs (i + 1)) hR hJ1.2.1 hc hw) ⟨w5_96, w5_99, w1_5, ⟨by decide, by decide⟩, by show _ = some 1; decide +kernel, by decide⟩ w5_97 w5_98 hJ1.2.1.1 (show vwCl[6]? = some ("OperaMachinesModel", TX3, 27) from rfl) (by decide) (by omega) (by omega) (Nat.le_of_ble_eq_true rfl) rfl dL_law_1075 (fun r σ2 h' => ?_) (fun _ _ h => h.elim)
  obtain ⟨y, M1, rfl, hM1, ht1, hy0, hc1⟩ := h'
  have hJ2 := hJ1.ref hM1
  have hc2 : cut M1 = (if cdWork (zz xs (i + 1)) = 0 then c else c) := by
    rw [hc1]
    split <;> rfl
  refine n_istore (lv' := [(6, iv y), (5, iv (cdWork (zz xs (i + 1)))), (4, iv (i : Int)), (3, .ref w), (2, .ref o), (1, .ref x0), (0, .ref b)]) C dL_law_1078 (by rw [hN]; decide) rfl ?_
  refine n_aload_n C dL_law_1080 rfl ?_
  refine n_invV C (c_thrown hst hR hJ2.2.1 rfl) ⟨w4_210, w4_213, w1_5, ⟨by decide, by decide⟩, by show _ = some 0; decide +kernel, by decide⟩ w4_211 w4_212 hJ2.2.1.1 (show vwCl[6]? = some ("OperaMachinesModel", TX3, 27) from rfl) (by decide) (by omega) (by omega) (Nat.le_of_ble_eq_true rfl) rfl dL_law_1081 (fun r σ3 h' => ?_) (fun _ _ h => h.elim)
  obtain ⟨rfl, hσ⟩ := h'
  rw [hσ, ht1]
  refine n_iload C dL_law_1084 rfl ?_
  refine n_icmpE C 1091 rfl dL_law_1086 (by decide) ?_
  refine n_iload C dL_law_1091 rfl ?_
  refine n_if_ne C 1108 dL_law_1093 (by decide) (cdWork_rg (zz xs (i + 1))) (fun _ => ?_) (fun h0 => ?_)
  · refine n_goto C 1193 dL_law_1108 (by decide) ?_
    refine n_keep (lv' := [(4, iv (i : Int)), (3, .ref w), (2, .ref o), (1, .ref x0), (0, .ref b)]) [4, 3, 2, 1, 0] rfl ?_
    refine n_widen (k' := k + 20) (n' := n + 200) (by omega) (by omega) ?_
    exact K _ _ _ _ hJ2 hc2
  · obtain ⟨-, -, A2, D2, f2, -, -, -, -, hw2, hf2, -⟩ := id hJ2
    refine n_aload_n C dL_law_1096 rfl ?_
    refine n_iconst (x := 0) C dL_law_1097 ?_
    refine n_lald C hw2 (by omega) (by omega) (by omega) dL_law_1098 ?_
    refine n_iload C dL_law_1099 rfl ?_
    refine n_i2l C dL_law_1101 ?_
    refine n_lcmpE C (show f2 0 = (iI y).toInt64 from by rw [hf2, hv1 _ rfl h0]; rw [(hy0 h0)]) dL_law_1102 ?_
    refine n_if_eq C 1108 dL_law_1103 (by decide) rg_0 (fun _ => ?_) (fun h => (h rfl).elim)
    refine n_goto C 1193 dL_law_1108 (by decide) ?_
    refine n_keep (lv' := [(4, iv (i : Int)), (3, .ref w), (2, .ref o), (1, .ref x0), (0, .ref b)]) [4, 3, 2, 1, 0] rfl ?_
    refine n_widen (k' := k + 20) (n' := n + 200) (by omega) (by omega) ?_
    exact K _ _ _ _ hJ2 hc2
set_option maxRecDepth 100000 in
set_option maxHeartbeats 4000000 in
theorem lc_18 {g : Gx} {Φ : Fx} {k n b L : Nat} {xs : Nat → Int32} {i : Nat} {o w x0 : Nat} {ar : Nat → Nat} {M c : Tb} {v : Int64} {σ : Wd} (hst : g.1.stackTraces = false) (C : Ok g Φ code "OperaMachinesLaw" ret 40 601024 7293034) (hnc : NCx Φ) (X : SX Φ b L xs) (hN : fN Φ = 7) (hL : L ≤ 2560) (hi : i + 5 ≤ L) (hJ : LJ g o w x0 ar M c v σ) (hc : cut M = c) (hk : k + 20 ≤ 601024) (hn : n + 200 ≤ 7293034) (K : ∀ (σ' : Wd) (M' c' : Tb) (v' : Int64), LJ g o w x0 ar M' c' v' σ' → cut M' = c' → N Φ (k + 20) (n + 200) σ' 1193 [(4, iv (i : Int)), (3, .ref w), (2, .ref o), (1, .ref x0), (0, .ref b)] []) : N Φ k n σ 1111 [(4, iv (i : Int)), (3, .ref w), (2, .ref o), (1, .ref x0), (0, .ref b)] [] := by
  obtain ⟨hR, -, A0, D0, f0, -, -, -, hw, -⟩ := id hJ
  refine n_aload_n C dL_law_1111 rfl ?_
  refine n_aload_n C dL_law_1112 rfl ?_
  refine n_iload C dL_law_1113 rfl ?_
  refine n_iconst (x := 1) C dL_law_1115 ?_
  refine n_iadd C dL_law_1116 ?_
  refine n_sld C X (i + 1) (by omega) (by omega) hL dL_law_1117 ?_
  refine n_aload_n C dL_law_1118 rfl ?_
  refine n_invSW C hnc (w_overtime hst (zz_rg xs (i + 1)) hJ) ⟨w4_115, w4_117, w1_0, ⟨by decide, by decide⟩, by show _ = some 3; decide +kernel, by decide⟩ w4_116 (by decide) (by omega) (by omega) (Nat.le_of_ble_eq_true rfl) rfl dL_law_1119 (fun r σ1 h' => ?_)
  obtain ⟨v1, rfl, hJ1, hv1⟩ := h'
  refine n_istore (lv' := [(5, iv (cdWork (zz xs (i + 1)))), (4, iv (i : Int)), (3, .ref w), (2, .ref o), (1, .ref x0), (0, .ref b)]) C dL_law_1122 (by rw [hN]; decide) rfl ?_
  refine n_aload_n C dL_law_1124 rfl ?_
  refine n_aload_n C dL_law_1125 rfl ?_
  refine n_iload C dL_law_1126 rfl ?_
  refine n_iconst (x := 1) C dL_law_1128 ?_
  refine n_iadd C dL_law_1129 ?_
  refine n_sld C X (i + 1) (by omega) (by omega) hL dL_law_1130 ?_
  refine n_invV C (c_rovertime hst (zz_rg xs (i + 1)) hR hJ1.2.1 hc hw) ⟨w5_116, w5_119, w1_5, ⟨by decide, by decide⟩, by show _ = some 1; decide +kernel, by decide⟩ w5_117 w5_118 hJ1.2.1.1 (show vwCl[6]? = some ("OperaMachinesModel", TX3, 27) from rfl) (by decide) (by omega) (by omega) (Nat.le_of_ble_eq_true rfl) rfl dL_law_1131 (fun r σ2 h' => ?_) (fun _ _ h => h.elim)
  obtain ⟨y, M1, rfl, hM1, ht1, hy0, hc1⟩ := h'
  have hJ2 := hJ1.ref hM1
  have hc2 : cut M1 = (if cdWork (zz xs (i + 1)) = 0 then c else c) := by
    rw [hc1]
    split <;> rfl
  refine n_istore (lv' := [(6, iv y), (5, iv (cdWork (zz xs (i + 1)))), (4, iv (i : Int)), (3, .ref w), (2, .ref o), (1, .ref x0), (0, .ref b)]) C dL_law_1134 (by rw [hN]; decide) rfl ?_
  refine n_aload_n C dL_law_1136 rfl ?_
  refine n_invV C (c_thrown hst hR hJ2.2.1 rfl) ⟨w4_210, w4_213, w1_5, ⟨by decide, by decide⟩, by show _ = some 0; decide +kernel, by decide⟩ w4_211 w4_212 hJ2.2.1.1 (show vwCl[6]? = some ("OperaMachinesModel", TX3, 27) from rfl) (by decide) (by omega) (by omega) (Nat.le_of_ble_eq_true rfl) rfl dL_law_1137 (fun r σ3 h' => ?_) (fun _ _ h => h.elim)
  obtain ⟨rfl, hσ⟩ := h'
  rw [hσ, ht1]
  refine n_iload C dL_law_1140 rfl ?_
  refine n_icmpE C 1147 rfl dL_law_1142 (by decide) ?_
  refine n_iload C dL_law_1147 rfl ?_
  refine n_if_ne C 1164 dL_law_1149 (by decide) (cdWork_rg (zz xs (i + 1))) (fun _ => ?_) (fun h0 => ?_)
  · refine n_goto C 1193 dL_law_1164 (by decide) ?_
    refine n_keep (lv' := [(4, iv (i : Int)), (3, .ref w), (2, .ref o), (1, .ref x0), (0, .ref b)]) [4, 3, 2, 1, 0] rfl ?_
    refine n_widen (k' := k + 20) (n' := n + 200) (by omega) (by omega) ?_
    exact K _ _ _ _ hJ2 hc2
  · obtain ⟨-, -, A2, D2, f2, -, -, -, -, hw2, hf2, -⟩ := id hJ2
    refine n_aload_n C dL_law_1152 rfl ?_
    refine n_iconst (x := 0) C dL_law_1153 ?_
    refine n_lald C hw2 (by omega) (by omega) (by omega) dL_law_1154 ?_
    refine n_iload C dL_law_1155 rfl ?_
    refine n_i2l C dL_law_1157 ?_
    refine n_lcmpE C (show f2 0 = (iI y).toInt64 from by rw [hf2, hv1 _ rfl h0]; rw [(hy0 h0)]) dL_law_1158 ?_
    refine n_if_eq C 1164 dL_law_1159 (by decide) rg_0 (fun _ => ?_) (fun h => (h rfl).elim)
    refine n_goto C 1193 dL_law_1164 (by decide) ?_
    refine n_keep (lv' := [(4, iv (i : Int)), (3, .ref w), (2, .ref o), (1, .ref x0), (0, .ref b)]) [4, 3, 2, 1, 0] rfl ?_
    refine n_widen (k' := k + 20) (n' := n + 200) (by omega) (by omega) ?_
    exact K _ _ _ _ hJ2 hc2
set_option maxRecDepth 100000 in
set_option maxHeartbeats 4000000 in
theorem lc_19 {g : Gx} {Φ : Fx} {k n b L : Nat} {xs : Nat → Int32} {i : Nat} {o w x0 : Nat} {ar : Nat → Nat} {M c : Tb} {v : Int64} {σ : Wd} (hst : g.1.stackTraces = false) (C : Ok g Φ code "OperaMachinesLaw" ret 40 601024 7293034) (hnc : NCx Φ) (X : SX Φ b L xs) (hN : fN Φ = 7) (hL : L ≤ 2560) (hi : i + 5 ≤ L) (hJ : LJ g o w x0 ar M c v σ) (hc : cut M = c) (hk : k + 20 ≤ 601024) (hn : n + 200 ≤ 7293034) (K : ∀ (σ' : Wd) (M' c' : Tb) (v' : Int64), LJ g o w x0 ar M' c' v' σ' → cut M' = c' → N Φ (k + 20) (n + 200) σ' 1193 [(4, iv (i : Int)), (3, .ref w), (2, .ref o), (1, .ref x0), (0, .ref b)] []) : N Φ k n σ 1167 [(4, iv (i : Int)), (3, .ref w), (2, .ref o), (1, .ref x0), (0, .ref b)] [] := by
  obtain ⟨hR, hMW, A, D, f, rfl, hM, hI, hw, ho, hf, hs⟩ := id hJ
  refine n_aload_n C dL_law_1167 rfl ?_
  refine n_invV C (p_isFine hst hM hw hI) ⟨w1_190, w1_193, w1_1, ⟨by decide, by decide⟩, by show _ = some 0; decide +kernel, by decide⟩ w1_191 w1_192 hM.1.1 vC5 (by decide) (by omega) (by omega) (Nat.le_of_ble_eq_true rfl) rfl dL_law_1168 (fun r σ1 h' => ?_) (fun _ _ h => h.elim)
  obtain ⟨x, D', rfl, hB, hx⟩ := h'
  obtain ⟨hJ1, -⟩ := LJ.cls hR hMW rfl ho hf hs (GW.own hB rfl rfl rfl rfl) hI hw
  refine n_aload_n C dL_law_1171 rfl ?_
  refine n_invV C (c_risFine hst hR hJ1.2.1 hc hw) ⟨w5_120, w5_123, w1_5, ⟨by decide, by decide⟩, by show _ = some 0; decide +kernel, by decide⟩ w5_121 w5_122 hJ1.2.1.1 (show vwCl[6]? = some ("OperaMachinesModel", TX3, 27) from rfl) (by decide) (by omega) (by omega) (Nat.le_of_ble_eq_true rfl) rfl dL_law_1172 (fun r σ2 h' => ?_) (fun _ _ h => h.elim)
  obtain ⟨y, M1, rfl, hM1, hc1, ht1, hy⟩ := h'
  have hJ2 := hJ1.ref hM1
  refine n_icmpE C 1193 (by
      rcases hx with ⟨q1, q2⟩ | ⟨q1, q2⟩ <;> rcases hy with ⟨q3, q4⟩ | ⟨q3, q4⟩ <;> first | exact q1.trans q3.symm | exact absurd q2 q4 | exact absurd q4 q2) dL_law_1175 (by decide) ?_
  refine n_keep (lv' := [(4, iv (i : Int)), (3, .ref w), (2, .ref o), (1, .ref (shA A 0)), (0, .ref b)]) [4, 3, 2, 1, 0] rfl ?_
  refine n_widen (k' := k + 20) (n' := n + 200) (by omega) (by omega) ?_
  exact K _ _ _ _ hJ2 hc1
set_option maxRecDepth 100000 in
set_option maxHeartbeats 4000000 in
theorem lc_20 {g : Gx} {Φ : Fx} {k n b L : Nat} {xs : Nat → Int32} {i : Nat} {o w x0 : Nat} {ar : Nat → Nat} {M c : Tb} {v : Int64} {σ : Wd} (hst : g.1.stackTraces = false) (C : Ok g Φ code "OperaMachinesLaw" ret 40 601024 7293034) (hnc : NCx Φ) (X : SX Φ b L xs) (hN : fN Φ = 7) (hL : L ≤ 2560) (hi : i + 5 ≤ L) (hJ : LJ g o w x0 ar M c v σ) (hc : cut M = c) (hk : k + 20 ≤ 601024) (hn : n + 200 ≤ 7293034) (K : ∀ (σ' : Wd) (M' c' : Tb) (v' : Int64), LJ g o w x0 ar M' c' v' σ' → cut M' = c' → N Φ (k + 20) (n + 200) σ' 1193 [(4, iv (i : Int)), (3, .ref w), (2, .ref o), (1, .ref x0), (0, .ref b)] []) : N Φ k n σ 1180 [(4, iv (i : Int)), (3, .ref w), (2, .ref o), (1, .ref x0), (0, .ref b)] [] := by
  obtain ⟨hR, hMW, A, D, f, rfl, hM, hI, hw, ho, hf, hs⟩ := id hJ
  refine n_aload_n C dL_law_1180 rfl ?_
  refine n_invV C (p_fastest hst hM hw hI) ⟨w1_234, w1_237, w1_1, ⟨by decide, by decide⟩, by show _ = some 0; decide +kernel, by decide⟩ w1_235 w1_236 hM.1.1 vC5 (by decide) (by omega) (by omega) (Nat.le_of_ble_eq_true rfl) rfl dL_law_1181 (fun r σ1 h' => ?_) (fun _ _ h => h.elim)
  obtain ⟨x, D', rfl, hB, hx⟩ := h'
  obtain ⟨hJ1, -⟩ := LJ.cls hR hMW rfl ho hf hs (GW.own hB rfl rfl rfl rfl) hI hw
  refine n_aload_n C dL_law_1184 rfl ?_
  refine n_invV C (c_rfastest hst hR hJ1.2.1 hc hw) ⟨w5_128, w5_131, w1_5, ⟨by decide, by decide⟩, by show _ = some 0; decide +kernel, by decide⟩ w5_129 w5_130 hJ1.2.1.1 (show vwCl[6]? = some ("OperaMachinesModel", TX3, 27) from rfl) (by decide) (by omega) (by omega) (Nat.le_of_ble_eq_true rfl) rfl dL_law_1185 (fun r σ2 h' => ?_) (fun _ _ h => h.elim)
  obtain ⟨M1, rfl, hM1, hc1, ht1⟩ := h'
  have hJ2 := hJ1.ref hM1
  refine n_icmpE C 1193 hx dL_law_1188 (by decide) ?_
  refine n_keep (lv' := [(4, iv (i : Int)), (3, .ref w), (2, .ref o), (1, .ref (shA A 0)), (0, .ref b)]) [4, 3, 2, 1, 0] rfl ?_
  refine n_widen (k' := k + 20) (n' := n + 200) (by omega) (by omega) ?_
  exact K _ _ _ _ hJ2 hc1
