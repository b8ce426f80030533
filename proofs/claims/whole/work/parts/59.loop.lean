set_option maxRecDepth 100000 in
set_option maxHeartbeats 4000000 in
theorem law_loop {g : Gx} {Φ : Fx} {b L : Nat} {xs : Nat → Int32} {o w x0 : Nat} {ar : Nat → Nat} (hst : g.1.stackTraces = false) (C : Ok g Φ code "OperaMachinesLaw" ret 40 601024 7293034) (hnc : NCx Φ) (X : SX Φ b L xs) (hN : fN Φ = 7) (hL : L ≤ 2560) : ∀ (fu it : Nat) (σ : Wd) (M c : Tb) (v : Int64) (_ : 5 * it ≤ L + 4) (_ : L + 5 ≤ 5 * (it + fu)) (hJ : LJ g o w x0 ar M c v σ) (hc : cut M = c), N Φ (30 + 20 * it) (300 + 200 * it) σ 23 [(4, iv ((5 * it : Nat) : Int)), (3, .ref w), (2, .ref o), (1, .ref x0), (0, .ref b)] [] := by
  intro fu
  induction fu with
  | zero =>
    intro it σ M c v h1 h2 hJ hc
    omega
  | succ fu ih =>
    intro it σ M c v h1 h2 hJ hc
    refine n_iload C dL_law_23 rfl ?_
    refine n_aload_n C dL_law_25 rfl ?_
    refine n_slen C X dL_law_26 ?_
    refine n_iconst (x := 5) C dL_law_27 ?_
    refine n_isub C dL_law_28 ?_
    refine n_icmp_gt C 1199 dL_law_29 (by decide) (by unfold rg; omega) (by unfold rg; omega) (fun b29 => ?_) (fun b29 => ?_)
    · refine n_iconst (x := 1) C dL_law_1199 ?_
      exact n_lawret C X (by omega) (by omega) dL_law_1200
    · refine n_aload_n C dL_law_32 rfl ?_
      refine n_iload C dL_law_33 rfl ?_
      refine n_sld C X (5 * it) rfl (by omega) hL dL_law_35 ?_
      refine n_bipush (x := 31) C dL_law_36 (by decide) ?_
      obtain ⟨z, hz31, hz⟩ := and31 (iI (zz xs (5 * it)))
      refine n_iand (z := (z : Int)) C dL_law_38 hz ?_
      have KK : ∀ (σ' : Wd) (M' c' : Tb) (v' : Int64), LJ g o w x0 ar M' c' v' σ' → cut M' = c' → N Φ (30 + 20 * it + 20) (300 + 200 * it + 200) σ' 1193 [(4, iv ((5 * it : Nat) : Int)), (3, .ref w), (2, .ref o), (1, .ref x0), (0, .ref b)] [] := by
        intro σ' M' c' v' hJ' hc'
        refine n_iinc (lv' := [(4, iv (((5 * it : Nat) : Int) + 5)), (3, .ref w), (2, .ref o), (1, .ref x0), (0, .ref b)]) C dL_law_1193 rfl (by rw [hN]; decide) rfl ?_
        refine n_goto C 23 dL_law_1196 (by decide) ?_
        have e1 : (((5 * it : Nat) : Int) + 5) = ((5 * (it + 1) : Nat) : Int) := by omega
        rw [e1]
        have e2 : 30 + 20 * it + 20 = 30 + 20 * (it + 1) := by omega
        have e3 : 300 + 200 * it + 200 = 300 + 200 * (it + 1) := by omega
        rw [e2, e3]
        exact ih (it + 1) σ' M' c' v' (by omega) (by omega) hJ' hc'
      by_cases h21 : 21 ≤ z
      · refine n_tswO C 1193 (by unfold rg; omega) dL_law_39 (by omega) (by decide) ?_
        exact n_widen (by omega) (by omega) (KK σ M c v hJ hc)
      rcases (show z = 0 ∨ z = 1 ∨ z = 2 ∨ z = 3 ∨ z = 4 ∨ z = 5 ∨ z = 6 ∨ z = 7 ∨ z = 8 ∨ z = 9 ∨ z = 10 ∨ z = 11 ∨ z = 12 ∨ z = 13 ∨ z = 14 ∨ z = 15 ∨ z = 16 ∨ z = 17 ∨ z = 18 ∨ z = 19 ∨ z = 20 by omega) with rfl | rfl | rfl | rfl | rfl | rfl | rfl | rfl | rfl | rfl | rfl | rfl | rfl | rfl | rfl | rfl | rfl | rfl | rfl | rfl | rfl
      · exact n_tswI C (off := 97) 136 (by unfold rg; omega) dL_law_39 (by decide) (by decide) rfl (by decide) (lc_0 hst C hnc X hN hL (by omega) hJ hc (by omega) (by omega) KK)
      · exact n_tswI C (off := 189) 228 (by unfold rg; omega) dL_law_39 (by decide) (by decide) rfl (by decide) (lc_1 hst C hnc X hN hL (by omega) hJ hc (by omega) (by omega) KK)
      · exact n_tswI C (off := 257) 296 (by unfold rg; omega) dL_law_39 (by decide) (by decide) rfl (by decide) (lc_2 hst C hnc X hN hL (by omega) hJ hc (by omega) (by omega) KK)
      · exact n_tswI C (off := 305) 344 (by unfold rg; omega) dL_law_39 (by decide) (by decide) rfl (by decide) (lc_3 hst C hnc X hN hL (by omega) hJ hc (by omega) (by omega) KK)
      · exact n_tswI C (off := 397) 436 (by unfold rg; omega) dL_law_39 (by decide) (by decide) rfl (by decide) (lc_4 hst C hnc X hN hL (by omega) hJ hc (by omega) (by omega) KK)
      · exact n_tswI C (off := 453) 492 (by unfold rg; omega) dL_law_39 (by decide) (by decide) rfl (by decide) (lc_5 hst C hnc X hN hL (by omega) hJ hc (by omega) (by omega) KK)
      · exact n_tswI C (off := 509) 548 (by unfold rg; omega) dL_law_39 (by decide) (by decide) rfl (by decide) (lc_6 hst C hnc X hN hL (by omega) hJ hc (by omega) (by omega) KK)
      · exact n_tswI C (off := 557) 596 (by unfold rg; omega) dL_law_39 (by decide) (by decide) rfl (by decide) (lc_7 hst C hnc X hN hL (by omega) hJ hc (by omega) (by omega) KK)
      · exact n_tswI C (off := 648) 687 (by unfold rg; omega) dL_law_39 (by decide) (by decide) rfl (by decide) (lc_8 hst C hnc X hN hL (by omega) hJ hc (by omega) (by omega) KK)
      · exact n_tswI C (off := 716) 755 (by unfold rg; omega) dL_law_39 (by decide) (by decide) rfl (by decide) (lc_9 hst C hnc X hN hL (by omega) hJ hc (by omega) (by omega) KK)
      · exact n_tswI C (off := 729) 768 (by unfold rg; omega) dL_law_39 (by decide) (by decide) rfl (by decide) (lc_10 hst C hnc X hN hL (by omega) hJ hc (by omega) (by omega) KK)
      · exact n_tswI C (off := 742) 781 (by unfold rg; omega) dL_law_39 (by decide) (by decide) rfl (by decide) (lc_11 hst C hnc X hN hL (by omega) hJ hc (by omega) (by omega) KK)
      · exact n_tswI C (off := 810) 849 (by unfold rg; omega) dL_law_39 (by decide) (by decide) rfl (by decide) (lc_12 hst C hnc X hN hL (by omega) hJ hc (by omega) (by omega) KK)
      · exact n_tswI C (off := 878) 917 (by unfold rg; omega) dL_law_39 (by decide) (by decide) rfl (by decide) (lc_13 hst C hnc X hN hL (by omega) hJ hc (by omega) (by omega) KK)
      · exact n_tswI C (off := 891) 930 (by unfold rg; omega) dL_law_39 (by decide) (by decide) rfl (by decide) (lc_14 hst C hnc X hN hL (by omega) hJ hc (by omega) (by omega) KK)
      · exact n_tswI C (off := 904) 943 (by unfold rg; omega) dL_law_39 (by decide) (by decide) rfl (by decide) (lc_15 hst C hnc X hN hL (by omega) hJ hc (by omega) (by omega) KK)
      · exact n_tswI C (off := 960) 999 (by unfold rg; omega) dL_law_39 (by decide) (by decide) rfl (by decide) (lc_16 hst C hnc X hN hL (by omega) hJ hc (by omega) (by omega) KK)
      · exact n_tswI C (off := 1016) 1055 (by unfold rg; omega) dL_law_39 (by decide) (by decide) rfl (by decide) (lc_17 hst C hnc X hN hL (by omega) hJ hc (by omega) (by omega) KK)
      · exact n_tswI C (off := 1072) 1111 (by unfold rg; omega) dL_law_39 (by decide) (by decide) rfl (by decide) (lc_18 hst C hnc X hN hL (by omega) hJ hc (by omega) (by omega) KK)
      · exact n_tswI C (off := 1128) 1167 (by unfold rg; omega) dL_law_39 (by decide) (by decide) rfl (by decide) (lc_19 hst C hnc X hN hL (by omega) hJ hc (by omega) (by omega) KK)
      · exact n_tswI C (off := 1141) 1180 (by unfold rg; omega) dL_law_39 (by decide) (by decide) rfl (by decide) (lc_20 hst C hnc X hN hL (by omega) hJ hc (by omega) (by omega) KK)
