theorem hfsO : ∀ j, j < 10 → defaultValue (tyX2 j) = vp_V [.null, .null, .null, .null, .null, iv 0, iv 0, iv 0, iv 0, iv 0] j := by
  intro j hj
  match j, hj with
  | 0, _ => rfl
  | 1, _ => rfl
  | 2, _ => rfl
  | 3, _ => rfl
  | 4, _ => rfl
  | 5, _ => rfl
  | 6, _ => rfl
  | 7, _ => rfl
  | 8, _ => rfl
  | 9, _ => rfl
  | j + 10, hj => exfalso; omega
theorem hfsR : ∀ j, j < 27 → defaultValue (tyX3 j) = vp_V [iv 0, .null, .null, .null, .null, .null, iv 0, .null, .null, .null, .null, .null, iv 0, iv 0, iv 0, iv 0, iv 0, .null, .null, .null, .null, .null, .null, .null, iv 0, iv 0, iv 0] j := by
  intro j hj
  match j, hj with
  | 0, _ => rfl
  | 1, _ => rfl
  | 2, _ => rfl
  | 3, _ => rfl
  | 4, _ => rfl
  | 5, _ => rfl
  | 6, _ => rfl
  | 7, _ => rfl
  | 8, _ => rfl
  | 9, _ => rfl
  | 10, _ => rfl
  | 11, _ => rfl
  | 12, _ => rfl
  | 13, _ => rfl
  | 14, _ => rfl
  | 15, _ => rfl
  | 16, _ => rfl
  | 17, _ => rfl
  | 18, _ => rfl
  | 19, _ => rfl
  | 20, _ => rfl
  | 21, _ => rfl
  | 22, _ => rfl
  | 23, _ => rfl
  | 24, _ => rfl
  | 25, _ => rfl
  | 26, _ => rfl
  | j + 27, hj => exfalso; omega
set_option maxRecDepth 100000 in
set_option maxHeartbeats 4000000 in
theorem law_body {g : Gx} {Φ : Fx} {b L : Nat} {xs : Nat → Int32} (hst : g.1.stackTraces = false) (C : Ok g Φ code "OperaMachinesLaw" ret 40 601024 7293034) (hnc : NCx Φ) (X : SX Φ b L xs) (hN : fN Φ = 7) (hL : L ≤ 2560) : N Φ 0 0 (fun _ => none) 0 [(0, .ref b)] [] := by
  refine n_new C [.null, .null, .null, .null, .null, iv 0, iv 0, iv 0, iv 0, iv 0] vC5 vI5 tyX2 tyX2_ok w1_27 w1_28 w1_1 hfsO (by omega) (by omega) dL_law_0 (fun x hx0 => ?_)
  refine n_dup C dL_law_3 rfl ?_
  refine n_invI C (c_omInit hst rfl (wup_s ..)) ⟨w1_29, w1_31, w1_1, ⟨by decide, by decide⟩, by show _ = some 0; decide +kernel, by decide⟩ w1_30 (by decide) (by decide) (by omega) (by omega) (Nat.le_of_ble_eq_true rfl) rfl dL_law_4 (fun r σA h' => ?_) (fun _ _ h => h.elim)
  obtain ⟨rfl, A, hxA, hCW, hCI, hof, hof2⟩ := h'
  refine n_astore_n (lv' := [(1, .ref x), (0, .ref b)]) C dL_law_7 (by rw [hN]; decide) rfl ?_
  refine n_new C [iv 0, .null, .null, .null, .null, .null, iv 0, .null, .null, .null, .null, .null, iv 0, iv 0, iv 0, iv 0, iv 0, .null, .null, .null, .null, .null, .null, .null, iv 0, iv 0, iv 0] (show vwCl[6]? = some ("OperaMachinesModel", TX3, 27) from rfl) in3 tyX3 tyX3_ok w4_122 w4_123 w1_5 hfsR (by omega) (by omega) dL_law_8 (fun o ho => ?_)
  refine n_dup C dL_law_11 rfl ?_
  refine n_invI C (c_refInit hst rfl (wup_s ..)) ⟨w4_124, w4_126, w1_5, ⟨by decide, by decide⟩, by show _ = some 0; decide +kernel, by decide⟩ w4_125 (by decide) (by decide) (by omega) (by omega) (Nat.le_of_ble_eq_true rfl) rfl dL_law_12 (fun r σC h' => ?_) (fun _ _ h => h.elim)
  obtain ⟨rfl, ar, hR, hM, hk⟩ := h'
  refine n_astore_n (lv' := [(2, .ref o), (1, .ref x), (0, .ref b)]) C dL_law_15 (by rw [hN]; decide) rfl ?_
  refine n_iconst (x := 1) C dL_law_16 ?_
  refine n_newJ C (M := 1) (by omega) w5_132 (by omega) (by omega) dL_law_17 (fun w hw => ?_)
  refine n_astore_n (lv' := [(3, .ref w), (2, .ref o), (1, .ref x), (0, .ref b)]) C dL_law_19 (by rw [hN]; decide) rfl ?_
  refine n_iconst (x := 0) C dL_law_20 ?_
  refine n_istore (lv' := [(4, iv 0), (3, .ref w), (2, .ref o), (1, .ref x), (0, .ref b)]) C dL_law_21 (by rw [hN]; decide) rfl ?_
  have hJ := LJ.start (f := fun _ => 0) (v := 0) hxA hCW (fun j hj => absurd hj (by show ¬ ((j : Int) < 0); omega)) hCI c0_WF ho hR hM hk hw rfl
  refine n_lv (lv' := [(4, iv ((5 * 0 : Nat) : Int)), (3, .ref w), (2, .ref o), (1, .ref x), (0, .ref b)]) (fun q hq => hq) ?_
  exact n_widen (by omega) (by omega) (law_loop hst C hnc X hN hL (L + 1) 0 _ _ _ _ (by omega) (by omega) hJ (c0_cut 6))
