set_option maxRecDepth 100000 in
set_option maxHeartbeats 4000000 in
theorem p_setTempo {g : Gx} (hst : g.1.stackTraces = false) {a : Int} (ha : rg a) {A : ShT} {β : Wd} {c D : Tb} {σ : Wd} (hM : CB g.2.1 A β c D σ) (hw : WF c) (hI : CI g c A)  : CT g yX2_setTempo cX2_setTempo 3 (some .int) 4 1 6 [.ref (shA A 0), iv a] σ (fun r σ' => ∃ x : Int, r = some (iv x) ∧ CB g.2.1 A β (nxTempo c a) D σ' ∧ CI g (nxTempo c a) A ∧ cdTempo a = 0 ∧ x = c 14 0) (fun E σ' => σ' = σ ∧ ((E = "java/lang/IllegalArgumentException" ∧ cdTempo a = 1))) := by
  refine CT.of hst (by decide +kernel) (Nat.le_of_ble_eq_true rfl) (fun Φ C Rr hY hN => ?_)
  show N Φ 0 0 σ 0 [(0, .ref (shA A 0)), (1, iv a)] []
  unfold rg at ha
  obtain ⟨w0, w6, w12, w13, w14, w15, w16, wm, wq, ww⟩ := id hw
  obtain ⟨n0, hn0⟩ : ∃ n : Nat, c 0 0 = n := ⟨(c 0 0).toNat, by omega⟩
  obtain ⟨n6, hn6⟩ : ∃ n : Nat, c 6 0 = n := ⟨(c 6 0).toNat, by omega⟩
  have hl0 : nL3 c 0 = n0 := hn0
  have hl1 : nL3 c 1 = n6 := hn6
  have hl2 : nL3 c 2 = n6 := hn6
  refine n_iload_n C dX2_setTempo_0 rfl ?_
  refine n_bipush (x := 50) C dX2_setTempo_1 (by decide) ?_
  refine n_sipush (x := 200) C dX2_setTempo_3 (by decide) ?_
  refine n_invS C (k_within hst (by unfold rg; omega) (by unfold rg; omega) (by unfold rg; omega)) ⟨t1_110, t1_112, t1_1, ⟨by decide, by decide⟩, by show _ = some 3; decide +kernel, by decide⟩ t1_111 (by decide) (by omega) (by omega) (Nat.le_of_ble_eq_true rfl) rfl dX2_setTempo_6 (fun r σ' h' => ?_) (fun _ _ h => h.elim)
  obtain ⟨x, rfl, hσ, hx⟩ := h'
  rw [hσ]
  refine n_invS C (k_allow hst (by omega)) ⟨t1_113, t1_115, t1_1, ⟨by decide, by decide⟩, by show _ = some 1; decide +kernel, by decide⟩ t1_114 (by decide) (by omega) (by omega) (Nat.le_of_ble_eq_true rfl) rfl dX2_setTempo_9 (fun r σ' h' => ?_) (fun E σ' h' => by
      obtain ⟨rfl, rfl, hz⟩ := h'
      exact n_out C Rr ⟨rfl, ⟨rfl, by unfold cdTempo; rw [if_neg (by omega)]⟩⟩ (by omega) (by omega))
  obtain ⟨rfl, hσ, hz⟩ := h'
  rw [hσ]
  have hcd : cdTempo a = 0 := by unfold cdTempo; rw [if_pos (by omega)]
  refine n_aload_n C dX2_setTempo_12 rfl ?_
  refine n_get C hM.1.1 vC5 vI5 7 (by decide) t1_70 rfl rfl dX2_setTempo_13 ?_
  refine n_istore_n (lv' := [(2, iv (c 14 0)), (0, .ref (shA A 0)), (1, iv a)]) C dX2_setTempo_16 (by rw [hN]; decide) rfl ?_
  refine n_aload_n C dX2_setTempo_17 rfl ?_
  refine n_iload_n C dX2_setTempo_18 rfl ?_
  refine n_put C hM.1.1 vC5 vI5 tyX2 tyX2_ok nmX2 7 (by decide) t1_70 rfl rfl rfl rfl (show (7 : Nat) < 10 by decide) dX2_setTempo_19 ?_
  refine wab (e := (.inr (5, [.ref (shA A 1), .ref (shA A 2), .ref (shA A 3), .ref (shA A 4), .ref (shA A 5), iv (c 12 0), iv (c 13 0), iv a, iv (c 15 0), iv (c 16 0)]))) (fun σ0 H0 O0 => ?_)
  have hM1 : CB g.2.1 A β (nxTempo c a) D σ0 := CB.own hI hM (m0 := 0) (by decide) rfl rfl (by rw [if_pos rfl]; exact H0) (by rw [if_neg (by decide)]; exact (by unfold nxTempo; rw [tu_rowN (by decide)])) (by rw [if_neg (by decide)]; exact (by unfold nxTempo; rw [tu_rowN (by decide)])) (by decide) (fun i => rfl) (fun q => rfl) (fun q hq => (O0 q hq)) hw
  have hI1 : CI g (nxTempo c a) A := CI.eq hI rfl rfl (by unfold nxTempo; rw [tu_rowN (by decide)]) (by unfold nxTempo; rw [tu_rowN (by decide)]) (by unfold nxTempo; rw [tu_rowN (by decide)])
  refine n_iload_n C dX2_setTempo_22 rfl ?_
  exact n_ireturn C Rr rfl ⟨_, rfl, hM1, hI1, hcd, rfl⟩ (by omega) (by omega) dX2_setTempo_23
set_option maxRecDepth 100000 in
set_option maxHeartbeats 4000000 in
theorem p_setRules {g : Gx} (hst : g.1.stackTraces = false) {a b : Int} (ha : rg a) (hb : rg b) {A : ShT} {β : Wd} {c D : Tb} {σ : Wd} (hM : CB g.2.1 A β c D σ) (hw : WF c) (hI : CI g c A)  : CT g yX2_setRules cX2_setRules 3 none 4 1 6 [.ref (shA A 0), iv a, iv b] σ (fun r σ' => r = none ∧ CB g.2.1 A β (nxRules c a b) D σ' ∧ CI g (nxRules c a b) A ∧ cdRules a b = 0) (fun E σ' => σ' = σ ∧ ((E = "java/lang/IllegalArgumentException" ∧ cdRules a b = 1))) := by
  refine CT.of hst (by decide +kernel) (Nat.le_of_ble_eq_true rfl) (fun Φ C Rr hY hN => ?_)
  show N Φ 0 0 σ 0 [(0, .ref (shA A 0)), (1, iv a), (2, iv b)] []
  unfold rg at ha
  unfold rg at hb
  obtain ⟨w0, w6, w12, w13, w14, w15, w16, wm, wq, ww⟩ := id hw
  obtain ⟨n0, hn0⟩ : ∃ n : Nat, c 0 0 = n := ⟨(c 0 0).toNat, by omega⟩
  obtain ⟨n6, hn6⟩ : ∃ n : Nat, c 6 0 = n := ⟨(c 6 0).toNat, by omega⟩
  have hl0 : nL3 c 0 = n0 := hn0
  have hl1 : nL3 c 1 = n6 := hn6
  have hl2 : nL3 c 2 = n6 := hn6
  refine n_iload_n C dX2_setRules_0 rfl ?_
  refine n_iconst (x := 0) C dX2_setRules_1 ?_
  refine n_bipush (x := 100) C dX2_setRules_2 (by decide) ?_
  refine n_invS C (k_within hst (by unfold rg; omega) (by unfold rg; omega) (by unfold rg; omega)) ⟨t1_110, t1_112, t1_1, ⟨by decide, by decide⟩, by show _ = some 3; decide +kernel, by decide⟩ t1_111 (by decide) (by omega) (by omega) (Nat.le_of_ble_eq_true rfl) rfl dX2_setRules_4 (fun r σ' h' => ?_) (fun _ _ h => h.elim)
  obtain ⟨x, rfl, hσ, hx⟩ := h'
  rw [hσ]
  refine n_if_eq C 25 dX2_setRules_7 (by decide) (by unfold rg; omega) (fun b7 => ?_) (fun b7 => ?_)
  · refine n_iconst (x := 0) C dX2_setRules_25 ?_
    refine n_invS C (k_allow hst (by omega)) ⟨t1_113, t1_115, t1_1, ⟨by decide, by decide⟩, by show _ = some 1; decide +kernel, by decide⟩ t1_114 (by decide) (by omega) (by omega) (Nat.le_of_ble_eq_true rfl) rfl dX2_setRules_26 (fun r σ' h' => ?_) (fun E σ' h' => by
        obtain ⟨rfl, rfl, hz⟩ := h'
        exact n_out C Rr ⟨rfl, ⟨rfl, by unfold cdRules; rw [if_neg (by omega)]⟩⟩ (by omega) (by omega))
    obtain ⟨-, -, hz⟩ := h'
    exfalso; omega
  · refine n_iload_n C dX2_setRules_10 rfl ?_
    refine n_iconst (x := 0) C dX2_setRules_11 ?_
    refine n_sipush (x := 2400) C dX2_setRules_12 (by decide) ?_
    refine n_invS C (k_within hst (by unfold rg; omega) (by unfold rg; omega) (by unfold rg; omega)) ⟨t1_110, t1_112, t1_1, ⟨by decide, by decide⟩, by show _ = some 3; decide +kernel, by decide⟩ t1_111 (by decide) (by omega) (by omega) (Nat.le_of_ble_eq_true rfl) rfl dX2_setRules_15 (fun r σ' h' => ?_) (fun _ _ h => h.elim)
    obtain ⟨x, rfl, hσ, hx⟩ := h'
    rw [hσ]
    refine n_if_eq C 25 dX2_setRules_18 (by decide) (by unfold rg; omega) (fun b18 => ?_) (fun b18 => ?_)
    · refine n_iconst (x := 0) C dX2_setRules_25 ?_
      refine n_invS C (k_allow hst (by omega)) ⟨t1_113, t1_115, t1_1, ⟨by decide, by decide⟩, by show _ = some 1; decide +kernel, by decide⟩ t1_114 (by decide) (by omega) (by omega) (Nat.le_of_ble_eq_true rfl) rfl dX2_setRules_26 (fun r σ' h' => ?_) (fun E σ' h' => by
          obtain ⟨rfl, rfl, hz⟩ := h'
          exact n_out C Rr ⟨rfl, ⟨rfl, by unfold cdRules; rw [if_neg (by omega)]⟩⟩ (by omega) (by omega))
      obtain ⟨-, -, hz⟩ := h'
      exfalso; omega
    · refine n_iconst (x := 1) C dX2_setRules_21 ?_
      refine n_goto C 26 dX2_setRules_22 (by decide) ?_
      refine n_invS C (k_allow hst (by omega)) ⟨t1_113, t1_115, t1_1, ⟨by decide, by decide⟩, by show _ = some 1; decide +kernel, by decide⟩ t1_114 (by decide) (by omega) (by omega) (Nat.le_of_ble_eq_true rfl) rfl dX2_setRules_26 (fun r σ' h' => ?_) (fun E σ' h' => by
          obtain ⟨-, -, hz⟩ := h'
          exfalso; omega)
      obtain ⟨rfl, hσ, hz⟩ := h'
      rw [hσ]
      have hcd : cdRules a b = 0 := by unfold cdRules; rw [if_pos (by omega)]
      refine n_aload_n C dX2_setRules_29 rfl ?_
      refine n_iload_n C dX2_setRules_30 rfl ?_
      refine n_put C hM.1.1 vC5 vI5 tyX2 tyX2_ok nmX2 8 (by decide) t1_71 rfl rfl rfl rfl (show (8 : Nat) < 10 by decide) dX2_setRules_31 ?_
      refine wab (e := (.inr (5, [.ref (shA A 1), .ref (shA A 2), .ref (shA A 3), .ref (shA A 4), .ref (shA A 5), iv (c 12 0), iv (c 13 0), iv (c 14 0), iv a, iv (c 16 0)]))) (fun σ0 H0 O0 => ?_)
      refine n_aload_n C dX2_setRules_34 rfl ?_
      refine n_iload_n C dX2_setRules_35 rfl ?_
      refine n_put C H0 vC5 vI5 tyX2 tyX2_ok nmX2 9 (by decide) t1_72 rfl rfl rfl rfl (show (9 : Nat) < 10 by decide) dX2_setRules_36 ?_
      refine wab (e := (.inr (5, [.ref (shA A 1), .ref (shA A 2), .ref (shA A 3), .ref (shA A 4), .ref (shA A 5), iv (c 12 0), iv (c 13 0), iv (c 14 0), iv a, iv b]))) (fun σ1 H1 O1 => ?_)
      have hM1 : CB g.2.1 A β (nxRules c a b) D σ1 := CB.own hI hM (m0 := 0) (by decide) rfl rfl (by rw [if_pos rfl]; exact H1) (by rw [if_neg (by decide)]; exact (by unfold nxRules; rw [tu_rowN (by decide), tu_rowN (by decide)])) (by rw [if_neg (by decide)]; exact (by unfold nxRules; rw [tu_rowN (by decide), tu_rowN (by decide)])) (by decide) (fun i => rfl) (fun q => rfl) (fun q hq => ((O1 q hq).trans (O0 q hq))) hw
      have hI1 : CI g (nxRules c a b) A := CI.eq hI rfl rfl (by unfold nxRules; rw [tu_rowN (by decide), tu_rowN (by decide)]) (by unfold nxRules; rw [tu_rowN (by decide), tu_rowN (by decide)]) (by unfold nxRules; rw [tu_rowN (by decide), tu_rowN (by decide)])
      exact n_return C Rr ⟨rfl, hM1, hI1, hcd⟩ (by omega) (by omega) dX2_setRules_39
set_option maxRecDepth 100000 in
set_option maxHeartbeats 4000000 in
theorem p_strike {g : Gx} (hst : g.1.stackTraces = false) {a b : Int} (ha : rg a) (hb : b = 0 ∨ b = 1) {A : ShT} {β : Wd} {c D : Tb} {σ : Wd} (hM : CB g.2.1 A β c D σ) (hw : WF c) (hI : CI g c A)  : CT g yX2_strike cX2_strike 4 (some .boolean) 4 1 6 [.ref (shA A 0), iv a, iv b] σ (fun r σ' => ∃ x : Int, r = some (iv x) ∧ CB g.2.1 A β (nxStrike c a b) D σ' ∧ CI g (nxStrike c a b) A ∧ cdWork a = 0 ∧ x = c 17 a.toNat) (fun E σ' => σ' = σ ∧ ((E = "java/lang/IllegalArgumentException" ∧ cdWork a = 1))) := by
  refine CT.of hst (by decide +kernel) (Nat.le_of_ble_eq_true rfl) (fun Φ C Rr hY hN => ?_)
  show N Φ 0 0 σ 0 [(0, .ref (shA A 0)), (1, iv a), (2, iv b)] []
  unfold rg at ha
  obtain ⟨w0, w6, w12, w13, w14, w15, w16, wm, wq, ww⟩ := id hw
  obtain ⟨n0, hn0⟩ : ∃ n : Nat, c 0 0 = n := ⟨(c 0 0).toNat, by omega⟩
  obtain ⟨n6, hn6⟩ : ∃ n : Nat, c 6 0 = n := ⟨(c 6 0).toNat, by omega⟩
  have hl0 : nL3 c 0 = n0 := hn0
  have hl1 : nL3 c 1 = n6 := hn6
  have hl2 : nL3 c 2 = n6 := hn6
  refine n_iload_n C dX2_strike_0 rfl ?_
  refine n_invS C (k_isWorker hst (by unfold rg; omega)) ⟨t2_109, t2_111, t1_1, ⟨by decide, by decide⟩, by show _ = some 1; decide +kernel, by decide⟩ t2_110 (by decide) (by omega) (by omega) (Nat.le_of_ble_eq_true rfl) rfl dX2_strike_1 (fun r σ' h' => ?_) (fun _ _ h => h.elim)
  obtain ⟨x, rfl, hσ, hx⟩ := h'
  rw [hσ]
  refine n_invS C (k_allow hst (by omega)) ⟨t1_113, t1_115, t1_1, ⟨by decide, by decide⟩, by show _ = some 1; decide +kernel, by decide⟩ t1_114 (by decide) (by omega) (by omega) (Nat.le_of_ble_eq_true rfl) rfl dX2_strike_4 (fun r σ' h' => ?_) (fun E σ' h' => by
      obtain ⟨rfl, rfl, hz⟩ := h'
      exact n_out C Rr ⟨rfl, ⟨rfl, by unfold cdWork; rw [if_neg (by omega)]⟩⟩ (by omega) (by omega))
  obtain ⟨rfl, hσ, hz⟩ := h'
  rw [hσ]
  have hcd : cdWork a = 0 := by unfold cdWork; rw [if_pos (by omega)]
  have wk := (ww a.toNat).1
  refine n_aload_n C dX2_strike_7 rfl ?_
  refine n_get C hM.1.1 vC5 vI5 3 (by decide) t1_66 rfl rfl dX2_strike_8 ?_
  refine n_iload_n C dX2_strike_11 rfl ?_
  refine n_zald C hM.1.2.2.1 (by omega) (by omega) (by omega) dX2_strike_12 ?_
  refine n_istore_n (lv' := [(3, iv (c 17 a.toNat)), (0, .ref (shA A 0)), (1, iv a), (2, iv b)]) C dX2_strike_13 (by rw [hN]; decide) rfl ?_
  refine n_aload_n C dX2_strike_14 rfl ?_
  refine n_get C hM.1.1 vC5 vI5 3 (by decide) t1_66 rfl rfl dX2_strike_15 ?_
  refine n_iload_n C dX2_strike_18 rfl ?_
  refine n_iload_n C dX2_strike_19 rfl ?_
  refine n_zast C hM.1.2.2.1 (by omega) (by omega) (by omega) hb dX2_strike_20 ?_
  refine wab (fun σ1 H1 O1 => ?_)
  rw [← tu_row] at H1
  have hM1 : CB g.2.1 A β (nxStrike c a b) D σ1 := CB.own hI hM (m0 := 4) (by decide) rfl rfl (by rw [if_neg (by decide)]; exact rfl) (by rw [if_pos rfl]; exact H1) (by rw [if_neg (by decide)]; exact (by unfold nxStrike; rw [tu_rowN (by decide)])) (by decide) (fun i => rfl) (fun q => rfl) (fun q hq => O1 q hq) hw
  have hI1 : CI g (nxStrike c a b) A := CI.eq hI rfl rfl (by unfold nxStrike; rw [tu_rowN (by decide)]) (by unfold nxStrike; rw [tu_rowN (by decide)]) (by unfold nxStrike; rw [tu_rowN (by decide)])
  refine n_iload_n C dX2_strike_21 rfl ?_
  exact n_ireturn C Rr (nar_bv (by first | decide | omega)) ⟨_, rfl, hM1, hI1, hcd, rfl⟩ (by omega) (by omega) dX2_strike_22
set_option maxRecDepth 100000 in
set_option maxHeartbeats 4000000 in
theorem p_substitute {g : Gx} (hst : g.1.stackTraces = false) {a b : Int} (ha : rg a) (hb : rg b) {A : ShT} {β : Wd} {c D : Tb} {σ : Wd} (hM : CB g.2.1 A β c D σ) (hw : WF c) (hI : CI g c A)  : CT g yX2_substitute cX2_substitute 4 (some .int) 4 1 6 [.ref (shA A 0), iv a, iv b] σ (fun r σ' => ∃ x : Int, r = some (iv x) ∧ CB g.2.1 A β (nxSub c a b) D σ' ∧ CI g (nxSub c a b) A ∧ cdSub a b = 0 ∧ x = c 18 a.toNat) (fun E σ' => σ' = σ ∧ ((E = "java/lang/IllegalArgumentException" ∧ cdSub a b = 1))) := by
  refine CT.of hst (by decide +kernel) (Nat.le_of_ble_eq_true rfl) (fun Φ C Rr hY hN => ?_)
  show N Φ 0 0 σ 0 [(0, .ref (shA A 0)), (1, iv a), (2, iv b)] []
  unfold rg at ha
  unfold rg at hb
  obtain ⟨w0, w6, w12, w13, w14, w15, w16, wm, wq, ww⟩ := id hw
  obtain ⟨n0, hn0⟩ : ∃ n : Nat, c 0 0 = n := ⟨(c 0 0).toNat, by omega⟩
  obtain ⟨n6, hn6⟩ : ∃ n : Nat, c 6 0 = n := ⟨(c 6 0).toNat, by omega⟩
  have hl0 : nL3 c 0 = n0 := hn0
  have hl1 : nL3 c 1 = n6 := hn6
  have hl2 : nL3 c 2 = n6 := hn6
  refine n_iload_n C dX2_substitute_0 rfl ?_
  refine n_invS C (k_isWorker hst (by unfold rg; omega)) ⟨t2_109, t2_111, t1_1, ⟨by decide, by decide⟩, by show _ = some 1; decide +kernel, by decide⟩ t2_110 (by decide) (by omega) (by omega) (Nat.le_of_ble_eq_true rfl) rfl dX2_substitute_1 (fun r σ' h' => ?_) (fun _ _ h => h.elim)
  obtain ⟨x, rfl, hσ, hx⟩ := h'
  rw [hσ]
  refine n_if_eq C 23 dX2_substitute_4 (by decide) (by unfold rg; omega) (fun b4 => ?_) (fun b4 => ?_)
  · refine n_iconst (x := 0) C dX2_substitute_23 ?_
    refine n_invS C (k_allow hst (by omega)) ⟨t1_113, t1_115, t1_1, ⟨by decide, by decide⟩, by show _ = some 1; decide +kernel, by decide⟩ t1_114 (by decide) (by omega) (by omega) (Nat.le_of_ble_eq_true rfl) rfl dX2_substitute_24 (fun r σ' h' => ?_) (fun E σ' h' => by
        obtain ⟨rfl, rfl, hz⟩ := h'
        exact n_out C Rr ⟨rfl, ⟨rfl, by unfold cdSub; rw [if_neg (by omega)]⟩⟩ (by omega) (by omega))
    obtain ⟨-, -, hz⟩ := h'
    exfalso; omega
  · refine n_iload_n C dX2_substitute_7 rfl ?_
    refine n_iconst (x := (-1)) C dX2_substitute_8 ?_
    refine n_icmp_eq C 19 dX2_substitute_9 (by decide) (by unfold rg; omega) (by unfold rg; omega) (fun b9 => ?_) (fun b9 => ?_)
    · refine n_iconst (x := 1) C dX2_substitute_19 ?_
      refine n_goto C 24 dX2_substitute_20 (by decide) ?_
      refine n_invS C (k_allow hst (by omega)) ⟨t1_113, t1_115, t1_1, ⟨by decide, by decide⟩, by show _ = some 1; decide +kernel, by decide⟩ t1_114 (by decide) (by omega) (by omega) (Nat.le_of_ble_eq_true rfl) rfl dX2_substitute_24 (fun r σ' h' => ?_) (fun E σ' h' => by
          obtain ⟨-, -, hz⟩ := h'
          exfalso; omega)
      obtain ⟨rfl, hσ, hz⟩ := h'
      rw [hσ]
      have hcd : cdSub a b = 0 := by unfold cdSub; rw [if_pos (by omega)]
      refine n_aload_n C dX2_substitute_27 rfl ?_
      refine n_get C hM.1.1 vC5 vI5 4 (by decide) t1_67 rfl rfl dX2_substitute_28 ?_
      refine n_iload_n C dX2_substitute_31 rfl ?_
      refine n_iald C hM.1.2.2.2.1 (by omega) (by omega) (by omega) dX2_substitute_32 ?_
      refine n_istore_n (lv' := [(3, iv (c 18 a.toNat)), (0, .ref (shA A 0)), (1, iv a), (2, iv b)]) C dX2_substitute_33 (by rw [hN]; decide) rfl ?_
      refine n_aload_n C dX2_substitute_34 rfl ?_
      refine n_get C hM.1.1 vC5 vI5 4 (by decide) t1_67 rfl rfl dX2_substitute_35 ?_
      refine n_iload_n C dX2_substitute_38 rfl ?_
      refine n_iload_n C dX2_substitute_39 rfl ?_
      refine n_iast C hM.1.2.2.2.1 (by omega) (by omega) (by omega) dX2_substitute_40 ?_
      refine wab (fun σ1 H1 O1 => ?_)
      rw [← tu_row] at H1
      have hM1 : CB g.2.1 A β (nxSub c a b) D σ1 := CB.own hI hM (m0 := 5) (by decide) rfl rfl (by rw [if_neg (by decide)]; exact rfl) (by rw [if_neg (by decide)]; exact (by unfold nxSub; rw [tu_rowN (by decide)])) (by rw [if_pos rfl]; exact H1) (by decide) (fun i => rfl) (fun q => rfl) (fun q hq => O1 q hq) hw
      have hI1 : CI g (nxSub c a b) A := CI.eq hI rfl rfl (by unfold nxSub; rw [tu_rowN (by decide)]) (by unfold nxSub; rw [tu_rowN (by decide)]) (by unfold nxSub; rw [tu_rowN (by decide)])
      refine n_iload_n C dX2_substitute_41 rfl ?_
      exact n_ireturn C Rr rfl ⟨_, rfl, hM1, hI1, hcd, rfl⟩ (by omega) (by omega) dX2_substitute_42
    · refine n_iload_n C dX2_substitute_12 rfl ?_
      refine n_invS C (k_isWorker hst (by unfold rg; omega)) ⟨t2_109, t2_111, t1_1, ⟨by decide, by decide⟩, by show _ = some 1; decide +kernel, by decide⟩ t2_110 (by decide) (by omega) (by omega) (Nat.le_of_ble_eq_true rfl) rfl dX2_substitute_13 (fun r σ' h' => ?_) (fun _ _ h => h.elim)
      obtain ⟨x, rfl, hσ, hx⟩ := h'
      rw [hσ]
      refine n_if_eq C 23 dX2_substitute_16 (by decide) (by unfold rg; omega) (fun b16 => ?_) (fun b16 => ?_)
      · refine n_iconst (x := 0) C dX2_substitute_23 ?_
        refine n_invS C (k_allow hst (by omega)) ⟨t1_113, t1_115, t1_1, ⟨by decide, by decide⟩, by show _ = some 1; decide +kernel, by decide⟩ t1_114 (by decide) (by omega) (by omega) (Nat.le_of_ble_eq_true rfl) rfl dX2_substitute_24 (fun r σ' h' => ?_) (fun E σ' h' => by
            obtain ⟨rfl, rfl, hz⟩ := h'
            exact n_out C Rr ⟨rfl, ⟨rfl, by unfold cdSub; rw [if_neg (by omega)]⟩⟩ (by omega) (by omega))
        obtain ⟨-, -, hz⟩ := h'
        exfalso; omega
      · refine n_iconst (x := 1) C dX2_substitute_19 ?_
        refine n_goto C 24 dX2_substitute_20 (by decide) ?_
        refine n_invS C (k_allow hst (by omega)) ⟨t1_113, t1_115, t1_1, ⟨by decide, by decide⟩, by show _ = some 1; decide +kernel, by decide⟩ t1_114 (by decide) (by omega) (by omega) (Nat.le_of_ble_eq_true rfl) rfl dX2_substitute_24 (fun r σ' h' => ?_) (fun E σ' h' => by
            obtain ⟨-, -, hz⟩ := h'
            exfalso; omega)
        obtain ⟨rfl, hσ, hz⟩ := h'
        rw [hσ]
        have hcd : cdSub a b = 0 := by unfold cdSub; rw [if_pos (by omega)]
        refine n_aload_n C dX2_substitute_27 rfl ?_
        refine n_get C hM.1.1 vC5 vI5 4 (by decide) t1_67 rfl rfl dX2_substitute_28 ?_
        refine n_iload_n C dX2_substitute_31 rfl ?_
        refine n_iald C hM.1.2.2.2.1 (by omega) (by omega) (by omega) dX2_substitute_32 ?_
        refine n_istore_n (lv' := [(3, iv (c 18 a.toNat)), (0, .ref (shA A 0)), (1, iv a), (2, iv b)]) C dX2_substitute_33 (by rw [hN]; decide) rfl ?_
        refine n_aload_n C dX2_substitute_34 rfl ?_
        refine n_get C hM.1.1 vC5 vI5 4 (by decide) t1_67 rfl rfl dX2_substitute_35 ?_
        refine n_iload_n C dX2_substitute_38 rfl ?_
        refine n_iload_n C dX2_substitute_39 rfl ?_
        refine n_iast C hM.1.2.2.2.1 (by omega) (by omega) (by omega) dX2_substitute_40 ?_
        refine wab (fun σ1 H1 O1 => ?_)
        rw [← tu_row] at H1
        have hM1 : CB g.2.1 A β (nxSub c a b) D σ1 := CB.own hI hM (m0 := 5) (by decide) rfl rfl (by rw [if_neg (by decide)]; exact rfl) (by rw [if_neg (by decide)]; exact (by unfold nxSub; rw [tu_rowN (by decide)])) (by rw [if_pos rfl]; exact H1) (by decide) (fun i => rfl) (fun q => rfl) (fun q hq => O1 q hq) hw
        have hI1 : CI g (nxSub c a b) A := CI.eq hI rfl rfl (by unfold nxSub; rw [tu_rowN (by decide)]) (by unfold nxSub; rw [tu_rowN (by decide)]) (by unfold nxSub; rw [tu_rowN (by decide)])
        refine n_iload_n C dX2_substitute_41 rfl ?_
        exact n_ireturn C Rr rfl ⟨_, rfl, hM1, hI1, hcd, rfl⟩ (by omega) (by omega) dX2_substitute_42
set_option maxRecDepth 100000 in
set_option maxHeartbeats 4000000 in
theorem p_setScore {g : Gx} (hst : g.1.stackTraces = false) {a b : Int} (ha : rg a) (hb : rg b) {A : ShT} {β : Wd} {c D : Tb} {σ : Wd} (hM : CB g.2.1 A β c D σ) (hw : WF c) (hI : CI g c A)  : CT g yX2_setScore cX2_setScore 5 none 4 2 12 [.ref (shA A 0), iv a, iv b] σ (fun r σ' => r = none ∧ CB g.2.1 A β (nxScore c a b) D σ' ∧ CI g (nxScore c a b) A ∧ cdScore c a b = 0) (fun E σ' => σ' = σ ∧ ((E = "java/lang/IllegalArgumentException" ∧ cdScore c a b = 1) ∨ (E = "java/lang/IllegalStateException" ∧ cdScore c a b = 2))) := by
  refine CT.of hst (by decide +kernel) (Nat.le_of_ble_eq_true rfl) (fun Φ C Rr hY hN => ?_)
  show N Φ 0 0 σ 0 [(0, .ref (shA A 0)), (1, iv a), (2, iv b)] []
  unfold rg at ha
  unfold rg at hb
  obtain ⟨w0, w6, w12, w13, w14, w15, w16, wm, wq, ww⟩ := id hw
  obtain ⟨n0, hn0⟩ : ∃ n : Nat, c 0 0 = n := ⟨(c 0 0).toNat, by omega⟩
  obtain ⟨n6, hn6⟩ : ∃ n : Nat, c 6 0 = n := ⟨(c 6 0).toNat, by omega⟩
  have hl0 : nL3 c 0 = n0 := hn0
  have hl1 : nL3 c 1 = n6 := hn6
  have hl2 : nL3 c 2 = n6 := hn6
  refine n_iload_n C dX2_setScore_0 rfl ?_
  refine n_iconst (x := 1) C dX2_setScore_1 ?_
  refine n_bipush (x := 30) C dX2_setScore_2 (by decide) ?_
  refine n_invS C (k_within hst (by unfold rg; omega) (by unfold rg; omega) (by unfold rg; omega)) ⟨t1_110, t1_112, t1_1, ⟨by decide, by decide⟩, by show _ = some 3; decide +kernel, by decide⟩ t1_111 (by decide) (by omega) (by omega) (Nat.le_of_ble_eq_true rfl) rfl dX2_setScore_4 (fun r σ' h' => ?_) (fun _ _ h => h.elim)
  obtain ⟨x, rfl, hσ, hx⟩ := h'
  rw [hσ]
  refine n_if_eq C 24 dX2_setScore_7 (by decide) (by unfold rg; omega) (fun b7 => ?_) (fun b7 => ?_)
  · refine n_iconst (x := 0) C dX2_setScore_24 ?_
    refine n_invS C (k_allow hst (by omega)) ⟨t1_113, t1_115, t1_1, ⟨by decide, by decide⟩, by show _ = some 1; decide +kernel, by decide⟩ t1_114 (by decide) (by omega) (by omega) (Nat.le_of_ble_eq_true rfl) rfl dX2_setScore_25 (fun r σ' h' => ?_) (fun E σ' h' => by
        obtain ⟨rfl, rfl, hz⟩ := h'
        exact n_out C Rr ⟨rfl, Or.inl ⟨rfl, by unfold cdScore; rw [if_neg (by omega)]⟩⟩ (by omega) (by omega))
    obtain ⟨-, -, hz⟩ := h'
    exfalso; omega
  · refine n_iload_n C dX2_setScore_10 rfl ?_
    refine n_iconst (x := 1) C dX2_setScore_11 ?_
    refine n_bipush (x := 40) C dX2_setScore_12 (by decide) ?_
    refine n_invS C (k_within hst (by unfold rg; omega) (by unfold rg; omega) (by unfold rg; omega)) ⟨t1_110, t1_112, t1_1, ⟨by decide, by decide⟩, by show _ = some 3; decide +kernel, by decide⟩ t1_111 (by decide) (by omega) (by omega) (Nat.le_of_ble_eq_true rfl) rfl dX2_setScore_14 (fun r σ' h' => ?_) (fun _ _ h => h.elim)
    obtain ⟨x, rfl, hσ, hx⟩ := h'
    rw [hσ]
    refine n_if_eq C 24 dX2_setScore_17 (by decide) (by unfold rg; omega) (fun b17 => ?_) (fun b17 => ?_)
    · refine n_iconst (x := 0) C dX2_setScore_24 ?_
      refine n_invS C (k_allow hst (by omega)) ⟨t1_113, t1_115, t1_1, ⟨by decide, by decide⟩, by show _ = some 1; decide +kernel, by decide⟩ t1_114 (by decide) (by omega) (by omega) (Nat.le_of_ble_eq_true rfl) rfl dX2_setScore_25 (fun r σ' h' => ?_) (fun E σ' h' => by
          obtain ⟨rfl, rfl, hz⟩ := h'
          exact n_out C Rr ⟨rfl, Or.inl ⟨rfl, by unfold cdScore; rw [if_neg (by omega)]⟩⟩ (by omega) (by omega))
      obtain ⟨-, -, hz⟩ := h'
      exfalso; omega
    · refine n_iconst (x := 1) C dX2_setScore_20 ?_
      refine n_goto C 25 dX2_setScore_21 (by decide) ?_
      refine n_invS C (k_allow hst (by omega)) ⟨t1_113, t1_115, t1_1, ⟨by decide, by decide⟩, by show _ = some 1; decide +kernel, by decide⟩ t1_114 (by decide) (by omega) (by omega) (Nat.le_of_ble_eq_true rfl) rfl dX2_setScore_25 (fun r σ' h' => ?_) (fun E σ' h' => by
          obtain ⟨-, -, hz⟩ := h'
          exfalso; omega)
      obtain ⟨rfl, hσ, hz⟩ := h'
      rw [hσ]
      refine n_iconst (x := 0) C dX2_setScore_28 ?_
      refine n_istore_n (lv' := [(3, iv 0), (0, .ref (shA A 0)), (1, iv a), (2, iv b)]) C dX2_setScore_29 (by rw [hN]; decide) rfl ?_
      refine n_widen (k' := 1) (n' := 6) (by omega) (by omega) ?_
      have LP : ∀ (fu : Nat) (k : Nat) (hfk : fitB c a k = true) (hk : k ≤ n6) (hf : n6 + 1 ≤ k + fu), N Φ 1 6 σ 30 [(3, iv (k : Int)), (0, .ref (shA A 0)), (1, iv a), (2, iv b)] [] := by
        intro fu
        induction fu with
        | zero =>
          intro k hfk hk hf
          omega
        | succ fu ih =>
          intro k hfk hk hf
          refine n_iload_n C dX2_setScore_30 rfl ?_
          refine n_aload_n C dX2_setScore_31 rfl ?_
          refine n_get C hM.1.1 vC5 vI5 1 (by decide) t1_64 rfl rfl dX2_setScore_32 ?_
          refine n_invV C (c_size hst (hM.1.lst hw hI (j := 1) (by decide) hl1)) ⟨t1_188, t1_191, t1_4, ⟨by decide, by decide⟩, by show _ = some 0; decide +kernel, by decide⟩ t1_189 t1_190 (hM.1.2.1 1 (by decide)) cJ (by decide) (by omega) (by omega) (Nat.le_of_ble_eq_true rfl) rfl dX2_setScore_35 (fun r σ' h' => ?_) (fun _ _ h => h.elim)
          obtain ⟨rfl, hσ⟩ := h'
          rw [hσ]
          refine n_icmp_ge C 87 dX2_setScore_38 (by decide) (by unfold rg; omega) (by unfold rg; omega) (fun b38 => ?_) (fun b38 => ?_)
          · have hfb : fitB c a (c 6 0).toNat = true := by rw [show (c 6 0).toNat = k by omega]; exact hfk
            have hcd : cdScore c a b = 0 := by unfold cdScore; rw [if_pos (by omega), if_pos hfb]
            refine n_aload_n C dX2_setScore_87 rfl ?_
            refine n_iload_n C dX2_setScore_88 rfl ?_
            refine n_put C hM.1.1 vC5 vI5 tyX2 tyX2_ok nmX2 5 (by decide) t1_68 rfl rfl rfl rfl (show (5 : Nat) < 10 by decide) dX2_setScore_89 ?_
            refine wab (e := (.inr (5, [.ref (shA A 1), .ref (shA A 2), .ref (shA A 3), .ref (shA A 4), .ref (shA A 5), iv a, iv (c 13 0), iv (c 14 0), iv (c 15 0), iv (c 16 0)]))) (fun σ0 H0 O0 => ?_)
            refine n_aload_n C dX2_setScore_92 rfl ?_
            refine n_iload_n C dX2_setScore_93 rfl ?_
            refine n_put C H0 vC5 vI5 tyX2 tyX2_ok nmX2 6 (by decide) t1_69 rfl rfl rfl rfl (show (6 : Nat) < 10 by decide) dX2_setScore_94 ?_
            refine wab (e := (.inr (5, [.ref (shA A 1), .ref (shA A 2), .ref (shA A 3), .ref (shA A 4), .ref (shA A 5), iv a, iv b, iv (c 14 0), iv (c 15 0), iv (c 16 0)]))) (fun σ1 H1 O1 => ?_)
            have hM1 : CB g.2.1 A β (nxScore c a b) D σ1 := CB.own hI hM (m0 := 0) (by decide) rfl rfl (by rw [if_pos rfl]; exact H1) (by rw [if_neg (by decide)]; exact (by unfold nxScore; rw [tu_rowN (by decide), tu_rowN (by decide)])) (by rw [if_neg (by decide)]; exact (by unfold nxScore; rw [tu_rowN (by decide), tu_rowN (by decide)])) (by decide) (fun i => rfl) (fun q => rfl) (fun q hq => ((O1 q hq).trans (O0 q hq))) hw
            have hI1 : CI g (nxScore c a b) A := CI.eq hI rfl rfl (by unfold nxScore; rw [tu_rowN (by decide), tu_rowN (by decide)]) (by unfold nxScore; rw [tu_rowN (by decide), tu_rowN (by decide)]) (by unfold nxScore; rw [tu_rowN (by decide), tu_rowN (by decide)])
            exact n_return C Rr ⟨rfl, hM1, hI1, hcd⟩ (by omega) (by omega) dX2_setScore_97
          · refine n_aload_n C dX2_setScore_41 rfl ?_
            refine n_get C hM.1.1 vC5 vI5 1 (by decide) t1_64 rfl rfl dX2_setScore_42 ?_
            refine n_iload_n C dX2_setScore_45 rfl ?_
            refine n_invV C (c_get hst (hM.1.lst hw hI (j := 1) (by decide) hl1) (i := k) (by omega) (hI.2.2.1 k (by omega))) ⟨t2_87, t2_90, t1_4, ⟨by decide, by decide⟩, by show _ = some 1; decide +kernel, by decide⟩ t2_88 t2_89 (hM.1.2.1 1 (by decide)) cJ (by decide) (by omega) (by omega) (Nat.le_of_ble_eq_true rfl) rfl dX2_setScore_46 (fun r σ' h' => ?_) (fun _ _ h => h.elim)
            obtain ⟨rfl, hσ⟩ := h'
            rw [hσ]
            have w1 := (wq k).2.2.2.2.2.2.2.1
            have w2 := (wq k).1
            refine n_cast C (hM.qi (q := k) (by omega)) vC3 t2_113 dX2_setScore_49 ?_
            refine n_astore (lv' := [(4, .ref (shA A (30 + k))), (3, iv (k : Int)), (0, .ref (shA A 0)), (1, iv a), (2, iv b)]) C dX2_setScore_52 (by rw [hN]; decide) rfl ?_
            refine n_aload C dX2_setScore_54 rfl ?_
            refine n_get C (hM.qi (q := k) (by omega)) vC3 vI3 4 (by decide) t2_127 rfl rfl dX2_setScore_56 ?_
            refine n_if_ne C 81 dX2_setScore_59 (by decide) (by unfold rg; omega) (fun b59 => ?_) (fun b59 => ?_)
            · refine n_iinc (lv' := [(3, iv ((k : Int) + 1)), (4, .ref (shA A (30 + k))), (0, .ref (shA A 0)), (1, iv a), (2, iv b)]) C dX2_setScore_81 rfl (by rw [hN]; decide) rfl ?_
              refine n_goto C 30 dX2_setScore_84 (by decide) ?_
              refine n_keep (lv' := [(3, iv ((k : Int) + 1)), (0, .ref (shA A 0)), (1, iv a), (2, iv b)]) [3, 0, 1, 2] rfl ?_
              exact ih (k + 1) (by unfold fitB; rw [Bool.and_eq_true, Bool.or_eq_true, decide_eq_true_eq, decide_eq_true_eq]; exact ⟨hfk, by omega⟩) (by omega) (by omega)
            · refine n_aload C dX2_setScore_62 rfl ?_
              refine n_get C (hM.qi (q := k) (by omega)) vC3 vI3 1 (by decide) t2_122 rfl rfl dX2_setScore_64 ?_
              refine n_iload_n C dX2_setScore_67 rfl ?_
              refine n_icmp_lt C 81 dX2_setScore_68 (by decide) (by unfold rg; omega) (by unfold rg; omega) (fun b68 => ?_) (fun b68 => ?_)
              · refine n_iinc (lv' := [(3, iv ((k : Int) + 1)), (4, .ref (shA A (30 + k))), (0, .ref (shA A 0)), (1, iv a), (2, iv b)]) C dX2_setScore_81 rfl (by rw [hN]; decide) rfl ?_
                refine n_goto C 30 dX2_setScore_84 (by decide) ?_
                refine n_keep (lv' := [(3, iv ((k : Int) + 1)), (0, .ref (shA A 0)), (1, iv a), (2, iv b)]) [3, 0, 1, 2] rfl ?_
                exact ih (k + 1) (by unfold fitB; rw [Bool.and_eq_true, Bool.or_eq_true, decide_eq_true_eq, decide_eq_true_eq]; exact ⟨hfk, by omega⟩) (by omega) (by omega)
              · have hf0 : ∀ v : Nat, ¬ fitB c a (k + 1 + v) = true := by
                  intro v
                  induction v with
                  | zero =>
                    intro q
                    unfold fitB at q
                    rw [Bool.and_eq_true, Bool.or_eq_true, decide_eq_true_eq, decide_eq_true_eq] at q
                    omega
                  | succ v ih2 =>
                    intro q
                    have e : fitB c a (k + 1 + (v + 1)) = (fitB c a (k + 1 + v) && (decide (c 11 (k + 1 + v) ≠ 0) || decide (c 7 (k + 1 + v) < a))) := rfl
                    rw [e, Bool.and_eq_true] at q
                    exact ih2 q.1
                have hf1 := hf0 ((c 6 0).toNat - (k + 1))
                rw [show k + 1 + ((c 6 0).toNat - (k + 1)) = (c 6 0).toNat by omega] at hf1
                exact n_throw C Rr (names := exIA) (text := "a cue has a bar that there would not be") (by decide) (by decide) (by decide) (by decide) t1_192 t1_9 atIS.1 atIS.2 dX2_setScore_71 dX2_setScore_74 dX2_setScore_75 dX2_setScore_77 dX2_setScore_80 (Nat.le_of_ble_eq_true rfl) ⟨rfl, Or.inr ⟨rfl, by unfold cdScore; rw [if_pos (by omega), if_neg hf1]⟩⟩ (by omega) (by omega)
      exact LP 25 0 rfl (by omega) (by omega)
