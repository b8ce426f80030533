set_option maxRecDepth 100000 in
set_option maxHeartbeats 4000000 in
theorem k_within {g : Gx} (hst : g.1.stackTraces = false) {a b e : Int} (ha : rg a) (hb : rg b) (he : rg e) {σ : Wd} : CT g yX2_within cX2_within 3 (some .boolean) 0 0 0 [iv a, iv b, iv e] σ (fun r σ' => ∃ x : Int, r = some (iv x) ∧ σ' = σ ∧ ((x = 1 ∧ b ≤ a ∧ a ≤ e) ∨ (x = 0 ∧ ¬ (b ≤ a ∧ a ≤ e)))) (fun _ _ => False) := by
  refine CT.of hst (by decide +kernel) (Nat.le_of_ble_eq_true rfl) (fun Φ C Rr hY hN => ?_)
  show N Φ 0 0 σ 0 [(0, iv a), (1, iv b), (2, iv e)] []
  unfold rg at ha hb he
  refine n_iload_n C dX2_within_0 rfl ?_
  refine n_iload_n C dX2_within_1 rfl ?_
  refine n_icmp_lt C 14 dX2_within_2 (by decide) (by unfold rg; omega) (by unfold rg; omega) (fun b2 => ?_) (fun b2 => ?_)
  · refine n_iconst (x := 0) C dX2_within_14 ?_
    exact n_ireturn C Rr (nar_bv (by first | decide | omega)) ⟨_, rfl, rfl, by omega⟩ (by omega) (by omega) dX2_within_15
  · refine n_iload_n C dX2_within_5 rfl ?_
    refine n_iload_n C dX2_within_6 rfl ?_
    refine n_icmp_gt C 14 dX2_within_7 (by decide) (by unfold rg; omega) (by unfold rg; omega) (fun b7 => ?_) (fun b7 => ?_)
    · refine n_iconst (x := 0) C dX2_within_14 ?_
      exact n_ireturn C Rr (nar_bv (by first | decide | omega)) ⟨_, rfl, rfl, by omega⟩ (by omega) (by omega) dX2_within_15
    · refine n_iconst (x := 1) C dX2_within_10 ?_
      refine n_goto C 15 dX2_within_11 (by decide) ?_
      exact n_ireturn C Rr (nar_bv (by first | decide | omega)) ⟨_, rfl, rfl, by omega⟩ (by omega) (by omega) dX2_within_15
set_option maxRecDepth 100000 in
set_option maxHeartbeats 4000000 in
theorem k_isWorker {g : Gx} (hst : g.1.stackTraces = false) {a : Int} (ha : rg a) {σ : Wd} : CT g yX2_isWorker cX2_isWorker 1 (some .boolean) 1 0 0 [iv a] σ (fun r σ' => ∃ x : Int, r = some (iv x) ∧ σ' = σ ∧ ((x = 1 ∧ 0 ≤ a ∧ a ≤ 5) ∨ (x = 0 ∧ ¬ (0 ≤ a ∧ a ≤ 5)))) (fun _ _ => False) := by
  refine CT.of hst (by decide +kernel) (Nat.le_of_ble_eq_true rfl) (fun Φ C Rr hY hN => ?_)
  show N Φ 0 0 σ 0 [(0, iv a)] []
  unfold rg at ha
  refine n_iload_n C dX2_isWorker_0 rfl ?_
  refine n_iconst (x := 0) C dX2_isWorker_1 ?_
  refine n_iconst (x := 5) C dX2_isWorker_2 ?_
  refine n_invS C (k_within hst (by unfold rg; omega) (by unfold rg; omega) (by unfold rg; omega)) ⟨t1_110, t1_112, t1_1, ⟨by decide, by decide⟩, by show _ = some 3; decide +kernel, by decide⟩ t1_111 (by decide) (by omega) (by omega) (Nat.le_of_ble_eq_true rfl) rfl dX2_isWorker_3 (fun r σ' h => ?_) (fun _ _ h => h.elim)
  obtain ⟨x, rfl, rfl, hx⟩ := h
  exact n_ireturn C Rr (nar_bv (by first | decide | omega)) ⟨x, rfl, rfl, by omega⟩ (by omega) (by omega) dX2_isWorker_6
set_option maxRecDepth 100000 in
set_option maxHeartbeats 4000000 in
theorem k_allow {g : Gx} (hst : g.1.stackTraces = false) {a : Int} (ha : a = 0 ∨ a = 1) {σ : Wd} : CT g yX2_allow cX2_allow 1 none 0 1 6 [iv a] σ (fun r σ' => r = none ∧ σ' = σ ∧ a = 1) (fun E σ' => E = "java/lang/IllegalArgumentException" ∧ σ' = σ ∧ a = 0) := by
  refine CT.of hst (by decide +kernel) (Nat.le_of_ble_eq_true rfl) (fun Φ C Rr hY hN => ?_)
  show N Φ 0 0 σ 0 [(0, iv a)] []
  refine n_iload_n C dX2_allow_0 rfl ?_
  refine n_if_ne C 14 dX2_allow_1 (by decide) (by unfold rg; omega) (fun b1 => ?_) (fun b1 => ?_)
  · exact n_return C Rr ⟨rfl, rfl, by omega⟩ (by omega) (by omega) dX2_allow_14
  · exact n_throw C Rr (names := exIA) (text := "out of range") (by decide) (by decide) (by decide) (by decide) t1_116 t1_8 atIA.1 atIA.2 dX2_allow_4 dX2_allow_7 dX2_allow_8 dX2_allow_10 dX2_allow_13 (Nat.le_of_ble_eq_true rfl) ⟨rfl, rfl, by omega⟩ (by omega) (by omega)
set_option maxRecDepth 100000 in
set_option maxHeartbeats 4000000 in
theorem k_machine {g : Gx} (hst : g.1.stackTraces = false) {a : Int} (ha : rg a) {A : ShT} {β : Wd} {c D : Tb} {σ : Wd} (hM : CB g.2.1 A β c D σ) (hw : WF c) (hI : CI g c A)  : CT g yX2_machineNumbered cX2_machineNumbered 2 (some (.object "OperaMachines$Machine")) 3 1 6 [.ref (shA A 0), iv a] σ (fun r σ' => ∃ i : Nat, a = i ∧ r = some (.ref (shA A (10 + i))) ∧ (i : Int) < c 0 0 ∧ σ' = σ) (fun E σ' => E = "java/lang/IndexOutOfBoundsException" ∧ σ' = σ ∧ ¬ (0 ≤ a ∧ a < c 0 0)) := by
  refine CT.of hst (by decide +kernel) (Nat.le_of_ble_eq_true rfl) (fun Φ C Rr hY hN => ?_)
  show N Φ 0 0 σ 0 [(0, .ref (shA A 0)), (1, iv a)] []
  unfold rg at ha
  obtain ⟨w0, w6, w12, w13, w14, w15, w16, wm, wq, ww⟩ := id hw
  obtain ⟨n0, hn0⟩ : ∃ n : Nat, c 0 0 = n := ⟨(c 0 0).toNat, by omega⟩
  obtain ⟨n6, hn6⟩ : ∃ n : Nat, c 6 0 = n := ⟨(c 6 0).toNat, by omega⟩
  have hl0 : nL3 c 0 = n0 := hn0
  have hl1 : nL3 c 1 = n6 := hn6
  have hl2 : nL3 c 2 = n6 := hn6
  refine n_iload_n C dX2_machineNumbered_0 rfl ?_
  refine n_if_lt C 15 dX2_machineNumbered_1 (by decide) (by unfold rg; omega) (fun b1 => ?_) (fun b1 => ?_)
  · exact n_throw C Rr (names := exIO) (text := "no such machine") (by decide) (by decide) (by decide) (by decide) t2_71 t1_15 atIO.1 atIO.2 dX2_machineNumbered_15 dX2_machineNumbered_18 dX2_machineNumbered_19 dX2_machineNumbered_21 dX2_machineNumbered_24 (Nat.le_of_ble_eq_true rfl) ⟨rfl, rfl, by omega⟩ (by omega) (by omega)
  · refine n_iload_n C dX2_machineNumbered_4 rfl ?_
    refine n_aload_n C dX2_machineNumbered_5 rfl ?_
    refine n_get C hM.1.1 vC5 vI5 0 (by decide) t1_63 rfl rfl dX2_machineNumbered_6 ?_
    refine n_invV C (c_size hst (hM.1.lst hw hI (j := 0) (by decide) hl0)) ⟨t1_188, t1_191, t1_4, ⟨by decide, by decide⟩, by show _ = some 0; decide +kernel, by decide⟩ t1_189 t1_190 (hM.1.2.1 0 (by decide)) cJ (by decide) (by omega) (by omega) (Nat.le_of_ble_eq_true rfl) rfl dX2_machineNumbered_9 (fun r σ' h' => ?_) (fun _ _ h => h.elim)
    obtain ⟨rfl, hσ⟩ := h'
    rw [hσ]
    refine n_icmp_lt C 25 dX2_machineNumbered_12 (by decide) (by unfold rg; omega) (by unfold rg; omega) (fun b12 => ?_) (fun b12 => ?_)
    · obtain ⟨i, rfl⟩ : ∃ i : Nat, a = i := ⟨a.toNat, by omega⟩
      refine n_aload_n C dX2_machineNumbered_25 rfl ?_
      refine n_get C hM.1.1 vC5 vI5 0 (by decide) t1_63 rfl rfl dX2_machineNumbered_26 ?_
      refine n_iload_n C dX2_machineNumbered_29 rfl ?_
      refine n_invV C (c_get hst (hM.1.lst hw hI (j := 0) (by decide) hl0) (i := i) (by omega) (hI.2.1 i (by omega))) ⟨t2_87, t2_90, t1_4, ⟨by decide, by decide⟩, by show _ = some 1; decide +kernel, by decide⟩ t2_88 t2_89 (hM.1.2.1 0 (by decide)) cJ (by decide) (by omega) (by omega) (Nat.le_of_ble_eq_true rfl) rfl dX2_machineNumbered_30 (fun r σ' h' => ?_) (fun _ _ h => h.elim)
      obtain ⟨rfl, hσ⟩ := h'
      rw [hσ]
      refine n_cast C (hM.mi (i := i) (by omega)) vC4 t1_208 dX2_machineNumbered_33 ?_
      exact n_areturn C Rr (Or.inl ⟨_, rfl⟩) (Or.inr ⟨_, rfl⟩) ⟨i, rfl, rfl, by omega, rfl⟩ (by omega) (by omega) dX2_machineNumbered_36
    · exact n_throw C Rr (names := exIO) (text := "no such machine") (by decide) (by decide) (by decide) (by decide) t2_71 t1_15 atIO.1 atIO.2 dX2_machineNumbered_15 dX2_machineNumbered_18 dX2_machineNumbered_19 dX2_machineNumbered_21 dX2_machineNumbered_24 (Nat.le_of_ble_eq_true rfl) ⟨rfl, rfl, by omega⟩ (by omega) (by omega)
set_option maxRecDepth 100000 in
set_option maxHeartbeats 4000000 in
theorem k_cueN {g : Gx} (hst : g.1.stackTraces = false) {a : Int} (ha : rg a) {A : ShT} {β : Wd} {c D : Tb} {σ : Wd} (hM : CB g.2.1 A β c D σ) (hw : WF c) (hI : CI g c A)  : CT g yX2_cueNumbered cX2_cueNumbered 2 (some (.object "OperaMachines$Cue")) 3 1 6 [.ref (shA A 0), iv a] σ (fun r σ' => ∃ i : Nat, a = i ∧ r = some (.ref (shA A (30 + i))) ∧ (i : Int) < c 6 0 ∧ c 11 i = 0 ∧ σ' = σ) (fun E σ' => E = "java/lang/IndexOutOfBoundsException" ∧ σ' = σ ∧ ¬ (0 ≤ a ∧ a < c 6 0 ∧ c 11 a.toNat = 0)) := by
  refine CT.of hst (by decide +kernel) (Nat.le_of_ble_eq_true rfl) (fun Φ C Rr hY hN => ?_)
  show N Φ 0 0 σ 0 [(0, .ref (shA A 0)), (1, iv a)] []
  unfold rg at ha
  obtain ⟨w0, w6, w12, w13, w14, w15, w16, wm, wq, ww⟩ := id hw
  obtain ⟨n0, hn0⟩ : ∃ n : Nat, c 0 0 = n := ⟨(c 0 0).toNat, by omega⟩
  obtain ⟨n6, hn6⟩ : ∃ n : Nat, c 6 0 = n := ⟨(c 6 0).toNat, by omega⟩
  have hl0 : nL3 c 0 = n0 := hn0
  have hl1 : nL3 c 1 = n6 := hn6
  have hl2 : nL3 c 2 = n6 := hn6
  refine n_iload_n C dX2_cueNumbered_0 rfl ?_
  refine n_if_lt C 32 dX2_cueNumbered_1 (by decide) (by unfold rg; omega) (fun b1 => ?_) (fun b1 => ?_)
  · exact n_throw C Rr (names := exIO) (text := "no such cue") (by decide) (by decide) (by decide) (by decide) t2_71 t1_15 atIO.1 atIO.2 dX2_cueNumbered_32 dX2_cueNumbered_35 dX2_cueNumbered_36 dX2_cueNumbered_38 dX2_cueNumbered_41 (Nat.le_of_ble_eq_true rfl) ⟨rfl, rfl, by omega⟩ (by omega) (by omega)
  · refine n_iload_n C dX2_cueNumbered_4 rfl ?_
    refine n_aload_n C dX2_cueNumbered_5 rfl ?_
    refine n_get C hM.1.1 vC5 vI5 1 (by decide) t1_64 rfl rfl dX2_cueNumbered_6 ?_
    refine n_invV C (c_size hst (hM.1.lst hw hI (j := 1) (by decide) hl1)) ⟨t1_188, t1_191, t1_4, ⟨by decide, by decide⟩, by show _ = some 0; decide +kernel, by decide⟩ t1_189 t1_190 (hM.1.2.1 1 (by decide)) cJ (by decide) (by omega) (by omega) (Nat.le_of_ble_eq_true rfl) rfl dX2_cueNumbered_9 (fun r σ' h' => ?_) (fun _ _ h => h.elim)
    obtain ⟨rfl, hσ⟩ := h'
    rw [hσ]
    refine n_icmp_ge C 32 dX2_cueNumbered_12 (by decide) (by unfold rg; omega) (by unfold rg; omega) (fun b12 => ?_) (fun b12 => ?_)
    · exact n_throw C Rr (names := exIO) (text := "no such cue") (by decide) (by decide) (by decide) (by decide) t2_71 t1_15 atIO.1 atIO.2 dX2_cueNumbered_32 dX2_cueNumbered_35 dX2_cueNumbered_36 dX2_cueNumbered_38 dX2_cueNumbered_41 (Nat.le_of_ble_eq_true rfl) ⟨rfl, rfl, by omega⟩ (by omega) (by omega)
    · obtain ⟨i, rfl⟩ : ∃ i : Nat, a = i := ⟨a.toNat, by omega⟩
      have wi := (wq i).2.2.2.2.2.2.2.1
      refine n_aload_n C dX2_cueNumbered_15 rfl ?_
      refine n_get C hM.1.1 vC5 vI5 1 (by decide) t1_64 rfl rfl dX2_cueNumbered_16 ?_
      refine n_iload_n C dX2_cueNumbered_19 rfl ?_
      refine n_invV C (c_get hst (hM.1.lst hw hI (j := 1) (by decide) hl1) (i := i) (by omega) (hI.2.2.1 i (by omega))) ⟨t2_87, t2_90, t1_4, ⟨by decide, by decide⟩, by show _ = some 1; decide +kernel, by decide⟩ t2_88 t2_89 (hM.1.2.1 1 (by decide)) cJ (by decide) (by omega) (by omega) (Nat.le_of_ble_eq_true rfl) rfl dX2_cueNumbered_20 (fun r σ' h' => ?_) (fun _ _ h => h.elim)
      obtain ⟨rfl, hσ⟩ := h'
      rw [hσ]
      refine n_cast C (hM.qi (q := i) (by omega)) vC3 t2_113 dX2_cueNumbered_23 ?_
      refine n_get C (hM.qi (q := i) (by omega)) vC3 vI3 4 (by decide) t2_127 rfl rfl dX2_cueNumbered_26 ?_
      refine n_if_eq C 42 dX2_cueNumbered_29 (by decide) (by unfold rg; omega) (fun b29 => ?_) (fun b29 => ?_)
      · refine n_aload_n C dX2_cueNumbered_42 rfl ?_
        refine n_get C hM.1.1 vC5 vI5 1 (by decide) t1_64 rfl rfl dX2_cueNumbered_43 ?_
        refine n_iload_n C dX2_cueNumbered_46 rfl ?_
        refine n_invV C (c_get hst (hM.1.lst hw hI (j := 1) (by decide) hl1) (i := i) (by omega) (hI.2.2.1 i (by omega))) ⟨t2_87, t2_90, t1_4, ⟨by decide, by decide⟩, by show _ = some 1; decide +kernel, by decide⟩ t2_88 t2_89 (hM.1.2.1 1 (by decide)) cJ (by decide) (by omega) (by omega) (Nat.le_of_ble_eq_true rfl) rfl dX2_cueNumbered_47 (fun r σ' h' => ?_) (fun _ _ h => h.elim)
        obtain ⟨rfl, hσ⟩ := h'
        rw [hσ]
        refine n_cast C (hM.qi (q := i) (by omega)) vC3 t2_113 dX2_cueNumbered_50 ?_
        exact n_areturn C Rr (Or.inl ⟨_, rfl⟩) (Or.inr ⟨_, rfl⟩) ⟨i, rfl, rfl, by omega, by omega, rfl⟩ (by omega) (by omega) dX2_cueNumbered_53
      · exact n_throw C Rr (names := exIO) (text := "no such cue") (by decide) (by decide) (by decide) (by decide) t2_71 t1_15 atIO.1 atIO.2 dX2_cueNumbered_32 dX2_cueNumbered_35 dX2_cueNumbered_36 dX2_cueNumbered_38 dX2_cueNumbered_41 (Nat.le_of_ble_eq_true rfl) ⟨rfl, rfl, fun z => by rw [Int.toNat_natCast] at z; omega⟩ (by omega) (by omega)
set_option maxRecDepth 100000 in
set_option maxHeartbeats 4000000 in
theorem k_room {g : Gx} (hst : g.1.stackTraces = false) {A : ShT} {β : Wd} {c D : Tb} {σ : Wd} (hM : CB g.2.1 A β c D σ) (hw : WF c) (hI : CI g c A)  : CT g yX2_needRoomForMachine cX2_needRoomForMachine 1 none 1 1 6 [.ref (shA A 0)] σ (fun r σ' => r = none ∧ σ' = σ ∧ c 0 0 < 6) (fun E σ' => E = "java/lang/IllegalStateException" ∧ σ' = σ ∧ c 0 0 = 6) := by
  refine CT.of hst (by decide +kernel) (Nat.le_of_ble_eq_true rfl) (fun Φ C Rr hY hN => ?_)
  show N Φ 0 0 σ 0 [(0, .ref (shA A 0))] []
  obtain ⟨w0, w6, w12, w13, w14, w15, w16, wm, wq, ww⟩ := id hw
  obtain ⟨n0, hn0⟩ : ∃ n : Nat, c 0 0 = n := ⟨(c 0 0).toNat, by omega⟩
  obtain ⟨n6, hn6⟩ : ∃ n : Nat, c 6 0 = n := ⟨(c 6 0).toNat, by omega⟩
  have hl0 : nL3 c 0 = n0 := hn0
  have hl1 : nL3 c 1 = n6 := hn6
  have hl2 : nL3 c 2 = n6 := hn6
  refine n_aload_n C dX2_needRoomForMachine_0 rfl ?_
  refine n_get C hM.1.1 vC5 vI5 0 (by decide) t1_63 rfl rfl dX2_needRoomForMachine_1 ?_
  refine n_invV C (c_size hst (hM.1.lst hw hI (j := 0) (by decide) hl0)) ⟨t1_188, t1_191, t1_4, ⟨by decide, by decide⟩, by show _ = some 0; decide +kernel, by decide⟩ t1_189 t1_190 (hM.1.2.1 0 (by decide)) cJ (by decide) (by omega) (by omega) (Nat.le_of_ble_eq_true rfl) rfl dX2_needRoomForMachine_4 (fun r σ' h' => ?_) (fun _ _ h => h.elim)
  obtain ⟨rfl, hσ⟩ := h'
  rw [hσ]
  refine n_bipush (x := 6) C dX2_needRoomForMachine_7 (by decide) ?_
  refine n_icmp_lt C 22 dX2_needRoomForMachine_9 (by decide) (by unfold rg; omega) (by unfold rg; omega) (fun b9 => ?_) (fun b9 => ?_)
  · exact n_return C Rr ⟨rfl, rfl, by omega⟩ (by omega) (by omega) dX2_needRoomForMachine_22
  · exact n_throw C Rr (names := exIA) (text := "there are 6 machines") (by decide) (by decide) (by decide) (by decide) t1_192 t1_9 atIS.1 atIS.2 dX2_needRoomForMachine_12 dX2_needRoomForMachine_15 dX2_needRoomForMachine_16 dX2_needRoomForMachine_18 dX2_needRoomForMachine_21 (Nat.le_of_ble_eq_true rfl) ⟨rfl, rfl, by omega⟩ (by omega) (by omega)
set_option maxRecDepth 100000 in
set_option maxHeartbeats 4000000 in
theorem k_barTicks {g : Gx} (hst : g.1.stackTraces = false) {T : Int} (hT : 50 ≤ T ∧ T ≤ 200) {A : ShT} {β : Wd} {c D : Tb} {σ : Wd} (hM : CB g.2.1 A β c D σ) (hw : WF c) (hI : CI g c A)  : CT g yX2_barTicks cX2_barTicks 2 (some .int) 1 0 0 [.ref (shA A 0), iv T] σ (fun r σ' => r = some (iv (lenB c T)) ∧ σ' = σ) (fun _ _ => False) := by
  refine CT.of hst (by decide +kernel) (Nat.le_of_ble_eq_true rfl) (fun Φ C Rr hY hN => ?_)
  show N Φ 0 0 σ 0 [(0, .ref (shA A 0)), (1, iv T)] []
  obtain ⟨w0, w6, w12, w13, w14, w15, w16, wm, wq, ww⟩ := id hw
  obtain ⟨n0, hn0⟩ : ∃ n : Nat, c 0 0 = n := ⟨(c 0 0).toNat, by omega⟩
  obtain ⟨n6, hn6⟩ : ∃ n : Nat, c 6 0 = n := ⟨(c 6 0).toNat, by omega⟩
  have hl0 : nL3 c 0 = n0 := hn0
  have hl1 : nL3 c 1 = n6 := hn6
  have hl2 : nL3 c 2 = n6 := hn6
  refine n_iload_n C dX2_barTicks_0 rfl ?_
  refine n_iconst (x := 1) C dX2_barTicks_1 ?_
  refine n_icmp_ge C 9 dX2_barTicks_2 (by decide) (by unfold rg; omega) (by unfold rg; omega) (fun b2 => ?_) (fun b2 => ?_)
  · refine n_iconst (x := 1) C dX2_barTicks_9 ?_
    refine n_aload_n C dX2_barTicks_10 rfl ?_
    refine n_get C hM.1.1 vC5 vI5 6 (by decide) t1_69 rfl rfl dX2_barTicks_11 ?_
    refine n_bipush (x := 100) C dX2_barTicks_14 (by decide) ?_
    refine n_imul C dX2_barTicks_16 ?_
    refine n_iload_n C dX2_barTicks_17 rfl ?_
    refine n_idivP C dX2_barTicks_18 (by unfold rg; omega) (by unfold rg; omega) (by omega) (by omega) ?_
    have q1 : 0 ≤ c 13 0 * 100 / T := Int.ediv_nonneg (by omega) (by omega)
    have q2 : c 13 0 * 100 / T ≤ c 13 0 * 100 := Int.ediv_le_self _ (by omega)
    refine n_max C (by unfold rg; omega) (by unfold rg; omega) t3_203 t2_23 t1_12 t2_24 (Nat.le_of_ble_eq_true rfl) (by omega) (by omega) dX2_barTicks_19 ?_
    exact n_ireturn C Rr rfl ⟨by unfold lenB; congr 2; split <;> omega, rfl⟩ (by omega) (by omega) dX2_barTicks_22
  · exfalso; omega
set_option maxRecDepth 100000 in
set_option maxHeartbeats 4000000 in
theorem k_rewindAll {g : Gx} (hst : g.1.stackTraces = false) {A : ShT} {β : Wd} {c D : Tb} {σ : Wd} (hM : CB g.2.1 A β c D σ) (hw : WF c) (hI : CI g c A)  : CT g yX2_rewindAll cX2_rewindAll 2 none 3 0 0 [.ref (shA A 0)] σ (fun r σ' => r = none ∧ ∃ D', CB g.2.1 A β c D' σ' ∧ (∀ j : Nat, (j : Int) < c 0 0 → D' 0 j = c 5 j ∧ D' 1 j = -1) ∧ ∀ q, D' 2 q = D 2 q) (fun _ _ => False) := by
  refine CT.of hst (by decide +kernel) (Nat.le_of_ble_eq_true rfl) (fun Φ C Rr hY hN => ?_)
  show N Φ 0 0 σ 0 [(0, .ref (shA A 0))] []
  obtain ⟨w0, w6, w12, w13, w14, w15, w16, wm, wq, ww⟩ := id hw
  obtain ⟨n0, hn0⟩ : ∃ n : Nat, c 0 0 = n := ⟨(c 0 0).toNat, by omega⟩
  obtain ⟨n6, hn6⟩ : ∃ n : Nat, c 6 0 = n := ⟨(c 6 0).toNat, by omega⟩
  have hl0 : nL3 c 0 = n0 := hn0
  have hl1 : nL3 c 1 = n6 := hn6
  have hl2 : nL3 c 2 = n6 := hn6
  refine n_iconst (x := 0) C dX2_rewindAll_0 ?_
  refine n_istore_n (lv' := [(1, iv 0), (0, .ref (shA A 0))]) C dX2_rewindAll_1 (by rw [hN]; decide) rfl ?_
  have LP : ∀ (fu : Nat) (k : Nat) (σ : Wd) (D1 : Tb) (hM : CB g.2.1 A β c D1 σ) (h0 : ∀ j : Nat, j < k → D1 0 j = c 5 j ∧ D1 1 j = -1) (h2 : ∀ q, D1 2 q = D 2 q) (hk : k ≤ n0) (hf : n0 + 1 ≤ k + fu), N Φ 0 0 σ 2 [(1, iv (k : Int)), (0, .ref (shA A 0))] [] := by
    intro fu
    induction fu with
    | zero =>
      intro k σ D1 hM h0 h2 hk hf
      omega
    | succ fu ih =>
      intro k σ D1 hM h0 h2 hk hf
      refine n_iload_n C dX2_rewindAll_2 rfl ?_
      refine n_aload_n C dX2_rewindAll_3 rfl ?_
      refine n_get C hM.1.1 vC5 vI5 0 (by decide) t1_63 rfl rfl dX2_rewindAll_4 ?_
      refine n_invV C (c_size hst (hM.1.lst hw hI (j := 0) (by decide) hl0)) ⟨t1_188, t1_191, t1_4, ⟨by decide, by decide⟩, by show _ = some 0; decide +kernel, by decide⟩ t1_189 t1_190 (hM.1.2.1 0 (by decide)) cJ (by decide) (by omega) (by omega) (Nat.le_of_ble_eq_true rfl) rfl dX2_rewindAll_7 (fun r σ' h' => ?_) (fun _ _ h => h.elim)
      obtain ⟨rfl, hσ⟩ := h'
      rw [hσ]
      refine n_icmp_ge C 33 dX2_rewindAll_10 (by decide) (by unfold rg; omega) (by unfold rg; omega) (fun b10 => ?_) (fun b10 => ?_)
      · exact n_return C Rr ⟨rfl, D1, hM, fun j hj => h0 j (by omega), h2⟩ (by omega) (by omega) dX2_rewindAll_33
      · refine n_aload_n C dX2_rewindAll_13 rfl ?_
        refine n_get C hM.1.1 vC5 vI5 0 (by decide) t1_63 rfl rfl dX2_rewindAll_14 ?_
        refine n_iload_n C dX2_rewindAll_17 rfl ?_
        refine n_invV C (c_get hst (hM.1.lst hw hI (j := 0) (by decide) hl0) (i := k) (by omega) (hI.2.1 k (by omega))) ⟨t2_87, t2_90, t1_4, ⟨by decide, by decide⟩, by show _ = some 1; decide +kernel, by decide⟩ t2_88 t2_89 (hM.1.2.1 0 (by decide)) cJ (by decide) (by omega) (by omega) (Nat.le_of_ble_eq_true rfl) rfl dX2_rewindAll_18 (fun r σ' h' => ?_) (fun _ _ h => h.elim)
        obtain ⟨rfl, hσ⟩ := h'
        rw [hσ]
        refine n_cast C (hM.mi (i := k) (by omega)) vC4 t1_208 dX2_rewindAll_21 ?_
        refine n_invV C (c_rewind hst (hM.mi (i := k) (by omega)) (tk_rg hw k)) ⟨t3_211, t3_214, t1_10, ⟨by decide, by decide⟩, by show _ = some 0; decide +kernel, by decide⟩ t3_212 t3_213 (hM.mi (i := k) (by omega)) vC4 (by decide) (by omega) (by omega) (Nat.le_of_ble_eq_true rfl) rfl dX2_rewindAll_24 (fun r σ1 h' => ?_) (fun _ _ h => h.elim)
        obtain ⟨rfl, p1, p2⟩ := h'
        have hup : σ1 (shA A (10 + k)) = some (.inr (4, ctM A c (tu (tu D1 0 k (c 5 k)) 1 k (-1)) k)) := by
          unfold ctM
          rw [tu_k (by decide), tu_s, tu_s, rfQ_m]
          exact p1
        have hM1 : CB g.2.1 A β c (tu (tu D1 0 k (c 5 k)) 1 k (-1)) σ1 := CB.mac hw hI hM (i := k) (by omega) hup (fun j hj => by constructor <;> simp only [tu_j hj]) (fun j hj => by simp only [tu_k (show (2 : Nat) ≠ 0 by decide), tu_k (show (2 : Nat) ≠ 1 by decide)]) p2 (Or.inl (tu_s ..))
        refine n_iinc (lv' := [(1, iv ((k : Int) + 1)), (0, .ref (shA A 0))]) C dX2_rewindAll_27 rfl (by rw [hN]; decide) rfl ?_
        refine n_goto C 2 dX2_rewindAll_30 (by decide) ?_
        exact ih (k + 1) _ _ hM1 (fun j hj => by
          by_cases z : j = k
          · subst z; exact ⟨by rw [tu_k (by decide), tu_s], tu_s ..⟩
          · rw [tu_j z, tu_j z, tu_j z, tu_j z]; exact h0 j (by omega)) (fun q => by rw [tu_k (by decide), tu_k (by decide)]; exact h2 q) (by omega) (by omega)
  exact LP 7 0 σ D hM (fun j hj => absurd hj (Nat.not_lt_zero j)) (fun _ => rfl) (by omega) (by omega)
set_option maxRecDepth 100000 in
set_option maxHeartbeats 4000000 in
theorem k_startBars {g : Gx} (hst : g.1.stackTraces = false) {A : ShT} {β : Wd} {c D : Tb} {σ : Wd} (hM : CB g.2.1 A β c D σ) (hw : WF c) (hI : CI g c A) {b : Nat} (hb : b < 30)  : CT g yX2_startBarForAll cX2_startBarForAll 3 none 3 0 0 [.ref (shA A 0), iv (b : Int)] σ (fun r σ' => r = none ∧ ∃ D', CB g.2.1 A β c D' σ' ∧ (∀ j : Nat, (j : Int) < c 0 0 → D' 0 j = D 0 j ∧ D' 1 j = if eff c j b = -1 then D 1 j else eff c j b) ∧ ∀ q, D' 2 q = D 2 q) (fun _ _ => False) := by
  refine CT.of hst (by decide +kernel) (Nat.le_of_ble_eq_true rfl) (fun Φ C Rr hY hN => ?_)
  show N Φ 0 0 σ 0 [(0, .ref (shA A 0)), (1, iv (b : Int))] []
  obtain ⟨w0, w6, w12, w13, w14, w15, w16, wm, wq, ww⟩ := id hw
  obtain ⟨n0, hn0⟩ : ∃ n : Nat, c 0 0 = n := ⟨(c 0 0).toNat, by omega⟩
  obtain ⟨n6, hn6⟩ : ∃ n : Nat, c 6 0 = n := ⟨(c 6 0).toNat, by omega⟩
  have hl0 : nL3 c 0 = n0 := hn0
  have hl1 : nL3 c 1 = n6 := hn6
  have hl2 : nL3 c 2 = n6 := hn6
  refine n_iconst (x := 0) C dX2_startBarForAll_0 ?_
  refine n_istore_n (lv' := [(2, iv 0), (0, .ref (shA A 0)), (1, iv (b : Int))]) C dX2_startBarForAll_1 (by rw [hN]; decide) rfl ?_
  have LP : ∀ (fu : Nat) (k : Nat) (σ : Wd) (D1 : Tb) (hM : CB g.2.1 A β c D1 σ) (h0 : ∀ j : Nat, j < k → D1 1 j = if eff c j b = -1 then D 1 j else eff c j b) (h1 : ∀ j : Nat, k ≤ j → D1 0 j = D 0 j ∧ D1 1 j = D 1 j) (h2 : ∀ q, D1 2 q = D 2 q) (h3 : ∀ j, D1 0 j = D 0 j) (hk : k ≤ n0) (hf : n0 + 1 ≤ k + fu), N Φ 0 0 σ 2 [(2, iv (k : Int)), (0, .ref (shA A 0)), (1, iv (b : Int))] [] := by
    intro fu
    induction fu with
    | zero =>
      intro k σ D1 hM h0 h1 h2 h3 hk hf
      omega
    | succ fu ih =>
      intro k σ D1 hM h0 h1 h2 h3 hk hf
      refine n_iload_n C dX2_startBarForAll_2 rfl ?_
      refine n_aload_n C dX2_startBarForAll_3 rfl ?_
      refine n_get C hM.1.1 vC5 vI5 0 (by decide) t1_63 rfl rfl dX2_startBarForAll_4 ?_
      refine n_invV C (c_size hst (hM.1.lst hw hI (j := 0) (by decide) hl0)) ⟨t1_188, t1_191, t1_4, ⟨by decide, by decide⟩, by show _ = some 0; decide +kernel, by decide⟩ t1_189 t1_190 (hM.1.2.1 0 (by decide)) cJ (by decide) (by omega) (by omega) (Nat.le_of_ble_eq_true rfl) rfl dX2_startBarForAll_7 (fun r σ' h' => ?_) (fun _ _ h => h.elim)
      obtain ⟨rfl, hσ⟩ := h'
      rw [hσ]
      refine n_icmp_ge C 34 dX2_startBarForAll_10 (by decide) (by unfold rg; omega) (by unfold rg; omega) (fun b10 => ?_) (fun b10 => ?_)
      · exact n_return C Rr ⟨rfl, D1, hM, fun j hj => ⟨h3 j, h0 j (by omega)⟩, h2⟩ (by omega) (by omega) dX2_startBarForAll_34
      · refine n_aload_n C dX2_startBarForAll_13 rfl ?_
        refine n_get C hM.1.1 vC5 vI5 0 (by decide) t1_63 rfl rfl dX2_startBarForAll_14 ?_
        refine n_iload_n C dX2_startBarForAll_17 rfl ?_
        refine n_invV C (c_get hst (hM.1.lst hw hI (j := 0) (by decide) hl0) (i := k) (by omega) (hI.2.1 k (by omega))) ⟨t2_87, t2_90, t1_4, ⟨by decide, by decide⟩, by show _ = some 1; decide +kernel, by decide⟩ t2_88 t2_89 (hM.1.2.1 0 (by decide)) cJ (by decide) (by omega) (by omega) (Nat.le_of_ble_eq_true rfl) rfl dX2_startBarForAll_18 (fun r σ' h' => ?_) (fun _ _ h => h.elim)
        obtain ⟨rfl, hσ⟩ := h'
        rw [hσ]
        refine n_cast C (hM.mi (i := k) (by omega)) vC4 t1_208 dX2_startBarForAll_21 ?_
        refine n_iload_n C dX2_startBarForAll_24 rfl ?_
        have he := sh_r hI (i := k) (b := b) (by omega) hb
        have hk1 := (h1 k (by omega)).2
        refine n_invV C (c_startBar hst (hM.mi (i := k) (by omega)) (tk_rg hw k) (hM.ro (i := k) (by omega)) hb) ⟨t3_215, t3_218, t1_10, ⟨by decide, by decide⟩, by show _ = some 1; decide +kernel, by decide⟩ t3_216 t3_217 (hM.mi (i := k) (by omega)) vC4 (by decide) (by omega) (by omega) (Nat.le_of_ble_eq_true rfl) rfl dX2_startBarForAll_25 (fun r σ1 h' => ?_) (fun _ _ h => h.elim)
        obtain ⟨rfl, p1, p2⟩ := h'
        have hup : σ1 (shA A (10 + k)) = some (.inr (4, ctM A c (tu D1 1 k (if eff c k b = -1 then D1 1 k else eff c k b)) k)) := by
          unfold ctM
          rw [tu_k (by decide), tu_s]
          rw [he] at p1
          by_cases z : eff c k b = -1
          · rw [if_pos z]
            rw [z] at p1
            exact p1
          · rw [if_neg z]
            rcases eff_q hw k b with z1 | ⟨q, z1, z2⟩
            · exact absurd z1 z
            · rw [z1, rfQ_n] at p1
              rw [z1, rfQ_n]
              exact p1
        have hM1 : CB g.2.1 A β c (tu D1 1 k (if eff c k b = -1 then D1 1 k else eff c k b)) σ1 := CB.mac hw hI hM (i := k) (by omega) hup (fun j hj => by constructor <;> simp only [tu_j hj] <;> rw [tu_k (by decide)]) (fun j hj => by simp only [tu_k (show (2 : Nat) ≠ 0 by decide), tu_k (show (2 : Nat) ≠ 1 by decide)]) p2 (by
            rw [tu_s]
            split
            · exact hM.2.2 k (by omega)
            · exact eff_q hw k b)
        refine n_iinc (lv' := [(2, iv ((k : Int) + 1)), (0, .ref (shA A 0)), (1, iv (b : Int))]) C dX2_startBarForAll_28 rfl (by rw [hN]; decide) rfl ?_
        refine n_goto C 2 dX2_startBarForAll_31 (by decide) ?_
        exact ih (k + 1) _ _ hM1 (fun j hj => by
          by_cases z : j = k
          · subst z; rw [tu_s, hk1]
          · rw [tu_j z]; exact h0 j (by omega)) (fun j hj => ⟨by rw [tu_k (by decide)]; exact (h1 j (by omega)).1, by rw [tu_j (by omega)]; exact (h1 j (by omega)).2⟩) (fun q => by rw [tu_k (by decide)]; exact h2 q) (fun j => by rw [tu_k (by decide)]; exact h3 j) (by omega) (by omega)
  exact LP 7 0 σ D hM (fun j hj => absurd hj (Nat.not_lt_zero j)) (fun _ _ => ⟨rfl, rfl⟩) (fun _ => rfl) (fun _ => rfl) (by omega) (by omega)
set_option maxRecDepth 100000 in
set_option maxHeartbeats 4000000 in
theorem k_goAll {g : Gx} (hst : g.1.stackTraces = false) {A : ShT} {β : Wd} {c D : Tb} {σ : Wd} (hM : CB g.2.1 A β c D σ) (hw : WF c) (hI : CI g c A) (hD : ∀ j : Nat, (j : Int) < c 0 0 → (0 ≤ D 0 j ∧ D 0 j ≤ 359) ∧ runQ c (D 1 j))  : CT g yX2_goAll cX2_goAll 3 (some .boolean) 3 0 0 [.ref (shA A 0)] σ (fun r σ' => ∃ (v : Int) (D' : Tb), r = some (iv v) ∧ (v = 0 ∨ v = 1) ∧ CB g.2.1 A β c D' σ' ∧ (∀ j : Nat, (j : Int) < c 0 0 → D' 0 j = goS c j (D 0 j) (D 1 j) 1 ∧ D' 1 j = D 1 j) ∧ (∀ q, D' 2 q = D 2 q) ∧ (v = 0 → ∀ j : Nat, (j : Int) < c 0 0 → D' 0 j = D 0 j)) (fun _ _ => False) := by
  refine CT.of hst (by decide +kernel) (Nat.le_of_ble_eq_true rfl) (fun Φ C Rr hY hN => ?_)
  show N Φ 0 0 σ 0 [(0, .ref (shA A 0))] []
  obtain ⟨w0, w6, w12, w13, w14, w15, w16, wm, wq, ww⟩ := id hw
  obtain ⟨n0, hn0⟩ : ∃ n : Nat, c 0 0 = n := ⟨(c 0 0).toNat, by omega⟩
  obtain ⟨n6, hn6⟩ : ∃ n : Nat, c 6 0 = n := ⟨(c 6 0).toNat, by omega⟩
  have hl0 : nL3 c 0 = n0 := hn0
  have hl1 : nL3 c 1 = n6 := hn6
  have hl2 : nL3 c 2 = n6 := hn6
  refine n_iconst (x := 0) C dX2_goAll_0 ?_
  refine n_istore_n (lv' := [(1, iv 0), (0, .ref (shA A 0))]) C dX2_goAll_1 (by rw [hN]; decide) rfl ?_
  refine n_iconst (x := 0) C dX2_goAll_2 ?_
  refine n_istore_n (lv' := [(2, iv 0), (1, iv 0), (0, .ref (shA A 0))]) C dX2_goAll_3 (by rw [hN]; decide) rfl ?_
  have LP : ∀ (fu : Nat) (k : Nat) (σ : Wd) (D1 : Tb) (v : Int) (hM : CB g.2.1 A β c D1 σ) (hv : v = 0 ∨ v = 1) (h0 : ∀ j : Nat, j < k → D1 0 j = goS c j (D 0 j) (D 1 j) 1) (h1 : ∀ j : Nat, k ≤ j → D1 0 j = D 0 j ∧ D1 1 j = D 1 j) (h2 : ∀ q, D1 2 q = D 2 q) (h3 : ∀ j, D1 1 j = D 1 j) (h4 : v = 0 → ∀ j : Nat, j < k → D1 0 j = D 0 j) (hk : k ≤ n0) (hf : n0 + 1 ≤ k + fu), N Φ 0 0 σ 4 [(2, iv (k : Int)), (1, iv v), (0, .ref (shA A 0))] [] := by
    intro fu
    induction fu with
    | zero =>
      intro k σ D1 v hM hv h0 h1 h2 h3 h4 hk hf
      omega
    | succ fu ih =>
      intro k σ D1 v hM hv h0 h1 h2 h3 h4 hk hf
      refine n_iload_n C dX2_goAll_4 rfl ?_
      refine n_aload_n C dX2_goAll_5 rfl ?_
      refine n_get C hM.1.1 vC5 vI5 0 (by decide) t1_63 rfl rfl dX2_goAll_6 ?_
      refine n_invV C (c_size hst (hM.1.lst hw hI (j := 0) (by decide) hl0)) ⟨t1_188, t1_191, t1_4, ⟨by decide, by decide⟩, by show _ = some 0; decide +kernel, by decide⟩ t1_189 t1_190 (hM.1.2.1 0 (by decide)) cJ (by decide) (by omega) (by omega) (Nat.le_of_ble_eq_true rfl) rfl dX2_goAll_9 (fun r σ' h' => ?_) (fun _ _ h => h.elim)
      obtain ⟨rfl, hσ⟩ := h'
      rw [hσ]
      refine n_icmp_ge C 41 dX2_goAll_12 (by decide) (by unfold rg; omega) (by unfold rg; omega) (fun b12 => ?_) (fun b12 => ?_)
      · refine n_iload_n C dX2_goAll_41 rfl ?_
        exact n_ireturn C Rr (nar_bv (by first | decide | omega)) ⟨v, D1, rfl, hv, hM, fun j hj => ⟨h0 j (by omega), h3 j⟩, h2, fun z j hj => h4 z j (by omega)⟩ (by omega) (by omega) dX2_goAll_42
      · refine n_aload_n C dX2_goAll_15 rfl ?_
        refine n_get C hM.1.1 vC5 vI5 0 (by decide) t1_63 rfl rfl dX2_goAll_16 ?_
        refine n_iload_n C dX2_goAll_19 rfl ?_
        refine n_invV C (c_get hst (hM.1.lst hw hI (j := 0) (by decide) hl0) (i := k) (by omega) (hI.2.1 k (by omega))) ⟨t2_87, t2_90, t1_4, ⟨by decide, by decide⟩, by show _ = some 1; decide +kernel, by decide⟩ t2_88 t2_89 (hM.1.2.1 0 (by decide)) cJ (by decide) (by omega) (by omega) (Nat.le_of_ble_eq_true rfl) rfl dX2_goAll_20 (fun r σ' h' => ?_) (fun _ _ h => h.elim)
        obtain ⟨rfl, hσ⟩ := h'
        rw [hσ]
        refine n_cast C (hM.mi (i := k) (by omega)) vC4 t1_208 dX2_goAll_23 ?_
        refine n_iconst (x := 1) C dX2_goAll_26 ?_
        have hk1 := h1 k (by omega)
        have hdk := hD k (by omega)
        rw [← hk1.1, ← hk1.2] at hdk
        have wk := (wm k).2.2.2.2.1
        have hga := aim_rg hw (i := k) (r := D1 1 k)
        refine n_invV C (c_go hst (hM.mi (i := k) (by omega)) (tk_rg hw k) (hM.aim hdk.2) hdk.1 hga (L := 1) (by omega)) ⟨t3_219, t3_222, t1_10, ⟨by decide, by decide⟩, by show _ = some 1; decide +kernel, by decide⟩ t3_220 t3_221 (hM.mi (i := k) (by omega)) vC4 (by decide) (by omega) (by omega) (Nat.le_of_ble_eq_true rfl) rfl dX2_goAll_27 (fun r σ1 h' => ?_) (fun _ _ h => h.elim)
        obtain ⟨y, rfl, hy, p1, p2⟩ := h'
        have hup : σ1 (shA A (10 + k)) = some (.inr (4, ctM A c (tu D1 0 k (goS c k (D1 0 k) (D1 1 k) 1)) k)) := by
          unfold ctM
          rw [tu_k (show (1 : Nat) ≠ 0 by decide), tu_s]
          rw [wyO_R] at p1
          exact p1
        have hM1 : CB g.2.1 A β c (tu D1 0 k (goS c k (D1 0 k) (D1 1 k) 1)) σ1 := CB.mac hw hI hM (i := k) (by omega) hup (fun j hj => by constructor <;> simp only [tu_j hj] <;> rw [tu_k (by decide)]) (fun j hj => by simp only [tu_k (show (2 : Nat) ≠ 0 by decide), tu_k (show (2 : Nat) ≠ 1 by decide)]) p2 (by rw [tu_k (by decide)]; exact hM.2.2 k (by omega))
        refine n_if_eq C 35 dX2_goAll_30 (by decide) (by unfold rg; omega) (fun b30 => ?_) (fun b30 => ?_)
        · refine n_iinc (lv' := [(2, iv ((k : Int) + 1)), (1, iv v), (0, .ref (shA A 0))]) C dX2_goAll_35 rfl (by rw [hN]; decide) rfl ?_
          refine n_goto C 4 dX2_goAll_38 (by decide) ?_
          refine n_keep (lv' := [(2, iv ((k : Int) + 1)), (1, iv v), (0, .ref (shA A 0))]) [2, 1, 0] rfl ?_
          rw [wyO_R] at hy
          have hst0 : stV (c 4 k * 1) (wyR (D1 1 k) (tkQ c k) (D1 0 k) (aimOf c k (D1 1 k))) = 0 := by omega
          have hgk : goS c k (D1 0 k) (D1 1 k) 1 = D1 0 k := by unfold goS; rw [hst0, goV_0 hdk.1]
          exact ih (k + 1) _ _ v hM1 (by omega) (fun j hj => by
            by_cases z : j = k
            · subst z; rw [tu_s, hk1.1, hk1.2]
            · rw [tu_j z]; exact h0 j (by omega)) (fun j hj => ⟨by rw [tu_j (by omega)]; exact (h1 j (by omega)).1, by rw [tu_k (by decide)]; exact (h1 j (by omega)).2⟩) (fun q => by rw [tu_k (by decide)]; exact h2 q) (fun j => by rw [tu_k (by decide)]; exact h3 j) (fun hv0 j hj => by
            by_cases z : j = k
            · subst z; rw [tu_s, hgk, hk1.1]
            · rw [tu_j z]; exact h4 hv0 j (by omega)) (by omega) (by omega)
        · refine n_iconst (x := 1) C dX2_goAll_33 ?_
          refine n_istore_n (lv' := [(1, iv 1), (2, iv (k : Int)), (0, .ref (shA A 0))]) C dX2_goAll_34 (by rw [hN]; decide) rfl ?_
          refine n_iinc (lv' := [(2, iv ((k : Int) + 1)), (1, iv 1), (0, .ref (shA A 0))]) C dX2_goAll_35 rfl (by rw [hN]; decide) rfl ?_
          refine n_goto C 4 dX2_goAll_38 (by decide) ?_
          refine n_keep (lv' := [(2, iv ((k : Int) + 1)), (1, iv 1), (0, .ref (shA A 0))]) [2, 1, 0] rfl ?_
          rw [wyO_R] at hy
          exact ih (k + 1) _ _ 1 hM1 (by omega) (fun j hj => by
            by_cases z : j = k
            · subst z; rw [tu_s, hk1.1, hk1.2]
            · rw [tu_j z]; exact h0 j (by omega)) (fun j hj => ⟨by rw [tu_j (by omega)]; exact (h1 j (by omega)).1, by rw [tu_k (by decide)]; exact (h1 j (by omega)).2⟩) (fun q => by rw [tu_k (by decide)]; exact h2 q) (fun j => by rw [tu_k (by decide)]; exact h3 j) (fun hv0 => absurd hv0 (by decide)) (by omega) (by omega)
  exact LP 7 0 σ D 0 hM (Or.inl rfl) (fun j hj => absurd hj (Nat.not_lt_zero j)) (fun _ _ => ⟨rfl, rfl⟩) (fun _ => rfl) (fun _ => rfl) (fun _ j hj => absurd hj (Nat.not_lt_zero j)) (by omega) (by omega)
