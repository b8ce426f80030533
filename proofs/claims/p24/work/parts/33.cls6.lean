set_option maxRecDepth 100000 in
set_option maxHeartbeats 4000000 in
theorem p_bar {g : Gx} (hst : g.1.stackTraces = false) {A : ShT} {β : Wd} {c D : Tb} {σ : Wd} (hM : CB g.2.1 A β c D σ) (hw : WF c) (hI : CI g c A)  : CT g yX2_bar cX2_bar 1 (some .int) 3 0 0 [.ref (shA A 0)] σ (fun r σ' => ∃ (x : Int) (D' : Tb), r = some (iv x) ∧ CB g.2.1 A β c D' σ' ∧ x = lenB c (c 14 0)) (fun _ _ => False) := by
  refine CT.of hst (by decide +kernel) (Nat.le_of_ble_eq_true rfl) (fun Φ C Rr hY hN => ?_)
  show N Φ 0 0 σ 0 [(0, .ref (shA A 0))] []
  obtain ⟨w0, w6, w12, w13, w14, w15, w16, wm, wq, ww⟩ := id hw
  obtain ⟨n0, hn0⟩ : ∃ n : Nat, c 0 0 = n := ⟨(c 0 0).toNat, by omega⟩
  obtain ⟨n6, hn6⟩ : ∃ n : Nat, c 6 0 = n := ⟨(c 6 0).toNat, by omega⟩
  have hl0 : nL3 c 0 = n0 := hn0
  have hl1 : nL3 c 1 = n6 := hn6
  have hl2 : nL3 c 2 = n6 := hn6
  have hLr := lenB_rg hw (T := c 14 0) (by omega)
  obtain ⟨L, hL⟩ : ∃ L : Nat, lenB c (c 14 0) = L := ⟨(lenB c (c 14 0)).toNat, by omega⟩
  have hLL : LL c = L := by unfold LL; omega
  rw [hL] at hLr
  refine n_aload_n C dX2_bar_0 rfl ?_
  refine n_aload_n C dX2_bar_1 rfl ?_
  refine n_get C hM.1.1 vC5 vI5 7 (by decide) t1_70 rfl rfl dX2_bar_2 ?_
  refine n_invV C (k_barTicks hst (T := c 14 0) (by omega) hM hw hI) ⟨t3_199, t3_202, t1_1, ⟨by decide, by decide⟩, by show _ = some 1; decide +kernel, by decide⟩ t3_201 tp_12 hM.1.1 vC5 (by decide) (by omega) (by omega) (Nat.le_of_ble_eq_true rfl) rfl dX2_bar_5 (fun r σ' h' => ?_) (fun _ _ h => h.elim)
  obtain ⟨rfl, hσ⟩ := h'
  rw [hσ, hL]
  exact n_ireturn C Rr rfl ⟨_, D, rfl, hM, hL.symm⟩ (by omega) (by omega) dX2_bar_8
set_option maxRecDepth 100000 in
set_option maxHeartbeats 4000000 in
theorem p_end {g : Gx} (hst : g.1.stackTraces = false) {A : ShT} {β : Wd} {c D : Tb} {σ : Wd} (hM : CB g.2.1 A β c D σ) (hw : WF c) (hI : CI g c A)  : CT g yX2_end cX2_end 1 (some .int) 3 0 0 [.ref (shA A 0)] σ (fun r σ' => ∃ (x : Int) (D' : Tb), r = some (iv x) ∧ CB g.2.1 A β c D' σ' ∧ x = c 12 0 * lenB c (c 14 0)) (fun _ _ => False) := by
  refine CT.of hst (by decide +kernel) (Nat.le_of_ble_eq_true rfl) (fun Φ C Rr hY hN => ?_)
  show N Φ 0 0 σ 0 [(0, .ref (shA A 0))] []
  obtain ⟨w0, w6, w12, w13, w14, w15, w16, wm, wq, ww⟩ := id hw
  obtain ⟨n0, hn0⟩ : ∃ n : Nat, c 0 0 = n := ⟨(c 0 0).toNat, by omega⟩
  obtain ⟨n6, hn6⟩ : ∃ n : Nat, c 6 0 = n := ⟨(c 6 0).toNat, by omega⟩
  have hl0 : nL3 c 0 = n0 := hn0
  have hl1 : nL3 c 1 = n6 := hn6
  have hl2 : nL3 c 2 = n6 := hn6
  have hLr := lenB_rg hw (T := c 14 0) (by omega)
  obtain ⟨L, hL⟩ : ∃ L : Nat, lenB c (c 14 0) = L := ⟨(lenB c (c 14 0)).toNat, by omega⟩
  have hLL : LL c = L := by unfold LL; omega
  rw [hL] at hLr
  refine n_aload_n C dX2_end_0 rfl ?_
  refine n_get C hM.1.1 vC5 vI5 5 (by decide) t1_68 rfl rfl dX2_end_1 ?_
  refine n_aload_n C dX2_end_4 rfl ?_
  refine n_aload_n C dX2_end_5 rfl ?_
  refine n_get C hM.1.1 vC5 vI5 7 (by decide) t1_70 rfl rfl dX2_end_6 ?_
  refine n_invV C (k_barTicks hst (T := c 14 0) (by omega) hM hw hI) ⟨t3_199, t3_202, t1_1, ⟨by decide, by decide⟩, by show _ = some 1; decide +kernel, by decide⟩ t3_201 tp_12 hM.1.1 vC5 (by decide) (by omega) (by omega) (Nat.le_of_ble_eq_true rfl) rfl dX2_end_9 (fun r σ' h' => ?_) (fun _ _ h => h.elim)
  obtain ⟨rfl, hσ⟩ := h'
  rw [hσ, hL]
  refine n_imul C dX2_end_12 ?_
  exact n_ireturn C Rr rfl ⟨_, D, rfl, hM, by rw [hL]⟩ (by omega) (by omega) dX2_end_13
set_option maxRecDepth 100000 in
set_option maxHeartbeats 4000000 in
theorem p_meeting {g : Gx} (hst : g.1.stackTraces = false) {A : ShT} {β : Wd} {c D : Tb} {σ : Wd} (hM : CB g.2.1 A β c D σ) (hw : WF c) (hI : CI g c A)  : CT g yX2_meeting cX2_meeting 1 (some .int) 5 0 0 [.ref (shA A 0)] σ (fun r σ' => ∃ (x : Int) (D' : Tb), r = some (iv x) ∧ CB g.2.1 A β c D' σ' ∧ x = (mtP c (LL c) (NT c (LL c) + 1)).1) (fun _ _ => False) := by
  refine CT.of hst (by decide +kernel) (Nat.le_of_ble_eq_true rfl) (fun Φ C Rr hY hN => ?_)
  show N Φ 0 0 σ 0 [(0, .ref (shA A 0))] []
  obtain ⟨w0, w6, w12, w13, w14, w15, w16, wm, wq, ww⟩ := id hw
  obtain ⟨n0, hn0⟩ : ∃ n : Nat, c 0 0 = n := ⟨(c 0 0).toNat, by omega⟩
  obtain ⟨n6, hn6⟩ : ∃ n : Nat, c 6 0 = n := ⟨(c 6 0).toNat, by omega⟩
  have hl0 : nL3 c 0 = n0 := hn0
  have hl1 : nL3 c 1 = n6 := hn6
  have hl2 : nL3 c 2 = n6 := hn6
  have hLr := lenB_rg hw (T := c 14 0) (by omega)
  obtain ⟨L, hL⟩ : ∃ L : Nat, lenB c (c 14 0) = L := ⟨(lenB c (c 14 0)).toNat, by omega⟩
  have hLL : LL c = L := by unfold LL; omega
  rw [hL] at hLr
  refine n_aload_n C dX2_meeting_0 rfl ?_
  refine n_aload_n C dX2_meeting_1 rfl ?_
  refine n_aload_n C dX2_meeting_2 rfl ?_
  refine n_get C hM.1.1 vC5 vI5 7 (by decide) t1_70 rfl rfl dX2_meeting_3 ?_
  refine n_invV C (k_barTicks hst (T := c 14 0) (by omega) hM hw hI) ⟨t3_199, t3_202, t1_1, ⟨by decide, by decide⟩, by show _ = some 1; decide +kernel, by decide⟩ t3_201 tp_12 hM.1.1 vC5 (by decide) (by omega) (by omega) (Nat.le_of_ble_eq_true rfl) rfl dX2_meeting_6 (fun r σ' h' => ?_) (fun _ _ h => h.elim)
  obtain ⟨rfl, hσ⟩ := h'
  rw [hσ, hL]
  refine n_invV C (k_meet hst hM hw hI (L := L) (by omega)) ⟨t4_63, t4_66, t1_1, ⟨by decide, by decide⟩, by show _ = some 1; decide +kernel, by decide⟩ t4_65 tp_17 hM.1.1 vC5 (by decide) (by omega) (by omega) (Nat.le_of_ble_eq_true rfl) rfl dX2_meeting_9 (fun r σ h' => ?_) (fun _ _ h => h.elim)
  obtain ⟨D1, rfl, hM, -⟩ := h'
  exact n_ireturn C Rr rfl ⟨_, D1, rfl, hM, by rw [hLL]⟩ (by omega) (by omega) dX2_meeting_12
set_option maxRecDepth 100000 in
set_option maxHeartbeats 4000000 in
theorem p_meeters {g : Gx} (hst : g.1.stackTraces = false) {A : ShT} {β : Wd} {c D : Tb} {σ : Wd} (hM : CB g.2.1 A β c D σ) (hw : WF c) (hI : CI g c A)  : CT g yX2_meeters cX2_meeters 1 (some .int) 5 0 0 [.ref (shA A 0)] σ (fun r σ' => ∃ (x : Int) (D' : Tb), r = some (iv x) ∧ CB g.2.1 A β c D' σ' ∧ x = (mtP c (LL c) (NT c (LL c) + 1)).2) (fun _ _ => False) := by
  refine CT.of hst (by decide +kernel) (Nat.le_of_ble_eq_true rfl) (fun Φ C Rr hY hN => ?_)
  show N Φ 0 0 σ 0 [(0, .ref (shA A 0))] []
  obtain ⟨w0, w6, w12, w13, w14, w15, w16, wm, wq, ww⟩ := id hw
  obtain ⟨n0, hn0⟩ : ∃ n : Nat, c 0 0 = n := ⟨(c 0 0).toNat, by omega⟩
  obtain ⟨n6, hn6⟩ : ∃ n : Nat, c 6 0 = n := ⟨(c 6 0).toNat, by omega⟩
  have hl0 : nL3 c 0 = n0 := hn0
  have hl1 : nL3 c 1 = n6 := hn6
  have hl2 : nL3 c 2 = n6 := hn6
  have hLr := lenB_rg hw (T := c 14 0) (by omega)
  obtain ⟨L, hL⟩ : ∃ L : Nat, lenB c (c 14 0) = L := ⟨(lenB c (c 14 0)).toNat, by omega⟩
  have hLL : LL c = L := by unfold LL; omega
  rw [hL] at hLr
  refine n_aload_n C dX2_meeters_0 rfl ?_
  refine n_aload_n C dX2_meeters_1 rfl ?_
  refine n_aload_n C dX2_meeters_2 rfl ?_
  refine n_get C hM.1.1 vC5 vI5 7 (by decide) t1_70 rfl rfl dX2_meeters_3 ?_
  refine n_invV C (k_barTicks hst (T := c 14 0) (by omega) hM hw hI) ⟨t3_199, t3_202, t1_1, ⟨by decide, by decide⟩, by show _ = some 1; decide +kernel, by decide⟩ t3_201 tp_12 hM.1.1 vC5 (by decide) (by omega) (by omega) (Nat.le_of_ble_eq_true rfl) rfl dX2_meeters_6 (fun r σ' h' => ?_) (fun _ _ h => h.elim)
  obtain ⟨rfl, hσ⟩ := h'
  rw [hσ, hL]
  refine n_invV C (k_meet hst hM hw hI (L := L) (by omega)) ⟨t4_63, t4_66, t1_1, ⟨by decide, by decide⟩, by show _ = some 1; decide +kernel, by decide⟩ t4_65 tp_17 hM.1.1 vC5 (by decide) (by omega) (by omega) (Nat.le_of_ble_eq_true rfl) rfl dX2_meeters_9 (fun r σ h' => ?_) (fun _ _ h => h.elim)
  obtain ⟨D1, rfl, hM, -, hp, hl⟩ := h'
  have hmr := mtP_rg (c := c) L w0.2 (NT c L + 1)
  have hNT2 : NT c L ≤ 30 * 80 := Nat.mul_le_mul (by omega) (by omega)
  refine n_iconst (x := (-1)) C dX2_meeters_12 ?_
  refine n_icmp_ne C 20 dX2_meeters_13 (by decide) (by unfold rg; omega) (by unfold rg; omega) (fun b13 => ?_) (fun b13 => ?_)
  · refine n_aload_n C dX2_meeters_20 rfl ?_
    refine n_invV C (k_least hst hM hw hI hp) ⟨t4_67, t4_70, t1_1, ⟨by decide, by decide⟩, by show _ = some 0; decide +kernel, by decide⟩ t4_69 tp_18 hM.1.1 vC5 (by decide) (by omega) (by omega) (Nat.le_of_ble_eq_true rfl) rfl dX2_meeters_21 (fun r σ' h' => ?_) (fun _ _ h => h.elim)
    obtain ⟨rfl, hσ⟩ := h'
    rw [hσ]
    exact n_ireturn C Rr rfl ⟨_, D1, rfl, hM, by rw [hLL]; exact hl b13⟩ (by omega) (by omega) dX2_meeters_24
  · refine n_iconst (x := (-1)) C dX2_meeters_16 ?_
    refine n_goto C 24 dX2_meeters_17 (by decide) ?_
    exact n_ireturn C Rr rfl ⟨_, D1, rfl, hM, by rw [hLL]; exact ((mt_iff _).mp b13).symm⟩ (by omega) (by omega) dX2_meeters_24
set_option maxRecDepth 100000 in
set_option maxHeartbeats 4000000 in
theorem p_worker {g : Gx} (hst : g.1.stackTraces = false) {a : Int} (ha : rg a) {A : ShT} {β : Wd} {c D : Tb} {σ : Wd} (hM : CB g.2.1 A β c D σ) (hw : WF c) (hI : CI g c A)  : CT g yX2_worker cX2_worker 2 (some .int) 4 1 6 [.ref (shA A 0), iv a] σ (fun r σ' => ∃ (x : Int) (D' : Tb), r = some (iv x) ∧ CB g.2.1 A β c D' σ' ∧ cdIs c a = 0 ∧ x = vlWorker c a) (fun E σ' => σ' = σ ∧ ((E = "java/lang/IndexOutOfBoundsException" ∧ cdIs c a = 1))) := by
  refine CT.of hst (by decide +kernel) (Nat.le_of_ble_eq_true rfl) (fun Φ C Rr hY hN => ?_)
  show N Φ 0 0 σ 0 [(0, .ref (shA A 0)), (1, iv a)] []
  unfold rg at ha
  obtain ⟨w0, w6, w12, w13, w14, w15, w16, wm, wq, ww⟩ := id hw
  obtain ⟨n0, hn0⟩ : ∃ n : Nat, c 0 0 = n := ⟨(c 0 0).toNat, by omega⟩
  obtain ⟨n6, hn6⟩ : ∃ n : Nat, c 6 0 = n := ⟨(c 6 0).toNat, by omega⟩
  have hl0 : nL3 c 0 = n0 := hn0
  have hl1 : nL3 c 1 = n6 := hn6
  have hl2 : nL3 c 2 = n6 := hn6
  refine n_aload_n C dX2_worker_0 rfl ?_
  refine n_aload_n C dX2_worker_1 rfl ?_
  refine n_iload_n C dX2_worker_2 rfl ?_
  refine n_invV C (k_cueN hst (by unfold rg; omega) hM hw hI) ⟨t3_161, t3_164, t1_1, ⟨by decide, by decide⟩, by show _ = some 1; decide +kernel, by decide⟩ t3_163 tp_10 hM.1.1 vC5 (by decide) (by omega) (by omega) (Nat.le_of_ble_eq_true rfl) rfl dX2_worker_3 (fun r σ' h' => ?_) (fun E σ' h' => by
      obtain ⟨rfl, rfl, hz⟩ := h'
      exact n_out C Rr ⟨rfl, ⟨rfl, by unfold cdIs; rw [if_neg hz]⟩⟩ (by omega) (by omega))
  obtain ⟨i, rfl, rfl, hi, hi2, hσ⟩ := h'
  rw [hσ]
  have hcd : cdIs c (i : Int) = 0 := by unfold cdIs; rw [if_pos ⟨by omega, by omega, by rw [Int.toNat_natCast]; exact hi2⟩]
  refine n_invV C (k_wT hst hM hw hI (q := i) (by omega)) ⟨t4_49, t4_52, t1_1, ⟨by decide, by decide⟩, by show _ = some 1; decide +kernel, by decide⟩ t4_51 tp_16 hM.1.1 vC5 (by decide) (by omega) (by omega) (Nat.le_of_ble_eq_true rfl) rfl dX2_worker_6 (fun r σ' h' => ?_) (fun _ _ h => h.elim)
  obtain ⟨rfl, hσ⟩ := h'
  rw [hσ]
  exact n_ireturn C Rr rfl ⟨_, D, rfl, hM, hcd, by unfold vlWorker; rw [Int.toNat_natCast]⟩ (by omega) (by omega) dX2_worker_9
set_option maxRecDepth 100000 in
set_option maxHeartbeats 4000000 in
theorem p_takes {g : Gx} (hst : g.1.stackTraces = false) {a : Int} (ha : rg a) {A : ShT} {β : Wd} {c D : Tb} {σ : Wd} (hM : CB g.2.1 A β c D σ) (hw : WF c) (hI : CI g c A)  : CT g yX2_takes cX2_takes 3 (some .int) 5 1 6 [.ref (shA A 0), iv a] σ (fun r σ' => ∃ (x : Int) (D' : Tb), r = some (iv x) ∧ CB g.2.1 A β c D' σ' ∧ cdIs c a = 0 ∧ x = vlTakes c a) (fun E σ' => σ' = σ ∧ ((E = "java/lang/IndexOutOfBoundsException" ∧ cdIs c a = 1))) := by
  refine CT.of hst (by decide +kernel) (Nat.le_of_ble_eq_true rfl) (fun Φ C Rr hY hN => ?_)
  show N Φ 0 0 σ 0 [(0, .ref (shA A 0)), (1, iv a)] []
  unfold rg at ha
  obtain ⟨w0, w6, w12, w13, w14, w15, w16, wm, wq, ww⟩ := id hw
  obtain ⟨n0, hn0⟩ : ∃ n : Nat, c 0 0 = n := ⟨(c 0 0).toNat, by omega⟩
  obtain ⟨n6, hn6⟩ : ∃ n : Nat, c 6 0 = n := ⟨(c 6 0).toNat, by omega⟩
  have hl0 : nL3 c 0 = n0 := hn0
  have hl1 : nL3 c 1 = n6 := hn6
  have hl2 : nL3 c 2 = n6 := hn6
  have hLr := lenB_rg hw (T := c 14 0) (by omega)
  obtain ⟨L, hL⟩ : ∃ L : Nat, lenB c (c 14 0) = L := ⟨(lenB c (c 14 0)).toNat, by omega⟩
  have hLL : LL c = L := by unfold LL; omega
  rw [hL] at hLr
  refine n_aload_n C dX2_takes_0 rfl ?_
  refine n_iload_n C dX2_takes_1 rfl ?_
  refine n_invV C (k_cueN hst (by unfold rg; omega) hM hw hI) ⟨t3_161, t3_164, t1_1, ⟨by decide, by decide⟩, by show _ = some 1; decide +kernel, by decide⟩ t3_163 tp_10 hM.1.1 vC5 (by decide) (by omega) (by omega) (Nat.le_of_ble_eq_true rfl) rfl dX2_takes_2 (fun r σ' h' => ?_) (fun E σ' h' => by
      obtain ⟨rfl, rfl, hz⟩ := h'
      exact n_out C Rr ⟨rfl, ⟨rfl, by unfold cdIs; rw [if_neg hz]⟩⟩ (by omega) (by omega))
  obtain ⟨i, rfl, rfl, hi, hi2, hσ⟩ := h'
  rw [hσ]
  have hcd : cdIs c (i : Int) = 0 := by unfold cdIs; rw [if_pos ⟨by omega, by omega, by rw [Int.toNat_natCast]; exact hi2⟩]
  refine n_astore_n (lv' := [(2, .ref (shA A (30 + i))), (0, .ref (shA A 0)), (1, iv (i : Int))]) C dX2_takes_5 (by rw [hN]; decide) rfl ?_
  refine n_aload_n C dX2_takes_6 rfl ?_
  refine n_aload_n C dX2_takes_7 rfl ?_
  refine n_aload_n C dX2_takes_8 rfl ?_
  refine n_get C hM.1.1 vC5 vI5 7 (by decide) t1_70 rfl rfl dX2_takes_9 ?_
  refine n_invV C (k_barTicks hst (T := c 14 0) (by omega) hM hw hI) ⟨t3_199, t3_202, t1_1, ⟨by decide, by decide⟩, by show _ = some 1; decide +kernel, by decide⟩ t3_201 tp_12 hM.1.1 vC5 (by decide) (by omega) (by omega) (Nat.le_of_ble_eq_true rfl) rfl dX2_takes_12 (fun r σ' h' => ?_) (fun _ _ h => h.elim)
  obtain ⟨rfl, hσ⟩ := h'
  rw [hσ, hL]
  refine n_invV C (k_plan hst hM hw hI (L := L) (by omega)) ⟨t4_21, t4_24, t1_1, ⟨by decide, by decide⟩, by show _ = some 1; decide +kernel, by decide⟩ t4_23 tp_13 hM.1.1 vC5 (by decide) (by omega) (by omega) (Nat.le_of_ble_eq_true rfl) rfl dX2_takes_15 (fun r σ h' => ?_) (fun _ _ h => h.elim)
  obtain ⟨rfl, D1, hM, hW2⟩ := h'
  refine n_aload_n C dX2_takes_18 rfl ?_
  refine n_get C (hM.qi (q := i) (by omega)) vC3 vI3 5 (by decide) t2_129 rfl rfl dX2_takes_19 ?_
  exact n_ireturn C Rr rfl ⟨_, D1, rfl, hM, hcd, by rw [hW2 i hi, hLL.symm]; unfold vlTakes; rw [Int.toNat_natCast]⟩ (by omega) (by omega) dX2_takes_22
set_option maxRecDepth 100000 in
set_option maxHeartbeats 4000000 in
theorem p_clashes {g : Gx} (hst : g.1.stackTraces = false) {a : Int} (ha : rg a) {A : ShT} {β : Wd} {c D : Tb} {σ : Wd} (hM : CB g.2.1 A β c D σ) (hw : WF c) (hI : CI g c A)  : CT g yX2_clashes cX2_clashes 3 (some .int) 5 1 6 [.ref (shA A 0), iv a] σ (fun r σ' => ∃ (x : Int) (D' : Tb), r = some (iv x) ∧ CB g.2.1 A β c D' σ' ∧ cdWork a = 0 ∧ x = vlClashes c a) (fun E σ' => σ' = σ ∧ ((E = "java/lang/IllegalArgumentException" ∧ cdWork a = 1))) := by
  refine CT.of hst (by decide +kernel) (Nat.le_of_ble_eq_true rfl) (fun Φ C Rr hY hN => ?_)
  show N Φ 0 0 σ 0 [(0, .ref (shA A 0)), (1, iv a)] []
  unfold rg at ha
  obtain ⟨w0, w6, w12, w13, w14, w15, w16, wm, wq, ww⟩ := id hw
  obtain ⟨n0, hn0⟩ : ∃ n : Nat, c 0 0 = n := ⟨(c 0 0).toNat, by omega⟩
  obtain ⟨n6, hn6⟩ : ∃ n : Nat, c 6 0 = n := ⟨(c 6 0).toNat, by omega⟩
  have hl0 : nL3 c 0 = n0 := hn0
  have hl1 : nL3 c 1 = n6 := hn6
  have hl2 : nL3 c 2 = n6 := hn6
  have hLr := lenB_rg hw (T := c 14 0) (by omega)
  obtain ⟨L, hL⟩ : ∃ L : Nat, lenB c (c 14 0) = L := ⟨(lenB c (c 14 0)).toNat, by omega⟩
  have hLL : LL c = L := by unfold LL; omega
  rw [hL] at hLr
  refine n_iload_n C dX2_clashes_0 rfl ?_
  refine n_invS C (k_isWorker hst (by unfold rg; omega)) ⟨t2_109, t2_111, t1_1, ⟨by decide, by decide⟩, by show _ = some 1; decide +kernel, by decide⟩ t2_110 (by decide) (by omega) (by omega) (Nat.le_of_ble_eq_true rfl) rfl dX2_clashes_1 (fun r σ' h' => ?_) (fun _ _ h => h.elim)
  obtain ⟨x, rfl, hσ, hx⟩ := h'
  rw [hσ]
  refine n_invS C (k_allow hst (by omega)) ⟨t1_113, t1_115, t1_1, ⟨by decide, by decide⟩, by show _ = some 1; decide +kernel, by decide⟩ t1_114 (by decide) (by omega) (by omega) (Nat.le_of_ble_eq_true rfl) rfl dX2_clashes_4 (fun r σ' h' => ?_) (fun E σ' h' => by
      obtain ⟨rfl, rfl, hz⟩ := h'
      exact n_out C Rr ⟨rfl, ⟨rfl, by unfold cdWork; rw [if_neg (by omega)]⟩⟩ (by omega) (by omega))
  obtain ⟨rfl, hσ, hz⟩ := h'
  rw [hσ]
  have hcd : cdWork a = 0 := by unfold cdWork; rw [if_pos (by omega)]
  refine n_aload_n C dX2_clashes_7 rfl ?_
  refine n_aload_n C dX2_clashes_8 rfl ?_
  refine n_get C hM.1.1 vC5 vI5 7 (by decide) t1_70 rfl rfl dX2_clashes_9 ?_
  refine n_invV C (k_barTicks hst (T := c 14 0) (by omega) hM hw hI) ⟨t3_199, t3_202, t1_1, ⟨by decide, by decide⟩, by show _ = some 1; decide +kernel, by decide⟩ t3_201 tp_12 hM.1.1 vC5 (by decide) (by omega) (by omega) (Nat.le_of_ble_eq_true rfl) rfl dX2_clashes_12 (fun r σ' h' => ?_) (fun _ _ h => h.elim)
  obtain ⟨rfl, hσ⟩ := h'
  rw [hσ, hL]
  refine n_istore_n (lv' := [(2, iv (L : Int)), (0, .ref (shA A 0)), (1, iv a)]) C dX2_clashes_15 (by rw [hN]; decide) rfl ?_
  refine n_aload_n C dX2_clashes_16 rfl ?_
  refine n_iload_n C dX2_clashes_17 rfl ?_
  refine n_invV C (k_plan hst hM hw hI (L := L) (by omega)) ⟨t4_21, t4_24, t1_1, ⟨by decide, by decide⟩, by show _ = some 1; decide +kernel, by decide⟩ t4_23 tp_13 hM.1.1 vC5 (by decide) (by omega) (by omega) (Nat.le_of_ble_eq_true rfl) rfl dX2_clashes_18 (fun r σ h' => ?_) (fun _ _ h => h.elim)
  obtain ⟨rfl, D1, hM, hW2⟩ := h'
  refine n_aload_n C dX2_clashes_21 rfl ?_
  refine n_iload_n C dX2_clashes_22 rfl ?_
  refine n_iload_n C dX2_clashes_23 rfl ?_
  refine n_invV C (k_clashes hst hM hw hI (L := L) (by omega) hW2 (v := a) (by omega)) ⟨t4_93, t4_96, t1_1, ⟨by decide, by decide⟩, by show _ = some 2; decide +kernel, by decide⟩ t4_95 tp_20 hM.1.1 vC5 (by decide) (by omega) (by omega) (Nat.le_of_ble_eq_true rfl) rfl dX2_clashes_24 (fun r σ' h' => ?_) (fun _ _ h => h.elim)
  obtain ⟨rfl, hσ⟩ := h'
  rw [hσ]
  exact n_ireturn C Rr rfl ⟨_, D1, rfl, hM, hcd, by unfold vlClashes; rw [hLL]⟩ (by omega) (by omega) dX2_clashes_27
set_option maxRecDepth 100000 in
set_option maxHeartbeats 4000000 in
theorem p_isFine {g : Gx} (hst : g.1.stackTraces = false) {A : ShT} {β : Wd} {c D : Tb} {σ : Wd} (hM : CB g.2.1 A β c D σ) (hw : WF c) (hI : CI g c A)  : CT g yX2_isFine cX2_isFine 1 (some .boolean) 6 0 0 [.ref (shA A 0)] σ (fun r σ' => ∃ (x : Int) (D' : Tb), r = some (iv x) ∧ CB g.2.1 A β c D' σ' ∧ ((x = 1 ∧ FINE c (LL c)) ∨ (x = 0 ∧ ¬ FINE c (LL c)))) (fun _ _ => False) := by
  refine CT.of hst (by decide +kernel) (Nat.le_of_ble_eq_true rfl) (fun Φ C Rr hY hN => ?_)
  show N Φ 0 0 σ 0 [(0, .ref (shA A 0))] []
  obtain ⟨w0, w6, w12, w13, w14, w15, w16, wm, wq, ww⟩ := id hw
  obtain ⟨n0, hn0⟩ : ∃ n : Nat, c 0 0 = n := ⟨(c 0 0).toNat, by omega⟩
  obtain ⟨n6, hn6⟩ : ∃ n : Nat, c 6 0 = n := ⟨(c 6 0).toNat, by omega⟩
  have hl0 : nL3 c 0 = n0 := hn0
  have hl1 : nL3 c 1 = n6 := hn6
  have hl2 : nL3 c 2 = n6 := hn6
  have hLr := lenB_rg hw (T := c 14 0) (by omega)
  obtain ⟨L, hL⟩ : ∃ L : Nat, lenB c (c 14 0) = L := ⟨(lenB c (c 14 0)).toNat, by omega⟩
  have hLL : LL c = L := by unfold LL; omega
  rw [hL] at hLr
  refine n_aload_n C dX2_isFine_0 rfl ?_
  refine n_aload_n C dX2_isFine_1 rfl ?_
  refine n_get C hM.1.1 vC5 vI5 7 (by decide) t1_70 rfl rfl dX2_isFine_2 ?_
  refine n_invV C (k_fineWith hst hM hw hI (T := c 14 0) (by omega)) ⟨t4_108, t4_111, t1_1, ⟨by decide, by decide⟩, by show _ = some 1; decide +kernel, by decide⟩ t4_110 tp_21 hM.1.1 vC5 (by decide) (by omega) (by omega) (Nat.le_of_ble_eq_true rfl) rfl dX2_isFine_5 (fun r σ h' => ?_) (fun _ _ h => h.elim)
  obtain ⟨x, D1, rfl, hM, hx⟩ := h'
  exact n_ireturn C Rr (nar_bv (by first | decide | omega)) ⟨x, D1, rfl, hM, hx⟩ (by omega) (by omega) dX2_isFine_8
set_option maxRecDepth 100000 in
set_option maxHeartbeats 4000000 in
theorem p_fastest {g : Gx} (hst : g.1.stackTraces = false) {A : ShT} {β : Wd} {c D : Tb} {σ : Wd} (hM : CB g.2.1 A β c D σ) (hw : WF c) (hI : CI g c A)  : CT g yX2_fastest cX2_fastest 2 (some .int) 6 0 0 [.ref (shA A 0)] σ (fun r σ' => ∃ (x : Int) (D' : Tb), r = some (iv x) ∧ CB g.2.1 A β c D' σ' ∧ x = fsF c 16) (fun _ _ => False) := by
  refine CT.of hst (by decide +kernel) (Nat.le_of_ble_eq_true rfl) (fun Φ C Rr hY hN => ?_)
  show N Φ 0 0 σ 0 [(0, .ref (shA A 0))] []
  obtain ⟨w0, w6, w12, w13, w14, w15, w16, wm, wq, ww⟩ := id hw
  obtain ⟨n0, hn0⟩ : ∃ n : Nat, c 0 0 = n := ⟨(c 0 0).toNat, by omega⟩
  obtain ⟨n6, hn6⟩ : ∃ n : Nat, c 6 0 = n := ⟨(c 6 0).toNat, by omega⟩
  have hl0 : nL3 c 0 = n0 := hn0
  have hl1 : nL3 c 1 = n6 := hn6
  have hl2 : nL3 c 2 = n6 := hn6
  refine n_sipush (x := 200) C dX2_fastest_0 (by decide) ?_
  refine n_istore_n (lv' := [(1, iv 200), (0, .ref (shA A 0))]) C dX2_fastest_3 (by rw [hN]; decide) rfl ?_
  have LP : ∀ (fu : Nat) (n : Nat) (σ : Wd) (D1 : Tb) (hM : CB g.2.1 A β c D1 σ) (hv : fsF c 16 = fsF c n) (h1 : n ≤ 16) (h2 : n < fu), N Φ 0 0 σ 4 [(1, iv (40 + 10 * (n : Int))), (0, .ref (shA A 0))] [] := by
    intro fu
    induction fu with
    | zero =>
      intro n σ D1 hM hv h1 h2
      omega
    | succ fu ih =>
      intro n σ D1 hM hv h1 h2
      refine n_iload_n C dX2_fastest_4 rfl ?_
      refine n_bipush (x := 50) C dX2_fastest_5 (by decide) ?_
      refine n_icmp_lt C 26 dX2_fastest_7 (by decide) (by unfold rg; omega) (by unfold rg; omega) (fun b7 => ?_) (fun b7 => ?_)
      · refine n_iconst (x := (-1)) C dX2_fastest_26 ?_
        exact n_ireturn C Rr rfl ⟨_, D1, rfl, hM, by rw [hv, show n = 0 by omega]; rfl⟩ (by omega) (by omega) dX2_fastest_27
      · refine n_aload_n C dX2_fastest_10 rfl ?_
        refine n_iload_n C dX2_fastest_11 rfl ?_
        refine n_invV C (k_fineWith hst hM hw hI (by omega)) ⟨t4_108, t4_111, t1_1, ⟨by decide, by decide⟩, by show _ = some 1; decide +kernel, by decide⟩ t4_110 tp_21 hM.1.1 vC5 (by decide) (by omega) (by omega) (Nat.le_of_ble_eq_true rfl) rfl dX2_fastest_12 (fun r σ h' => ?_) (fun _ _ h => h.elim)
        obtain ⟨x, D2, rfl, hM, hx⟩ := h'
        obtain ⟨m, rfl⟩ : ∃ m : Nat, n = m + 1 := ⟨n - 1, by omega⟩
        refine n_if_eq C 20 dX2_fastest_15 (by decide) (by unfold rg; omega) (fun b15 => ?_) (fun b15 => ?_)
        · have hF := (hx.resolve_left (fun q => by omega)).2
          refine n_iinc (lv' := [(1, iv ((40 + 10 * ((m + 1 : Nat) : Int)) + (-10))), (0, .ref (shA A 0))]) C dX2_fastest_20 rfl (by rw [hN]; decide) rfl ?_
          refine n_goto C 4 dX2_fastest_23 (by decide) ?_
          have e1 : 40 + 10 * ((m + 1 : Nat) : Int) + -10 = 40 + 10 * (m : Int) := by omega
          rw [e1]
          exact ih m _ _ hM (by rw [hv]; (conv => lhs; unfold fsF); rw [if_neg hF]) (by omega) (by omega)
        · have hF := (hx.resolve_right (fun q => by omega)).2
          refine n_iload_n C dX2_fastest_18 rfl ?_
          exact n_ireturn C Rr rfl ⟨_, D2, rfl, hM, by rw [hv]; unfold fsF; rw [if_pos hF]⟩ (by omega) (by omega) dX2_fastest_19
  exact LP 17 16 _ _ hM rfl (by omega) (by omega)
