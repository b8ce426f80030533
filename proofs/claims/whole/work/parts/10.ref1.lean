set_option maxRecDepth 100000 in
set_option maxHeartbeats 4000000 in
theorem c_isIn {g : Gx} (hst : g.1.stackTraces = false) {a b e : Int} (ha : rg a) (hb : rg b) (he : rg e) {σ : Wd} : CT g yX3_isIn cX3_isIn 3 (some .boolean) 0 0 0 [iv a, iv b, iv e] σ (fun r σ' => ∃ x : Int, r = some (iv x) ∧ σ' = σ ∧ ((x = 1 ∧ b ≤ a ∧ a ≤ e) ∨ (x = 0 ∧ ¬ (b ≤ a ∧ a ≤ e)))) (fun _ _ => False) := by
  refine CT.of hst (by decide +kernel) (Nat.le_of_ble_eq_true rfl) (fun Φ C Rr hY hN => ?_)
  show N Φ 0 0 σ 0 [(0, iv a), (1, iv b), (2, iv e)] []
  unfold rg at ha hb he
  refine n_iload_n C dX3_isIn_0 rfl ?_
  refine n_iload_n C dX3_isIn_1 rfl ?_
  refine n_icmp_lt C 14 dX3_isIn_2 (by decide) (by unfold rg; omega) (by unfold rg; omega) (fun b2 => ?_) (fun b2 => ?_)
  · refine n_iconst (x := 0) C dX3_isIn_14 ?_
    exact n_ireturn C Rr (nar_bv (by first | decide | omega)) ⟨_, rfl, rfl, by omega⟩ (by omega) (by omega) dX3_isIn_15
  · refine n_iload_n C dX3_isIn_5 rfl ?_
    refine n_iload_n C dX3_isIn_6 rfl ?_
    refine n_icmp_gt C 14 dX3_isIn_7 (by decide) (by unfold rg; omega) (by unfold rg; omega) (fun b7 => ?_) (fun b7 => ?_)
    · refine n_iconst (x := 0) C dX3_isIn_14 ?_
      exact n_ireturn C Rr (nar_bv (by first | decide | omega)) ⟨_, rfl, rfl, by omega⟩ (by omega) (by omega) dX3_isIn_15
    · refine n_iconst (x := 1) C dX3_isIn_10 ?_
      refine n_goto C 15 dX3_isIn_11 (by decide) ?_
      exact n_ireturn C Rr (nar_bv (by first | decide | omega)) ⟨_, rfl, rfl, by omega⟩ (by omega) (by omega) dX3_isIn_15
set_option maxRecDepth 100000 in
set_option maxHeartbeats 4000000 in
theorem c_isWorker {g : Gx} (hst : g.1.stackTraces = false) {a : Int} (ha : rg a) {σ : Wd} : CT g yX3_isWorker cX3_isWorker 1 (some .boolean) 1 0 0 [iv a] σ (fun r σ' => ∃ x : Int, r = some (iv x) ∧ σ' = σ ∧ ((x = 1 ∧ 0 ≤ a ∧ a ≤ 5) ∨ (x = 0 ∧ ¬ (0 ≤ a ∧ a ≤ 5)))) (fun _ _ => False) := by
  refine CT.of hst (by decide +kernel) (Nat.le_of_ble_eq_true rfl) (fun Φ C Rr hY hN => ?_)
  show N Φ 0 0 σ 0 [(0, iv a)] []
  unfold rg at ha
  refine n_iload_n C dX3_isWorker_0 rfl ?_
  refine n_iconst (x := 0) C dX3_isWorker_1 ?_
  refine n_iconst (x := 5) C dX3_isWorker_2 ?_
  refine n_invS C (c_isIn hst (by unfold rg; omega) (by unfold rg; omega) (by unfold rg; omega)) ⟨w4_218, w4_220, w1_5, ⟨by decide, by decide⟩, by show _ = some 3; decide +kernel, by decide⟩ w4_219 (by decide) (by omega) (by omega) (Nat.le_of_ble_eq_true rfl) rfl dX3_isWorker_3 (fun r σ' h => ?_) (fun _ _ h => h.elim)
  obtain ⟨x, rfl, rfl, hx⟩ := h
  exact n_ireturn C Rr (nar_bv (by first | decide | omega)) ⟨x, rfl, rfl, by omega⟩ (by omega) (by omega) dX3_isWorker_6
set_option maxRecDepth 100000 in
set_option maxHeartbeats 4000000 in
theorem c_can {g : Gx} (hst : g.1.stackTraces = false) {f : Int} (hf : 0 ≤ f ∧ f ≤ 9) {o : Nat} {ar : Nat → Nat} {β : Wd} {M c : Tb} (I : RI o ar) {σ : Wd} (hM : MW g.2.1 o ar β M σ) (hc : cut M = c) : CT g yX3_can cX3_can 2 (some .boolean) 0 0 0 [.ref o, iv f] σ (fun r σ' => ∃ (x : Int) (M' : Tb), r = some (iv x) ∧ MW g.2.1 o ar β M' σ' ∧ cut M' = c ∧ M' 26 0 = f ∧ ((x = 1 ∧ f = 0) ∨ (x = 0 ∧ f ≠ 0))) (fun _ _ => False) := by
  refine CT.of hst (by decide +kernel) (Nat.le_of_ble_eq_true rfl) (fun Φ C Rr hY hN => ?_)
  show N Φ 0 0 σ 0 [(0, .ref o), (1, iv f)] []
  refine n_aload_n C dX3_can_0 rfl ?_
  refine n_iload_n C dX3_can_1 rfl ?_
  refine r_put C I hM 26 (by decide) rfl w4_154 rfl rfl rfl rfl dX3_can_2 (fun σ hM => ?_)
  replace hc : cut (tu M 26 0 f) = c := (cut_tu (by decide)).trans hc
  refine n_iload_n C dX3_can_5 rfl ?_
  refine n_if_ne C 13 dX3_can_6 (by decide) (by unfold rg; omega) (fun b6 => ?_) (fun b6 => ?_)
  · refine n_iconst (x := 0) C dX3_can_13 ?_
    exact n_ireturn C Rr (nar_bv (by first | decide | omega)) ⟨0, _, rfl, hM, hc, rfl, by omega⟩ (by omega) (by omega) dX3_can_14
  · refine n_iconst (x := 1) C dX3_can_9 ?_
    refine n_goto C 14 dX3_can_10 (by decide) ?_
    exact n_ireturn C Rr (nar_bv (by first | decide | omega)) ⟨1, _, rfl, hM, hc, rfl, by omega⟩ (by omega) (by omega) dX3_can_14
set_option maxRecDepth 100000 in
set_option maxHeartbeats 4000000 in
theorem c_thrown {g : Gx} (hst : g.1.stackTraces = false) {o : Nat} {ar : Nat → Nat} {β : Wd} {M c : Tb} (I : RI o ar) {σ : Wd} (hM : MW g.2.1 o ar β M σ) (hc : cut M = c) : CT g yX3_thrown cX3_thrown 1 (some .int) 0 0 0 [.ref o] σ (fun r σ' => r = some (iv (M 26 0)) ∧ σ' = σ) (fun _ _ => False) := by
  refine CT.of hst (by decide +kernel) (Nat.le_of_ble_eq_true rfl) (fun Φ C Rr hY hN => ?_)
  show N Φ 0 0 σ 0 [(0, .ref o)] []
  refine n_aload_n C dX3_thrown_0 rfl ?_
  refine r_get C hM 26 (by decide) w4_154 rfl rfl dX3_thrown_1 ?_
  exact n_ireturn C Rr rfl ⟨rfl, rfl⟩ (by omega) (by omega) dX3_thrown_4
set_option maxRecDepth 100000 in
set_option maxHeartbeats 4000000 in
theorem c_isMachine {g : Gx} (hst : g.1.stackTraces = false) {a : Int} (ha : rg a) {o : Nat} {ar : Nat → Nat} {β : Wd} {M c : Tb} (I : RI o ar) {σ : Wd} (hM : MW g.2.1 o ar β M σ) (hc : cut M = c) (hw : WF c) : CT g yX3_isMachine cX3_isMachine 2 (some .boolean) 1 0 0 [.ref o, iv a] σ (fun r σ' => ∃ x : Int, r = some (iv x) ∧ σ' = σ ∧ ((x = 1 ∧ 0 ≤ a ∧ a < c 0 0) ∨ (x = 0 ∧ ¬ (0 ≤ a ∧ a < c 0 0)))) (fun _ _ => False) := by
  refine CT.of hst (by decide +kernel) (Nat.le_of_ble_eq_true rfl) (fun Φ C Rr hY hN => ?_)
  show N Φ 0 0 σ 0 [(0, .ref o), (1, iv a)] []
  unfold rg at ha
  obtain ⟨w0, w6, w12, w13, w14, w15, w16, wm, wq, ww⟩ := id hw
  refine n_iload_n C dX3_isMachine_0 rfl ?_
  refine n_iconst (x := 0) C dX3_isMachine_1 ?_
  refine n_aload_n C dX3_isMachine_2 rfl ?_
  refine r_getc C hM hc 0 (by decide) w4_128 rfl rfl dX3_isMachine_3 ?_
  refine n_iconst (x := 1) C dX3_isMachine_6 ?_
  refine n_isub C dX3_isMachine_7 ?_
  refine n_invS C (c_isIn hst (by unfold rg; omega) (by unfold rg; omega) (by unfold rg; omega)) ⟨w4_218, w4_220, w1_5, ⟨by decide, by decide⟩, by show _ = some 3; decide +kernel, by decide⟩ w4_219 (by decide) (by omega) (by omega) (Nat.le_of_ble_eq_true rfl) rfl dX3_isMachine_8 (fun r σ' h => ?_) (fun _ _ h => h.elim)
  obtain ⟨x, rfl, rfl, hx⟩ := h
  exact n_ireturn C Rr (nar_bv (by first | decide | omega)) ⟨x, rfl, rfl, by omega⟩ (by omega) (by omega) dX3_isMachine_11
set_option maxRecDepth 100000 in
set_option maxHeartbeats 4000000 in
theorem c_isCue {g : Gx} (hst : g.1.stackTraces = false) {a : Int} (ha : rg a) {o : Nat} {ar : Nat → Nat} {β : Wd} {M c : Tb} (I : RI o ar) {σ : Wd} (hM : MW g.2.1 o ar β M σ) (hc : cut M = c) (hw : WF c) : CT g yX3_isCue cX3_isCue 2 (some .boolean) 1 0 0 [.ref o, iv a] σ (fun r σ' => ∃ x : Int, r = some (iv x) ∧ σ' = σ ∧ ((x = 1 ∧ 0 ≤ a ∧ a < c 6 0 ∧ c 11 a.toNat = 0) ∨ (x = 0 ∧ ¬ (0 ≤ a ∧ a < c 6 0 ∧ c 11 a.toNat = 0)))) (fun _ _ => False) := by
  refine CT.of hst (by decide +kernel) (Nat.le_of_ble_eq_true rfl) (fun Φ C Rr hY hN => ?_)
  show N Φ 0 0 σ 0 [(0, .ref o), (1, iv a)] []
  unfold rg at ha
  obtain ⟨w0, w6, w12, w13, w14, w15, w16, wm, wq, ww⟩ := id hw
  refine n_iload_n C dX3_isCue_0 rfl ?_
  refine n_iconst (x := 0) C dX3_isCue_1 ?_
  refine n_aload_n C dX3_isCue_2 rfl ?_
  refine r_getc C hM hc 6 (by decide) w4_134 rfl rfl dX3_isCue_3 ?_
  refine n_iconst (x := 1) C dX3_isCue_6 ?_
  refine n_isub C dX3_isCue_7 ?_
  refine n_invS C (c_isIn hst (by unfold rg; omega) (by unfold rg; omega) (by unfold rg; omega)) ⟨w4_218, w4_220, w1_5, ⟨by decide, by decide⟩, by show _ = some 3; decide +kernel, by decide⟩ w4_219 (by decide) (by omega) (by omega) (Nat.le_of_ble_eq_true rfl) rfl dX3_isCue_8 (fun r σ' h => ?_) (fun _ _ h => h.elim)
  obtain ⟨x, rfl, rfl, hx⟩ := h
  refine n_if_eq C 27 dX3_isCue_11 (by decide) (by unfold rg; omega) (fun b11 => ?_) (fun b11 => ?_)
  · refine n_iconst (x := 0) C dX3_isCue_27 ?_
    exact n_ireturn C Rr (nar_bv (by first | decide | omega)) ⟨_, rfl, rfl, by omega⟩ (by omega) (by omega) dX3_isCue_28
  · obtain ⟨q, rfl⟩ : ∃ q : Nat, a = q := ⟨a.toNat, by omega⟩
    have w1 := (wq q).2.2.2.2.2.2.2.1
    refine n_aload_n C dX3_isCue_14 rfl ?_
    refine r_get C hM 11 (by decide) w4_139 rfl rfl dX3_isCue_15 ?_
    refine n_iload_n C dX3_isCue_18 rfl ?_
    refine r_zaldc C hM hc 11 (by decide) rfl rfl q rfl (show _ < 24 by omega) dX3_isCue_19 ?_
    refine n_if_ne C 27 dX3_isCue_20 (by decide) (by unfold rg; omega) (fun b20 => ?_) (fun b20 => ?_)
    · refine n_iconst (x := 0) C dX3_isCue_27 ?_
      exact n_ireturn C Rr (nar_bv (by first | decide | omega)) ⟨_, rfl, rfl, by rw [Int.toNat_natCast]; omega⟩ (by omega) (by omega) dX3_isCue_28
    · refine n_iconst (x := 1) C dX3_isCue_23 ?_
      refine n_goto C 28 dX3_isCue_24 (by decide) ?_
      exact n_ireturn C Rr (nar_bv (by first | decide | omega)) ⟨_, rfl, rfl, by rw [Int.toNat_natCast]; omega⟩ (by omega) (by omega) dX3_isCue_28
set_option maxRecDepth 100000 in
set_option maxHeartbeats 4000000 in
theorem c_lengthBy {g : Gx} (hst : g.1.stackTraces = false) {T : Int} (hT : 50 ≤ T ∧ T ≤ 200) {o : Nat} {ar : Nat → Nat} {β : Wd} {M c : Tb} (I : RI o ar) {σ : Wd} (hM : MW g.2.1 o ar β M σ) (hc : cut M = c) (hw : WF c) : CT g yX3_lengthBy cX3_lengthBy 3 (some .int) 0 0 0 [.ref o, iv T] σ (fun r σ' => r = some (iv (lenB c T)) ∧ σ' = σ) (fun _ _ => False) := by
  refine CT.of hst (by decide +kernel) (Nat.le_of_ble_eq_true rfl) (fun Φ C Rr hY hN => ?_)
  show N Φ 0 0 σ 0 [(0, .ref o), (1, iv T)] []
  obtain ⟨w0, w6, w12, w13, w14, w15, w16, wm, wq, ww⟩ := id hw
  refine n_aload_n C dX3_lengthBy_0 rfl ?_
  refine r_getc C hM hc 13 (by decide) w4_141 rfl rfl dX3_lengthBy_1 ?_
  refine n_bipush (x := 100) C dX3_lengthBy_4 (by decide) ?_
  refine n_imul C dX3_lengthBy_6 ?_
  refine n_iload_n C dX3_lengthBy_7 rfl ?_
  refine n_idivP C dX3_lengthBy_8 (by unfold rg; omega) (by unfold rg; omega) (by omega) (by omega) ?_
  refine n_istore_n (lv' := [(2, iv (((c 13 0) * 100) / T)), (0, .ref o), (1, iv T)]) C dX3_lengthBy_9 (by rw [hN]; decide) rfl ?_
  refine n_iload_n C dX3_lengthBy_10 rfl ?_
  refine n_iconst (x := 1) C dX3_lengthBy_11 ?_
  have q1 : 0 ≤ c 13 0 * 100 / T := Int.ediv_nonneg (by omega) (by omega)
  have q2 : c 13 0 * 100 / T ≤ c 13 0 * 100 := Int.ediv_le_self _ (by omega)
  refine n_icmp_ge C 19 dX3_lengthBy_12 (by decide) (by unfold rg; omega) (by unfold rg; omega) (fun b12 => ?_) (fun b12 => ?_)
  · refine n_iload_n C dX3_lengthBy_19 rfl ?_
    exact n_ireturn C Rr rfl ⟨by unfold lenB; rw [if_neg (by omega)], rfl⟩ (by omega) (by omega) dX3_lengthBy_20
  · refine n_iconst (x := 1) C dX3_lengthBy_15 ?_
    refine n_goto C 20 dX3_lengthBy_16 (by decide) ?_
    exact n_ireturn C Rr rfl ⟨by unfold lenB; rw [if_pos (by omega)], rfl⟩ (by omega) (by omega) dX3_lengthBy_20
