set_option maxRecDepth 100000 in
set_option maxHeartbeats 4000000 in
theorem c_floorMod {g : Gx} (hst : g.1.stackTraces = false) {x : Int} (h : -800 ≤ x ∧ x ≤ 800) {σ : Wd}  : CT g yJ9_floorMod_7cf53 cJ9_floorMod_7cf53 3 (some .int) 0 0 0 [iv x, iv 360] σ (fun r σ' => r = some (iv (x % 360)) ∧ σ' = σ) (fun _ _ => False) := by
  refine CT.ofF hst (by decide +kernel) (Nat.le_of_ble_eq_true rfl) (fun Φ C Rr hY hN => ?_)
  show N Φ 0 0 σ 0 [(0, iv x), (1, iv 360)] []
  refine n_iload_n C dJ9_floorMod_7cf53_0 rfl ?_
  refine n_iload_n C dJ9_floorMod_7cf53_1 rfl ?_
  refine n_irem C dJ9_floorMod_7cf53_2 (by unfold rg; omega) (by unfold rg; omega) (by decide) (by decide) ?_
  refine n_istore_n (lv' := [(2, iv (x.tmod 360)), (0, iv x), (1, iv 360)]) C dJ9_floorMod_7cf53_3 (by rw [hN]; decide) rfl ?_
  refine n_iload_n C dJ9_floorMod_7cf53_4 rfl ?_
  refine n_iload_n C dJ9_floorMod_7cf53_5 rfl ?_
  refine n_ixor (z := (iI x ^^^ iI 360).toInt) C dJ9_floorMod_7cf53_6 (iI_o _).symm ?_
  have hq := fm_x h
  have p1 : 0 ≤ x → x.tmod 360 = x % 360 := Int.tmod_eq_emod_of_nonneg
  have p2 : x < 0 → x.tmod 360 = -((-x) % 360) := tmod_n
  refine n_if_ge C 18 dJ9_floorMod_7cf53_7 (by decide) (rg_t _) (fun b7 => ?_) (fun b7 => ?_)
  · refine n_iload_n C dJ9_floorMod_7cf53_18 rfl ?_
    exact n_ireturn C Rr rfl ⟨by congr 2; omega, rfl⟩ (by omega) (by omega) dJ9_floorMod_7cf53_19
  · refine n_iload_n C dJ9_floorMod_7cf53_10 rfl ?_
    refine n_if_eq C 18 dJ9_floorMod_7cf53_11 (by decide) (by unfold rg; omega) (fun b11 => ?_) (fun b11 => ?_)
    · refine n_iload_n C dJ9_floorMod_7cf53_18 rfl ?_
      exact n_ireturn C Rr rfl ⟨by congr 2; omega, rfl⟩ (by omega) (by omega) dJ9_floorMod_7cf53_19
    · refine n_iload_n C dJ9_floorMod_7cf53_14 rfl ?_
      refine n_iload_n C dJ9_floorMod_7cf53_15 rfl ?_
      refine n_iadd C dJ9_floorMod_7cf53_16 ?_
      exact n_ireturn C Rr rfl ⟨by congr 2; omega, rfl⟩ (by omega) (by omega) dJ9_floorMod_7cf53_17
set_option maxRecDepth 100000 in
set_option maxHeartbeats 4000000 in
theorem c_preCheck {g : Gx} (hst : g.1.stackTraces = false) {i m : Int} (h : 0 ≤ i ∧ i < m) (hm : rg m) {σ : Wd}  : CT g yJ3_checkIndex_8e157 cJ3_checkIndex_8e157 3 (some .int) 0 0 0 [iv i, iv m, .null] σ (fun r σ' => r = some (iv i) ∧ σ' = σ) (fun _ _ => False) := by
  refine CT.of hst (by decide +kernel) (Nat.le_of_ble_eq_true rfl) (fun Φ C Rr hY hN => ?_)
  show N Φ 0 0 σ 0 [(0, iv i), (1, iv m), (2, .null)] []
  unfold rg at hm
  refine n_iload_n C dJ3_checkIndex_8e157_0 rfl ?_
  refine n_if_lt C 9 dJ3_checkIndex_8e157_1 (by decide) (by unfold rg; omega) (fun b1 => ?_) (fun b1 => ?_)
  · exfalso; omega
  · refine n_iload_n C dJ3_checkIndex_8e157_4 rfl ?_
    refine n_iload_n C dJ3_checkIndex_8e157_5 rfl ?_
    refine n_icmp_lt C 16 dJ3_checkIndex_8e157_6 (by decide) (by unfold rg; omega) (by unfold rg; omega) (fun b6 => ?_) (fun b6 => ?_)
    · refine n_iload_n C dJ3_checkIndex_8e157_16 rfl ?_
      exact n_ireturn C Rr rfl ⟨rfl, rfl⟩ (by omega) (by omega) dJ3_checkIndex_8e157_17
    · exfalso; omega
set_option maxRecDepth 100000 in
set_option maxHeartbeats 4000000 in
theorem c_checkIndex {g : Gx} (hst : g.1.stackTraces = false) {i m : Int} (h : 0 ≤ i ∧ i < m) (hm : rg m) {σ : Wd}  : CT g yJ15_checkIndex_7cf53 cJ15_checkIndex_7cf53 2 (some .int) 1 0 0 [iv i, iv m] σ (fun r σ' => r = some (iv i) ∧ σ' = σ) (fun _ _ => False) := by
  refine CT.of hst (by decide +kernel) (Nat.le_of_ble_eq_true rfl) (fun Φ C Rr hY hN => ?_)
  show N Φ 0 0 σ 0 [(0, iv i), (1, iv m)] []
  refine n_iload_n C dJ15_checkIndex_7cf53_0 rfl ?_
  refine n_iload_n C dJ15_checkIndex_7cf53_1 rfl ?_
  refine n_null C dJ15_checkIndex_7cf53_2 ?_
  refine n_invS C (c_preCheck hst h hm) ⟨t2_94, t2_96, t1_17, ⟨by decide, by decide⟩, by show _ = some 3; decide +kernel, by decide⟩ t2_95 (by decide) (by omega) (by omega) (Nat.le_of_ble_eq_true rfl) rfl dJ15_checkIndex_7cf53_3 (fun r σ' h' => ?_) (fun _ _ h => h.elim)
  obtain ⟨rfl, rfl⟩ := h'
  exact n_ireturn C Rr rfl ⟨rfl, rfl⟩ (by omega) (by omega) dJ15_checkIndex_7cf53_6
set_option maxRecDepth 100000 in
set_option maxHeartbeats 4000000 in
theorem c_colInit {g : Gx} (hst : g.1.stackTraces = false) {x : Nat} {σ : Wd}  : CT g yJxa1e45_init_da8c8 cJxa1e45_init_da8c8 1 none 0 0 0 [.ref x] σ (fun r σ' => r = none ∧ σ' = σ) (fun _ _ => False) := by
  refine CT.of hst (by decide +kernel) (Nat.le_of_ble_eq_true rfl) (fun Φ C Rr hY hN => ?_)
  show N Φ 0 0 σ 0 [(0, .ref x)] []
  refine n_aload_n C dJxa1e45_init_da8c8_0 rfl ?_
  refine n_objInit C t1_48 t1_35 t1_36 (Nat.le_of_ble_eq_true rfl) dJxa1e45_init_da8c8_1 ?_
  exact n_return C Rr ⟨rfl, rfl⟩ (by omega) (by omega) dJxa1e45_init_da8c8_4
set_option maxRecDepth 100000 in
set_option maxHeartbeats 4000000 in
theorem c_absInit {g : Gx} (hst : g.1.stackTraces = false) {x : Nat} {mo m : Int} {rw : Value} {σ : Wd} (X : σ x = some (.inr (2, [iv mo, rw, iv m])))  : CT g yJxc12de_init_da8c8 cJxc12de_init_da8c8 1 none 1 0 0 [.ref x] σ (fun r σ' => r = none ∧ σ' x = some (.inr (2, [iv 0, rw, iv m])) ∧ ∀ q, q ≠ x → σ' q = σ q) (fun _ _ => False) := by
  refine CT.of hst (by decide +kernel) (Nat.le_of_ble_eq_true rfl) (fun Φ C Rr hY hN => ?_)
  show N Φ 0 0 σ 0 [(0, .ref x)] []
  refine n_aload_n C dJxc12de_init_da8c8_0 rfl ?_
  refine n_invI C (c_colInit hst) ⟨t1_45, t1_47, t1_2, ⟨by decide, by decide⟩, by show _ = some 0; decide +kernel, by decide⟩ t1_46 (by decide) (by decide) (by omega) (by omega) (Nat.le_of_ble_eq_true rfl) rfl dJxc12de_init_da8c8_1 (fun r σ' h' => ?_) (fun _ _ h => h.elim)
  obtain ⟨rfl, rfl⟩ := h'
  refine n_aload_n C dJxc12de_init_da8c8_4 rfl ?_
  refine n_iconst (x := 0) C dJxc12de_init_da8c8_5 ?_
  refine n_put C X cJ inJ tyJx4a65c tyJx4a65c_ok nmJx4a65c 0 (by decide) t1_53 rfl rfl rfl rfl (show (0 : Nat) < 3 by decide) dJxc12de_init_da8c8_6 ?_
  refine wab (e := .inr (2, [iv 0, rw, iv m])) (fun σ0 hX0 hO0 => ?_)
  exact n_return C Rr ⟨rfl, hX0, hO0⟩ (by omega) (by omega) dJxc12de_init_da8c8_9
set_option maxRecDepth 100000 in
set_option maxHeartbeats 4000000 in
theorem c_alInit {g : Gx} (hst : g.1.stackTraces = false) {x : Nat} {mo : Int} {rw : Value} {σ : Wd} (X : σ x = some (.inr (2, [iv mo, rw, iv 0])))  : CT g yJx4a65c_init_da8c8 cJx4a65c_init_da8c8 1 none 2 0 0 [.ref x] σ (fun r σ' => r = none ∧ ALst g σ' x 0 g.2.2.1 0 0 (fun _ => none) ∧ ∀ q, q ≠ x → σ' q = σ q) (fun _ _ => False) := by
  refine CT.of hst (by decide +kernel) (Nat.le_of_ble_eq_true rfl) (fun Φ C Rr hY hN => ?_)
  show N Φ 0 0 σ 0 [(0, .ref x)] []
  refine n_aload_n C dJx4a65c_init_da8c8_0 rfl ?_
  refine n_invI C (c_absInit hst X) ⟨t1_42, t1_44, t1_3, ⟨by decide, by decide⟩, by show _ = some 0; decide +kernel, by decide⟩ t1_43 (by decide) (by decide) (by omega) (by omega) (Nat.le_of_ble_eq_true rfl) rfl dJx4a65c_init_da8c8_1 (fun r σ1 h' => ?_) (fun _ _ h => h.elim)
  obtain ⟨rfl, X1, O1⟩ := h'
  refine n_aload_n C dJx4a65c_init_da8c8_4 rfl ?_
  refine n_getsE C t1_49 dJx4a65c_init_da8c8_5 ?_
  refine n_put C X1 cJ inJ tyJx4a65c tyJx4a65c_ok nmJx4a65c 1 (by decide) t1_51 rfl rfl rfl rfl (show (1 : Nat) < 3 by decide) dJx4a65c_init_da8c8_8 ?_
  refine wab (e := .inr (2, [iv 0, .ref g.2.2.1, iv 0])) (fun σ0 hX0 hO0 => ?_)
  exact n_return C Rr ⟨rfl, ⟨hX0, Or.inl ⟨rfl, rfl⟩, by decide, by decide⟩, fun q hq => (hO0 q hq).trans (O1 q hq)⟩ (by omega) (by omega) dJx4a65c_init_da8c8_11
set_option maxRecDepth 100000 in
set_option maxHeartbeats 4000000 in
theorem c_size {g : Gx} (hst : g.1.stackTraces = false) {x row m cap : Nat} {mo : Int} {f : Nat → Option Nat} {σ : Wd} (hL : ALst g σ x mo row m cap f)  : CT g yJx4a65c_size_8abf5 cJx4a65c_size_8abf5 1 (some .int) 0 0 0 [.ref x] σ (fun r σ' => r = some (iv m) ∧ σ' = σ) (fun _ _ => False) := by
  refine CT.of hst (by decide +kernel) (Nat.le_of_ble_eq_true rfl) (fun Φ C Rr hY hN => ?_)
  show N Φ 0 0 σ 0 [(0, .ref x)] []
  obtain ⟨X, hrow, hn, hcap⟩ := id hL
  refine n_aload_n C dJx4a65c_size_8abf5_0 rfl ?_
  refine n_get C X cJ inJ 2 (by decide) t1_52 rfl rfl dJx4a65c_size_8abf5_1 ?_
  exact n_ireturn C Rr rfl ⟨rfl, rfl⟩ (by omega) (by omega) dJx4a65c_size_8abf5_4
set_option maxRecDepth 100000 in
set_option maxHeartbeats 4000000 in
theorem c_elData {g : Gx} (hst : g.1.stackTraces = false) {x row m cap : Nat} {mo : Int} {f : Nat → Option Nat} {σ : Wd} (hL : ALst g σ x mo row m cap f) {i y : Nat} (hi : i < m) (hi2 : f i = some y)  : CT g yJx4a65c_elementData_915e3 cJx4a65c_elementData_915e3 2 (some (.object "java/lang/Object")) 0 0 0 [.ref x, iv (i : Int)] σ (fun r σ' => r = some (.ref y) ∧ σ' = σ) (fun _ _ => False) := by
  refine CT.of hst (by decide +kernel) (Nat.le_of_ble_eq_true rfl) (fun Φ C Rr hY hN => ?_)
  show N Φ 0 0 σ 0 [(0, .ref x), (1, iv (i : Int))] []
  obtain ⟨X, hrow, hn, hcap⟩ := id hL
  obtain ⟨hc1, hr⟩ := hrow.resolve_left (fun q => by omega)
  refine n_aload_n C dJx4a65c_elementData_915e3_0 rfl ?_
  refine n_get C X cJ inJ 1 (by decide) t1_51 rfl rfl dJx4a65c_elementData_915e3_1 ?_
  refine n_iload_n C dJx4a65c_elementData_915e3_4 rfl ?_
  refine n_aaldO C hr (by omega) (by omega) (by omega) dJx4a65c_elementData_915e3_5 ?_
  rw [Int.toNat_natCast, hi2]
  exact n_areturn C Rr (Or.inl ⟨_, rfl⟩) (Or.inr ⟨_, rfl⟩) ⟨rfl, rfl⟩ (by omega) (by omega) dJx4a65c_elementData_915e3_6
set_option maxRecDepth 100000 in
set_option maxHeartbeats 4000000 in
theorem c_get {g : Gx} (hst : g.1.stackTraces = false) {x row m cap : Nat} {mo : Int} {f : Nat → Option Nat} {σ : Wd} (hL : ALst g σ x mo row m cap f) {i y : Nat} (hi : i < m) (hi2 : f i = some y)  : CT g yJx4a65c_get_915e3 cJx4a65c_get_915e3 2 (some (.object "java/lang/Object")) 2 0 0 [.ref x, iv (i : Int)] σ (fun r σ' => r = some (.ref y) ∧ σ' = σ) (fun _ _ => False) := by
  refine CT.of hst (by decide +kernel) (Nat.le_of_ble_eq_true rfl) (fun Φ C Rr hY hN => ?_)
  show N Φ 0 0 σ 0 [(0, .ref x), (1, iv (i : Int))] []
  obtain ⟨X, hrow, hn, hcap⟩ := id hL
  refine n_iload_n C dJx4a65c_get_915e3_0 rfl ?_
  refine n_aload_n C dJx4a65c_get_915e3_1 rfl ?_
  refine n_get C X cJ inJ 2 (by decide) t1_52 rfl rfl dJx4a65c_get_915e3_2 ?_
  refine n_invS C (c_checkIndex hst ⟨by omega, by omega⟩ (by unfold rg; omega)) ⟨t2_91, t2_93, t1_16, ⟨by decide, by decide⟩, by show _ = some 2; decide +kernel, by decide⟩ t2_92 (by decide) (by omega) (by omega) (Nat.le_of_ble_eq_true rfl) rfl dJx4a65c_get_915e3_5 (fun r σ' h' => ?_) (fun _ _ h => h.elim)
  obtain ⟨rfl, rfl⟩ := h'
  refine n_pop C dJx4a65c_get_915e3_8 rfl ?_
  refine n_aload_n C dJx4a65c_get_915e3_9 rfl ?_
  refine n_iload_n C dJx4a65c_get_915e3_10 rfl ?_
  refine n_invV C (c_elData hst hL hi hi2) ⟨t2_97, t2_100, t1_4, ⟨by decide, by decide⟩, by show _ = some 1; decide +kernel, by decide⟩ t2_98 t2_99 X cJ (by decide) (by omega) (by omega) (Nat.le_of_ble_eq_true rfl) rfl dJx4a65c_get_915e3_11 (fun r σ' h' => ?_) (fun _ _ h => h.elim)
  obtain ⟨rfl, rfl⟩ := h'
  exact n_areturn C Rr (Or.inl ⟨_, rfl⟩) (Or.inr ⟨_, rfl⟩) ⟨rfl, rfl⟩ (by omega) (by omega) dJx4a65c_get_915e3_14
set_option maxRecDepth 100000 in
set_option maxHeartbeats 4000000 in
theorem c_newLength {g : Gx} (hst : g.1.stackTraces = false) {a b e : Int} (ha : 0 ≤ a ∧ a ≤ 1000) (hb : 1 ≤ b ∧ b ≤ 1000) (he : 0 ≤ e ∧ e ≤ 1000) {σ : Wd}  : CT g yJ8_newLength_cabcc cJ8_newLength_cabcc 4 (some .int) 0 0 0 [iv a, iv b, iv e] σ (fun r σ' => r = some (iv (a + max b e)) ∧ σ' = σ) (fun _ _ => False) := by
  refine CT.of hst (by decide +kernel) (Nat.le_of_ble_eq_true rfl) (fun Φ C Rr hY hN => ?_)
  show N Φ 0 0 σ 0 [(0, iv a), (1, iv b), (2, iv e)] []
  refine n_iload_n C dJ8_newLength_cabcc_0 rfl ?_
  refine n_iload_n C dJ8_newLength_cabcc_1 rfl ?_
  refine n_iload_n C dJ8_newLength_cabcc_2 rfl ?_
  refine n_max C (by unfold rg; omega) (by unfold rg; omega) t2_22 t2_23 t1_12 t2_24 (Nat.le_of_ble_eq_true rfl) (by omega) (by omega) dJ8_newLength_cabcc_3 ?_
  refine n_iadd C dJ8_newLength_cabcc_6 ?_
  refine n_istore_n (lv' := [(3, iv (a + (max b e))), (0, iv a), (1, iv b), (2, iv e)]) C dJ8_newLength_cabcc_7 (by rw [hN]; decide) rfl ?_
  refine n_iconst (x := 0) C dJ8_newLength_cabcc_8 ?_
  refine n_iload_n C dJ8_newLength_cabcc_9 rfl ?_
  refine n_icmp_ge C 21 dJ8_newLength_cabcc_10 (by decide) (by unfold rg; omega) (by unfold rg; omega) (fun b10 => ?_) (fun b10 => ?_)
  · exfalso; omega
  · refine n_iload_n C dJ8_newLength_cabcc_13 rfl ?_
    refine n_ldc (x := 2147483639) C t2_25 rfl dJ8_newLength_cabcc_14 ?_
    refine n_icmp_gt C 21 dJ8_newLength_cabcc_16 (by decide) (by unfold rg; omega) (by unfold rg; omega) (fun b16 => ?_) (fun b16 => ?_)
    · exfalso; omega
    · refine n_iload_n C dJ8_newLength_cabcc_19 rfl ?_
      exact n_ireturn C Rr rfl ⟨rfl, rfl⟩ (by omega) (by omega) dJ8_newLength_cabcc_20
set_option maxRecDepth 100000 in
set_option maxHeartbeats 4000000 in
theorem c_copyOf3 {g : Gx} (hst : g.1.stackTraces = false) {a ca z : Nat} {f : Nat → Option Nat} {σ : Wd} (hA : σ a = some (eO g.2.1 ca f)) (hz : ca ≤ z) (hz2 : z ≤ 64) (hel : ∀ i, i < ca → ∀ q, f i = some q → obj σ q)  : CT g yJ7_copyOf_6403c cJ7_copyOf_6403c 4 (some (.array (.object "java/lang/Object"))) 0 1 64 [.ref a, iv (z : Int), .ref g.2.2.2.1] σ (fun r σ' => ∃ (b : Nat) (f' : Nat → Option Nat), r = some (.ref b) ∧ σ b = none ∧ σ' b = some (eO g.2.1 z f') ∧ (∀ q, q ≠ b → σ' q = σ q) ∧ ∀ j, j < ca → f' j = f j) (fun _ _ => False) := by
  refine CT.of hst (by decide +kernel) (Nat.le_of_ble_eq_true rfl) (fun Φ C Rr hY hN => ?_)
  show N Φ 0 0 σ 0 [(0, .ref a), (1, iv (z : Int)), (2, .ref g.2.2.2.1)] []
  refine n_aload_n C dJ7_copyOf_6403c_0 rfl ?_
  refine n_ldcM C t2_48 dJ7_copyOf_6403c_1 ?_
  refine n_acmp_ne C 13 dJ7_copyOf_6403c_3 (by decide) (fun b3 => ?_) (fun b3 => ?_)
  · exact absurd rfl b3
  · refine n_iload_n C dJ7_copyOf_6403c_6 rfl ?_
    refine n_newO C (by omega) t2_50 (by omega) (by omega) dJ7_copyOf_6403c_7 (fun b hb => ?_)
    refine wab (fun σ1 hB hO => ?_)
    have hane : a ≠ b := fun q => by rw [q] at hA; rw [hA] at hb; cases hb
    have hA1 : σ1 a = some (eO g.2.1 ca f) := (hO a hane).trans hA
    have hel1 : ∀ q, obj σ q → obj σ1 q := fun q ⟨ci, fs, r, o1, o2⟩ => ⟨ci, fs, r, (hO q (fun z => by rw [z] at o1; rw [o1] at hb; cases hb)).trans o1, o2⟩
    refine n_goto C 24 dJ7_copyOf_6403c_10 (by decide) ?_
    refine n_astore_n (lv' := [(3, .ref b), (0, .ref a), (1, iv (z : Int)), (2, .ref g.2.2.2.1)]) C dJ7_copyOf_6403c_24 (by rw [hN]; decide) rfl ?_
    refine n_aload_n C dJ7_copyOf_6403c_25 rfl ?_
    refine n_iconst (x := 0) C dJ7_copyOf_6403c_26 ?_
    refine n_aload_n C dJ7_copyOf_6403c_27 rfl ?_
    refine n_iconst (x := 0) C dJ7_copyOf_6403c_28 ?_
    refine n_aload_n C dJ7_copyOf_6403c_29 rfl ?_
    refine n_alenO C hA1 dJ7_copyOf_6403c_30 ?_
    refine n_iload_n C dJ7_copyOf_6403c_31 rfl ?_
    refine n_min C (by unfold rg; omega) (by unfold rg; omega) t2_51 t2_52 t1_12 t2_53 (Nat.le_of_ble_eq_true rfl) (by omega) (by omega) dJ7_copyOf_6403c_32 ?_
    rw [show min (ca : Int) (z : Int) = (ca : Int) by omega]
    refine n_copy (sp := 0) (dp := 0) (cn := ca) C hA1 hB rfl rfl rfl (by omega) (by omega) (by omega) (by omega) (fun i hi q hq => hel1 q (hel (0 + i) (by omega) q hq)) t2_54 t2_56 t2_55 t1_14 (Nat.le_of_ble_eq_true rfl) dJ7_copyOf_6403c_35 ?_
    refine wab (fun σ2 hB2 hO2 => ?_)
    refine n_aload_n C dJ7_copyOf_6403c_38 rfl ?_
    exact n_areturn C Rr (Or.inr ⟨_, rfl⟩) (Or.inr ⟨_, rfl⟩) ⟨b, _, rfl, hb, hB2, fun q hq => (hO2 q hq).trans (hO q hq), fun j hj => by unfold va_cpy; rw [if_pos (by omega)]; congr 1; omega⟩ (by omega) (by omega) dJ7_copyOf_6403c_39
set_option maxRecDepth 100000 in
set_option maxHeartbeats 4000000 in
theorem c_copyOf {g : Gx} (hst : g.1.stackTraces = false) {a ca z : Nat} {f : Nat → Option Nat} {σ : Wd} (hA : σ a = some (eO g.2.1 ca f)) (hz : ca ≤ z) (hz2 : z ≤ 64) (hel : ∀ i, i < ca → ∀ q, f i = some q → obj σ q)  : CT g yJ7_copyOf_1904c cJ7_copyOf_1904c 2 (some (.array (.object "java/lang/Object"))) 1 1 64 [.ref a, iv (z : Int)] σ (fun r σ' => ∃ (b : Nat) (f' : Nat → Option Nat), r = some (.ref b) ∧ σ b = none ∧ σ' b = some (eO g.2.1 z f') ∧ (∀ q, q ≠ b → σ' q = σ q) ∧ ∀ j, j < ca → f' j = f j) (fun _ _ => False) := by
  refine CT.of hst (by decide +kernel) (Nat.le_of_ble_eq_true rfl) (fun Φ C Rr hY hN => ?_)
  show N Φ 0 0 σ 0 [(0, .ref a), (1, iv (z : Int))] []
  refine n_aload_n C dJ7_copyOf_1904c_0 rfl ?_
  refine n_iload_n C dJ7_copyOf_1904c_1 rfl ?_
  refine n_aload_n C dJ7_copyOf_1904c_2 rfl ?_
  refine n_getClass C hA t2_32 t4_152 t4_151 t2_33 t2_44 (Nat.le_of_ble_eq_true rfl) dJ7_copyOf_1904c_3 ?_
  refine n_invS C (c_copyOf3 hst hA hz hz2 hel) ⟨t2_45, t2_47, t1_13, ⟨by decide, by decide⟩, by show _ = some 3; decide +kernel, by decide⟩ t2_46 (by decide) (by omega) (by omega) (Nat.le_of_ble_eq_true rfl) rfl dJ7_copyOf_1904c_6 (fun r σ' h' => ?_) (fun _ _ h => h.elim)
  obtain ⟨b, f', rfl, hp⟩ := h'
  exact n_areturn C Rr (Or.inr ⟨_, rfl⟩) (Or.inr ⟨_, rfl⟩) ⟨b, f', rfl, hp⟩ (by omega) (by omega) dJ7_copyOf_1904c_9
set_option maxRecDepth 100000 in
set_option maxHeartbeats 4000000 in
theorem c_growI {g : Gx} (hst : g.1.stackTraces = false) {x row m cap : Nat} {mo : Int} {f : Nat → Option Nat} {σ : Wd} (hL : ALst g σ x mo row m cap f) (hfull : m = cap) (hm : m < 30) (hel : ∀ i, i < m → ∀ q, f i = some q → obj σ q)  : CT g yJx4a65c_grow_92f84 cJx4a65c_grow_92f84 4 (some (.array (.object "java/lang/Object"))) 2 1 64 [.ref x, iv ((m : Int) + 1)] σ (fun r σ' => ∃ (b cap' : Nat) (f' : Nat → Option Nat), r = some (.ref b) ∧ σ b = none ∧ cap < cap' ∧ cap' ≤ 60 ∧ σ' x = some (.inr (2, [iv mo, .ref b, iv m])) ∧ σ' b = some (eO g.2.1 cap' f') ∧ (∀ q, q ≠ b → q ≠ x → σ' q = σ q) ∧ ∀ j, j < m → f' j = f j) (fun _ _ => False) := by
  refine CT.of hst (by decide +kernel) (Nat.le_of_ble_eq_true rfl) (fun Φ C Rr hY hN => ?_)
  show N Φ 0 0 σ 0 [(0, .ref x), (1, iv ((m : Int) + 1))] []
  obtain ⟨X, hrow, hn, hcap⟩ := id hL
  refine n_aload_n C dJx4a65c_grow_92f84_0 rfl ?_
  refine n_get C X cJ inJ 1 (by decide) t1_51 rfl rfl dJx4a65c_grow_92f84_1 ?_
  rcases hrow with ⟨hc0, rfl⟩ | ⟨hc1, hr⟩
  · refine n_alenE C dJx4a65c_grow_92f84_4 ?_
    refine n_istore_n (lv' := [(2, iv 0), (0, .ref x), (1, iv ((m : Int) + 1))]) C dJx4a65c_grow_92f84_5 (by rw [hN]; decide) rfl ?_
    refine n_iload_n C dJx4a65c_grow_92f84_6 rfl ?_
    refine n_if_gt C 20 dJx4a65c_grow_92f84_7 (by decide) (by unfold rg; omega) (fun b7 => ?_) (fun b7 => ?_)
    · exfalso; omega
    · refine n_aload_n C dJx4a65c_grow_92f84_10 rfl ?_
      refine n_get C X cJ inJ 1 (by decide) t1_51 rfl rfl dJx4a65c_grow_92f84_11 ?_
      refine n_getsE C t1_49 dJx4a65c_grow_92f84_14 ?_
      refine n_acmp_eq C 45 dJx4a65c_grow_92f84_17 (by decide) (fun b17 => ?_) (fun b17 => ?_)
      · refine n_aload_n C dJx4a65c_grow_92f84_45 rfl ?_
        refine n_bipush (x := 10) C dJx4a65c_grow_92f84_46 (by decide) ?_
        refine n_iload_n C dJx4a65c_grow_92f84_48 rfl ?_
        refine n_max C (by unfold rg; omega) (by unfold rg; omega) t2_57 t2_23 t1_12 t2_24 (Nat.le_of_ble_eq_true rfl) (by omega) (by omega) dJx4a65c_grow_92f84_49 ?_
        rw [show max 10 ((m : Int) + 1) = ((10 : Nat) : Int) by omega]
        refine n_newO C (by omega) t2_58 (by omega) (by omega) dJx4a65c_grow_92f84_52 (fun b hb => ?_)
        refine wab (fun σa hB hO => ?_)
        have hxb : x ≠ b := fun q => by rw [q, hb] at X; cases X
        replace X := (hO x hxb).trans X
        refine n_dup_x1 C dJx4a65c_grow_92f84_55 rfl rfl ?_
        refine n_put C X cJ inJ tyJx4a65c tyJx4a65c_ok nmJx4a65c 1 (by decide) t1_51 rfl rfl rfl rfl (show (1 : Nat) < 3 by decide) dJx4a65c_grow_92f84_56 ?_
        refine wab (e := .inr (2, [iv mo, .ref b, iv (m : Int)])) (fun σ0 hX0 hO0 => ?_)
        exact n_areturn C Rr (Or.inr ⟨_, rfl⟩) (Or.inr ⟨_, rfl⟩) ⟨b, 10, _, rfl, hb, by omega, by omega, hX0, (hO0 b hxb.symm).trans hB, fun q h1 h2 => (hO0 q h2).trans (hO q h1), fun j hj => by omega⟩ (by omega) (by omega) dJx4a65c_grow_92f84_59
      · exact absurd rfl b17
  · refine n_alenO C hr dJx4a65c_grow_92f84_4 ?_
    refine n_istore_n (lv' := [(2, iv (cap : Int)), (0, .ref x), (1, iv ((m : Int) + 1))]) C dJx4a65c_grow_92f84_5 (by rw [hN]; decide) rfl ?_
    refine n_iload_n C dJx4a65c_grow_92f84_6 rfl ?_
    refine n_if_gt C 20 dJx4a65c_grow_92f84_7 (by decide) (by unfold rg; omega) (fun b7 => ?_) (fun b7 => ?_)
    · refine n_iload_n C dJx4a65c_grow_92f84_20 rfl ?_
      refine n_iload_n C dJx4a65c_grow_92f84_21 rfl ?_
      refine n_iload_n C dJx4a65c_grow_92f84_22 rfl ?_
      refine n_isub C dJx4a65c_grow_92f84_23 ?_
      refine n_iload_n C dJx4a65c_grow_92f84_24 rfl ?_
      refine n_iconst (x := 1) C dJx4a65c_grow_92f84_25 ?_
      refine n_ishr (z := ((cap / 2 : Nat) : Int)) C dJx4a65c_grow_92f84_26 (shr_1 (by omega)) ?_
      refine n_invS C (c_newLength hst (by omega) (by omega) (by omega)) ⟨t2_19, t2_21, t1_11, ⟨by decide, by decide⟩, by show _ = some 3; decide +kernel, by decide⟩ t2_20 (by decide) (by omega) (by omega) (Nat.le_of_ble_eq_true rfl) rfl dJx4a65c_grow_92f84_27 (fun r σ' h' => ?_) (fun _ _ h => h.elim)
      obtain ⟨rfl, hσ⟩ := h'
      rw [hσ]
      obtain ⟨z, hz⟩ : ∃ z : Nat, (cap : Int) + max ((m : Int) + 1 - (cap : Int)) ((cap / 2 : Nat) : Int) = (z : Int) := ⟨((cap : Int) + max ((m : Int) + 1 - (cap : Int)) ((cap / 2 : Nat) : Int)).toNat, by omega⟩
      rw [hz]
      refine n_istore_n (lv' := [(3, iv (z : Int)), (2, iv (cap : Int)), (0, .ref x), (1, iv ((m : Int) + 1))]) C dJx4a65c_grow_92f84_30 (by rw [hN]; decide) rfl ?_
      refine n_aload_n C dJx4a65c_grow_92f84_31 rfl ?_
      refine n_aload_n C dJx4a65c_grow_92f84_32 rfl ?_
      refine n_get C X cJ inJ 1 (by decide) t1_51 rfl rfl dJx4a65c_grow_92f84_33 ?_
      refine n_iload_n C dJx4a65c_grow_92f84_36 rfl ?_
      refine n_invS C (c_copyOf hst hr (by omega) (by omega) (fun i hi => hel i (by omega))) ⟨t2_29, t2_31, t1_13, ⟨by decide, by decide⟩, by show _ = some 2; decide +kernel, by decide⟩ t2_30 (by decide) (by omega) (by omega) (Nat.le_of_ble_eq_true rfl) rfl dJx4a65c_grow_92f84_37 (fun r σ1 h' => ?_) (fun _ _ h => h.elim)
      obtain ⟨b, f', rfl, hb, hB, hO, hf⟩ := h'
      have hxb : x ≠ b := fun q => by rw [q, hb] at X; cases X
      replace X := (hO x hxb).trans X
      refine n_dup_x1 C dJx4a65c_grow_92f84_40 rfl rfl ?_
      refine n_put C X cJ inJ tyJx4a65c tyJx4a65c_ok nmJx4a65c 1 (by decide) t1_51 rfl rfl rfl rfl (show (1 : Nat) < 3 by decide) dJx4a65c_grow_92f84_41 ?_
      refine wab (e := .inr (2, [iv mo, .ref b, iv (m : Int)])) (fun σ1 hX1 hO1 => ?_)
      exact n_areturn C Rr (Or.inr ⟨_, rfl⟩) (Or.inr ⟨_, rfl⟩) ⟨b, z, f', rfl, hb, by omega, by omega, hX1, (hO1 b hxb.symm).trans hB, fun q h1 h2 => (hO1 q h2).trans (hO q h1), fun j hj => hf j (by omega)⟩ (by omega) (by omega) dJx4a65c_grow_92f84_44
    · exfalso; omega
set_option maxRecDepth 100000 in
set_option maxHeartbeats 4000000 in
theorem c_grow {g : Gx} (hst : g.1.stackTraces = false) {x row m cap : Nat} {mo : Int} {f : Nat → Option Nat} {σ : Wd} (hL : ALst g σ x mo row m cap f) (hfull : m = cap) (hm : m < 30) (hel : ∀ i, i < m → ∀ q, f i = some q → obj σ q)  : CT g yJx4a65c_grow_d5877 cJx4a65c_grow_d5877 1 (some (.array (.object "java/lang/Object"))) 3 1 64 [.ref x] σ (fun r σ' => ∃ (b cap' : Nat) (f' : Nat → Option Nat), r = some (.ref b) ∧ σ b = none ∧ cap < cap' ∧ cap' ≤ 60 ∧ σ' x = some (.inr (2, [iv mo, .ref b, iv m])) ∧ σ' b = some (eO g.2.1 cap' f') ∧ (∀ q, q ≠ b → q ≠ x → σ' q = σ q) ∧ ∀ j, j < m → f' j = f j) (fun _ _ => False) := by
  refine CT.of hst (by decide +kernel) (Nat.le_of_ble_eq_true rfl) (fun Φ C Rr hY hN => ?_)
  show N Φ 0 0 σ 0 [(0, .ref x)] []
  obtain ⟨X, hrow, hn, hcap⟩ := id hL
  refine n_aload_n C dJx4a65c_grow_d5877_0 rfl ?_
  refine n_aload_n C dJx4a65c_grow_d5877_1 rfl ?_
  refine n_get C X cJ inJ 2 (by decide) t1_52 rfl rfl dJx4a65c_grow_d5877_2 ?_
  refine n_iconst (x := 1) C dJx4a65c_grow_d5877_5 ?_
  refine n_iadd C dJx4a65c_grow_d5877_6 ?_
  refine n_invV C (c_growI hst hL hfull hm hel) ⟨t2_15, t2_18, t1_4, ⟨by decide, by decide⟩, by show _ = some 1; decide +kernel, by decide⟩ t2_17 tp_5 X cJ (by decide) (by omega) (by omega) (Nat.le_of_ble_eq_true rfl) rfl dJx4a65c_grow_d5877_7 (fun r σ' h' => ?_) (fun _ _ h => h.elim)
  obtain ⟨b, cap', f', rfl, hp⟩ := h'
  exact n_areturn C Rr (Or.inr ⟨_, rfl⟩) (Or.inr ⟨_, rfl⟩) ⟨b, cap', f', rfl, hp⟩ (by omega) (by omega) dJx4a65c_grow_d5877_10
set_option maxRecDepth 100000 in
set_option maxHeartbeats 4000000 in
theorem c_addP {g : Gx} (hst : g.1.stackTraces = false) {x row m cap : Nat} {mo : Int} {f : Nat → Option Nat} {σ : Wd} (hL : ALst g σ x mo row m cap f) {y : Nat} (hel : ∀ i, i < m → ∀ q, f i = some q → obj σ q) (hy : obj σ y) (hm : m < 30)  : CT g yJx4a65c_add_72be8 cJx4a65c_add_72be8 4 none 4 1 64 [.ref x, .ref y, .ref row, iv (m : Int)] σ (fun r σ' => r = none ∧ ∃ (row' cap' : Nat) (f' : Nat → Option Nat), ALst g σ' x (mo) row' (m + 1) cap' f' ∧ 1 ≤ cap' ∧ ((row' = row ∧ cap' = cap ∧ 1 ≤ cap) ∨ σ row' = none) ∧ (∀ q, q ≠ row' → q ≠ x → σ' q = σ q) ∧ (∀ j, j < m → f' j = f j) ∧ f' m = some y) (fun _ _ => False) := by
  refine CT.of hst (by decide +kernel) (Nat.le_of_ble_eq_true rfl) (fun Φ C Rr hY hN => ?_)
  show N Φ 0 0 σ 0 [(0, .ref x), (1, .ref y), (2, .ref row), (3, iv (m : Int))] []
  obtain ⟨X, hrow, hn, hcap⟩ := id hL
  have hyx : ∀ q, obj σ q → q = x ∨ q ≠ x := fun q _ => Classical.em _
  have J11 : ∀ (k n : Nat) (σ1 : Wd) (b cap' : Nat) (f' : Nat → Option Nat) (X1 : σ1 x = some (.inr (2, [iv mo, .ref b, iv m]))) (hB : σ1 b = some (eO g.2.1 cap' f')) (h1 : m < cap') (h2 : cap' ≤ 60) (hO : ∀ q, q ≠ b → q ≠ x → σ1 q = σ q) (hf : ∀ j, j < m → f' j = f j) (hk : k ≤ 1) (hn' : n ≤ 64) (hfr : (b = row ∧ cap' = cap ∧ 1 ≤ cap) ∨ σ b = none), N Φ k n σ1 11 [(2, .ref b), (0, .ref x), (1, .ref y), (3, iv (m : Int))] [] := by
    intro k n σ1 b cap' f' X1 hB h1 h2 hO hf hk hn' hfr
    have hxb : b ≠ x := fun q => by rw [q, X1] at hB; cases hB
    obtain ⟨ci, fs, r, o1, o2, o3⟩ := id hy
    have hy1 : ∃ fs, σ1 y = some (.inr (ci, fs)) := by
      by_cases q : y = x
      · rw [q] at o1 ⊢
        rw [X] at o1
        cases o1
        exact ⟨_, X1⟩
      · refine ⟨fs, (hO y (fun z => ?_) q).trans o1⟩
        rcases hfr with ⟨z1, z2, z3⟩ | z1
        · rcases hrow with ⟨z4, -⟩ | ⟨-, z5⟩
          · omega
          · rw [← z1, ← z, o1] at z5; cases z5
        · rw [← z, o1] at z1; cases z1
    obtain ⟨fs1, hy1⟩ := hy1
    refine n_aload_n C dJx4a65c_add_72be8_11 rfl ?_
    refine n_iload_n C dJx4a65c_add_72be8_12 rfl ?_
    refine n_aload_n C dJx4a65c_add_72be8_13 rfl ?_
    refine n_aastO C hB hy1 o2 o3 (by omega) (by omega) (by omega) dJx4a65c_add_72be8_14 ?_
    rw [Int.toNat_natCast]
    refine wab (fun σ2 hB2 hO2 => ?_)
    replace X1 := (hO2 x hxb.symm).trans X1
    refine n_aload_n C dJx4a65c_add_72be8_15 rfl ?_
    refine n_iload_n C dJx4a65c_add_72be8_16 rfl ?_
    refine n_iconst (x := 1) C dJx4a65c_add_72be8_17 ?_
    refine n_iadd C dJx4a65c_add_72be8_18 ?_
    refine n_put C X1 cJ inJ tyJx4a65c tyJx4a65c_ok nmJx4a65c 2 (by decide) t1_52 rfl rfl rfl rfl (show (2 : Nat) < 3 by decide) dJx4a65c_add_72be8_19 ?_
    refine wab (e := .inr (2, [iv mo, .ref b, iv ((m : Int) + 1)])) (fun σ0 hX0 hO0 => ?_)
    exact n_return C Rr ⟨rfl, b, cap', _, ⟨hX0, Or.inr ⟨by omega, (hO0 b hxb).trans hB2⟩, by omega, by omega⟩, by omega, hfr, fun q q1 q2 => ((hO0 q q2).trans (hO2 q q1)).trans (hO q q1 q2), fun j hj => by unfold va_up; rw [if_neg (by omega)]; exact hf j hj, by unfold va_up; rw [if_pos rfl]⟩ hk hn' dJx4a65c_add_72be8_22
  refine n_iload_n C dJx4a65c_add_72be8_0 rfl ?_
  refine n_aload_n C dJx4a65c_add_72be8_1 rfl ?_
  rcases hrow with ⟨hc0, rfl⟩ | ⟨hc1, hr⟩
  · refine n_alenE C dJx4a65c_add_72be8_2 ?_
    refine n_icmp_ne C 11 dJx4a65c_add_72be8_3 (by decide) (by unfold rg; omega) (by unfold rg; omega) (fun b3 => ?_) (fun b3 => ?_)
    · exfalso; omega
    · refine n_aload_n C dJx4a65c_add_72be8_6 rfl ?_
      refine n_invV C (c_grow hst hL (by omega) hm hel) ⟨t2_11, t2_14, t1_4, ⟨by decide, by decide⟩, by show _ = some 0; decide +kernel, by decide⟩ t2_13 tp_4 X cJ (by decide) (by omega) (by omega) (Nat.le_of_ble_eq_true rfl) rfl dJx4a65c_add_72be8_7 (fun r σ1 h' => ?_) (fun _ _ h => h.elim)
      obtain ⟨b, cap', f', rfl, hb, h1, h2, X1, hB, hO, hf⟩ := h'
      refine n_astore_n (lv' := [(2, .ref b), (0, .ref x), (1, .ref y), (3, iv (m : Int))]) C dJx4a65c_add_72be8_10 (by rw [hN]; decide) rfl ?_
      refine n_keep (lv' := [(2, .ref b), (0, .ref x), (1, .ref y), (3, iv (m : Int))]) [2, 0, 1, 3] rfl ?_
      exact J11 _ _ σ1 b cap' f' X1 hB (by omega) h2 hO hf (by omega) (by omega) (Or.inr hb)
  · refine n_alenO C hr dJx4a65c_add_72be8_2 ?_
    refine n_icmp_ne C 11 dJx4a65c_add_72be8_3 (by decide) (by unfold rg; omega) (by unfold rg; omega) (fun b3 => ?_) (fun b3 => ?_)
    · refine n_keep (lv' := [(2, .ref row), (0, .ref x), (1, .ref y), (3, iv (m : Int))]) [2, 0, 1, 3] rfl ?_
      exact J11 _ _ σ row cap f X hr (by omega) (by omega) (fun _ _ _ => rfl) (fun _ _ => rfl) (by omega) (by omega) (Or.inl ⟨rfl, rfl, hc1⟩)
    · refine n_aload_n C dJx4a65c_add_72be8_6 rfl ?_
      refine n_invV C (c_grow hst hL (by omega) hm hel) ⟨t2_11, t2_14, t1_4, ⟨by decide, by decide⟩, by show _ = some 0; decide +kernel, by decide⟩ t2_13 tp_4 X cJ (by decide) (by omega) (by omega) (Nat.le_of_ble_eq_true rfl) rfl dJx4a65c_add_72be8_7 (fun r σ1 h' => ?_) (fun _ _ h => h.elim)
      obtain ⟨b, cap', f', rfl, hb, h1, h2, X1, hB, hO, hf⟩ := h'
      refine n_astore_n (lv' := [(2, .ref b), (0, .ref x), (1, .ref y), (3, iv (m : Int))]) C dJx4a65c_add_72be8_10 (by rw [hN]; decide) rfl ?_
      refine n_keep (lv' := [(2, .ref b), (0, .ref x), (1, .ref y), (3, iv (m : Int))]) [2, 0, 1, 3] rfl ?_
      exact J11 _ _ σ1 b cap' f' X1 hB (by omega) h2 hO hf (by omega) (by omega) (Or.inr hb)
set_option maxRecDepth 100000 in
set_option maxHeartbeats 4000000 in
theorem c_add {g : Gx} (hst : g.1.stackTraces = false) {x row m cap : Nat} {mo : Int} {f : Nat → Option Nat} {σ : Wd} (hL : ALst g σ x mo row m cap f) {y : Nat} (hel : ∀ i, i < m → ∀ q, f i = some q → obj σ q) (hy : obj σ y) (hm : m < 30)  : CT g yJx4a65c_add_9ea2d cJx4a65c_add_9ea2d 2 (some .boolean) 5 1 64 [.ref x, .ref y] σ (fun r σ' => r = some (iv 1) ∧ ∃ (row' cap' : Nat) (f' : Nat → Option Nat), ALst g σ' x (mo + 1) row' (m + 1) cap' f' ∧ 1 ≤ cap' ∧ ((row' = row ∧ cap' = cap ∧ 1 ≤ cap) ∨ σ row' = none) ∧ (∀ q, q ≠ row' → q ≠ x → σ' q = σ q) ∧ (∀ j, j < m → f' j = f j) ∧ f' m = some y) (fun _ _ => False) := by
  refine CT.of hst (by decide +kernel) (Nat.le_of_ble_eq_true rfl) (fun Φ C Rr hY hN => ?_)
  show N Φ 0 0 σ 0 [(0, .ref x), (1, .ref y)] []
  obtain ⟨X, hrow, hn, hcap⟩ := id hL
  refine n_aload_n C dJx4a65c_add_9ea2d_0 rfl ?_
  refine n_dup C dJx4a65c_add_9ea2d_1 rfl ?_
  refine n_getU C X cJ inJ 0 (by decide) t1_54 t1_55 rfl dJx4a65c_add_9ea2d_2 ?_
  refine n_iconst (x := 1) C dJx4a65c_add_9ea2d_5 ?_
  refine n_iadd C dJx4a65c_add_9ea2d_6 ?_
  refine n_putU C X cJ inJ tyJx4a65c tyJx4a65c_ok nmJx4a65c 0 (by decide) t1_54 t1_55 rfl rfl rfl (show (0 : Nat) < 3 by decide) dJx4a65c_add_9ea2d_7 ?_
  refine wab (e := .inr (2, [iv (mo + 1), .ref row, iv (m : Int)])) (fun σ0 hX0 hO0 => ?_)
  refine n_aload_n C dJx4a65c_add_9ea2d_10 rfl ?_
  refine n_aload_n C dJx4a65c_add_9ea2d_11 rfl ?_
  refine n_aload_n C dJx4a65c_add_9ea2d_12 rfl ?_
  refine n_get C hX0 cJ inJ 1 (by decide) t1_51 rfl rfl dJx4a65c_add_9ea2d_13 ?_
  refine n_aload_n C dJx4a65c_add_9ea2d_16 rfl ?_
  refine n_get C hX0 cJ inJ 2 (by decide) t1_52 rfl rfl dJx4a65c_add_9ea2d_17 ?_
  have hobj : ∀ q, obj σ q → obj σ0 q := fun q ⟨ci, fs, r, o1, o2, o3⟩ => by
    by_cases hq : q = x
    · subst hq
      rw [X] at o1; cases o1
      exact ⟨_, _, _, hX0, o2, o3⟩
    · exact ⟨ci, fs, r, (hO0 q hq).trans o1, o2, o3⟩
  have hr1 : (cap = 0 ∧ row = g.2.2.1) ∨ (1 ≤ cap ∧ σ0 row = some (eO g.2.1 cap f)) := by
    rcases hrow with q | ⟨q1, q2⟩
    · exact Or.inl q
    · exact Or.inr ⟨q1, (hO0 row (fun z => by rw [z, X] at q2; cases q2)).trans q2⟩
  refine n_invV C (c_addP hst ⟨hX0, hr1, hn, hcap⟩ (fun i hi q hq => hobj q (hel i hi q hq)) (hobj y hy) hm) ⟨t2_7, t2_10, t1_4, ⟨by decide, by decide⟩, by show _ = some 3; decide +kernel, by decide⟩ t2_9 tp_3 hX0 cJ (by decide) (by omega) (by omega) (Nat.le_of_ble_eq_true rfl) rfl dJx4a65c_add_9ea2d_20 (fun r σ2 h' => ?_) (fun _ _ h => h.elim)
  obtain ⟨rfl, row', cap', f', p1, p2, p3, p4, p5⟩ := h'
  refine n_iconst (x := 1) C dJx4a65c_add_9ea2d_23 ?_
  exact n_ireturn C Rr (nar_bv (by first | decide | omega)) ⟨rfl, row', cap', f', p1, p2, p3.imp id (fun z => by rw [← z]; exact (hO0 row' (fun y => by rw [y, hX0] at z; cases z)).symm), fun q q1 q2 => (p4 q q1 q2).trans (hO0 q q2), p5⟩ (by omega) (by omega) dJx4a65c_add_9ea2d_24
set_option maxRecDepth 100000 in
set_option maxHeartbeats 4000000 in
theorem c_rangeAdd {g : Gx} (hst : g.1.stackTraces = false) {x row m cap : Nat} {mo : Int} {f : Nat → Option Nat} {σ : Wd} (hL : ALst g σ x mo row m cap f) {i : Nat} (hi : i ≤ m) (hm : m < 1000)  : CT g yJx4a65c_rangeCheckForAdd_d00df cJx4a65c_rangeCheckForAdd_d00df 2 none 0 0 0 [.ref x, iv (i : Int)] σ (fun r σ' => r = none ∧ σ' = σ) (fun _ _ => False) := by
  refine CT.of hst (by decide +kernel) (Nat.le_of_ble_eq_true rfl) (fun Φ C Rr hY hN => ?_)
  show N Φ 0 0 σ 0 [(0, .ref x), (1, iv (i : Int))] []
  obtain ⟨X, hrow, hn, hcap⟩ := id hL
  refine n_iload_n C dJx4a65c_rangeCheckForAdd_d00df_0 rfl ?_
  refine n_aload_n C dJx4a65c_rangeCheckForAdd_d00df_1 rfl ?_
  refine n_get C X cJ inJ 2 (by decide) t1_52 rfl rfl dJx4a65c_rangeCheckForAdd_d00df_2 ?_
  refine n_icmp_gt C 12 dJx4a65c_rangeCheckForAdd_d00df_5 (by decide) (by unfold rg; omega) (by unfold rg; omega) (fun b5 => ?_) (fun b5 => ?_)
  · exfalso; omega
  · refine n_iload_n C dJx4a65c_rangeCheckForAdd_d00df_8 rfl ?_
    refine n_if_ge C 25 dJx4a65c_rangeCheckForAdd_d00df_9 (by decide) (by unfold rg; omega) (fun b9 => ?_) (fun b9 => ?_)
    · exact n_return C Rr ⟨rfl, rfl⟩ (by omega) (by omega) dJx4a65c_rangeCheckForAdd_d00df_25
    · exfalso; omega
set_option maxRecDepth 100000 in
set_option maxHeartbeats 4000000 in
theorem c_addAt {g : Gx} (hst : g.1.stackTraces = false) {x row m cap : Nat} {mo : Int} {f : Nat → Option Nat} {σ : Wd} (hL : ALst g σ x mo row m cap f) {y : Nat} (hel : ∀ i, i < m → ∀ q, f i = some q → obj σ q) (hy : obj σ y) (hm : m < 30) {i : Nat} (hi : i ≤ m)  : CT g yJx4a65c_add_7a177 cJx4a65c_add_7a177 5 none 4 1 64 [.ref x, iv (i : Int), .ref y] σ (fun r σ' => r = none ∧ ∃ (row' cap' : Nat) (f' : Nat → Option Nat), ALst g σ' x (mo + 1) row' (m + 1) cap' f' ∧ 1 ≤ cap' ∧ ((row' = row ∧ cap' = cap ∧ 1 ≤ cap) ∨ σ row' = none) ∧ (∀ q, q ≠ row' → q ≠ x → σ' q = σ q) ∧ (∀ j, j < i → f' j = f j) ∧ f' i = some y ∧ ∀ j, i < j → j ≤ m → f' j = f (j - 1)) (fun _ _ => False) := by
  refine CT.of hst (by decide +kernel) (Nat.le_of_ble_eq_true rfl) (fun Φ C Rr hY hN => ?_)
  show N Φ 0 0 σ 0 [(0, .ref x), (1, iv (i : Int)), (2, .ref y)] []
  obtain ⟨X, hrow, hn, hcap⟩ := id hL
  refine n_aload_n C dJx4a65c_add_7a177_0 rfl ?_
  refine n_iload_n C dJx4a65c_add_7a177_1 rfl ?_
  refine n_invV C (c_rangeAdd hst hL hi (by omega)) ⟨t2_151, t2_154, t1_4, ⟨by decide, by decide⟩, by show _ = some 1; decide +kernel, by decide⟩ t2_153 tp_8 X cJ (by decide) (by omega) (by omega) (Nat.le_of_ble_eq_true rfl) rfl dJx4a65c_add_7a177_2 (fun r σ' h' => ?_) (fun _ _ h => h.elim)
  obtain ⟨rfl, hσ⟩ := h'
  rw [hσ]
  refine n_aload_n C dJx4a65c_add_7a177_5 rfl ?_
  refine n_dup C dJx4a65c_add_7a177_6 rfl ?_
  refine n_getU C X cJ inJ 0 (by decide) t1_54 t1_55 rfl dJx4a65c_add_7a177_7 ?_
  refine n_iconst (x := 1) C dJx4a65c_add_7a177_10 ?_
  refine n_iadd C dJx4a65c_add_7a177_11 ?_
  refine n_putU C X cJ inJ tyJx4a65c tyJx4a65c_ok nmJx4a65c 0 (by decide) t1_54 t1_55 rfl rfl rfl (show (0 : Nat) < 3 by decide) dJx4a65c_add_7a177_12 ?_
  refine wab (e := .inr (2, [iv (mo + 1), .ref row, iv (m : Int)])) (fun σ0 hX0 hO0 => ?_)
  have hobj : ∀ q, obj σ q → obj σ0 q := fun q ⟨ci, fs, r, o1, o2, o3⟩ => by
    by_cases hq : q = x
    · subst hq
      rw [X] at o1; cases o1
      exact ⟨_, _, _, hX0, o2, o3⟩
    · exact ⟨ci, fs, r, (hO0 q hq).trans o1, o2, o3⟩
  have hr1 : (cap = 0 ∧ row = g.2.2.1) ∨ (1 ≤ cap ∧ σ0 row = some (eO g.2.1 cap f)) := by
    rcases hrow with q | ⟨q1, q2⟩
    · exact Or.inl q
    · exact Or.inr ⟨q1, (hO0 row (fun z => by rw [z, X] at q2; cases q2)).trans q2⟩
  have hel1 : ∀ i, i < m → ∀ q, f i = some q → obj σ0 q := fun i hi q hq => hobj q (hel i hi q hq)
  have hy2 := hobj y hy
  have J38 : ∀ (k n : Nat) (σ1 : Wd) (b cap' : Nat) (f' : Nat → Option Nat) (X1 : σ1 x = some (.inr (2, [iv (mo + 1), .ref b, iv m]))) (hB : σ1 b = some (eO g.2.1 cap' f')) (h1 : m < cap') (h2 : cap' ≤ 60) (hO : ∀ q, q ≠ b → q ≠ x → σ1 q = σ0 q) (hf : ∀ j, j < m → f' j = f j) (hk : k ≤ 1) (hn' : n ≤ 64) (hfr : (b = row ∧ cap' = cap ∧ 1 ≤ cap) ∨ σ0 b = none), N Φ k n σ1 38 [(4, .ref b), (3, iv (m : Int)), (0, .ref x), (1, iv (i : Int)), (2, .ref y)] [] := by
    intro k n σ1 b cap' f' X1 hB h1 h2 hO hf hk hn' hfr
    have hxb : b ≠ x := fun q => by rw [q, X1] at hB; cases hB
    have key : ∀ y, obj σ0 y → obj σ1 y := fun y ⟨ci, fs, r, o1, o2, o3⟩ => by
      by_cases q : y = x
      · rw [q] at o1 ⊢
        rw [hX0] at o1
        cases o1
        exact ⟨_, _, _, X1, o2, o3⟩
      · refine ⟨ci, fs, r, (hO y (fun z => ?_) q).trans o1, o2, o3⟩
        rcases hfr with ⟨z1, z2, z3⟩ | z1
        · rcases hr1 with ⟨z4, -⟩ | ⟨-, z5⟩
          · omega
          · rw [← z1, ← z, o1] at z5; cases z5
        · rw [← z, o1] at z1; cases z1
    refine n_aload C dJx4a65c_add_7a177_38 rfl ?_
    refine n_iload_n C dJx4a65c_add_7a177_40 rfl ?_
    refine n_aload C dJx4a65c_add_7a177_41 rfl ?_
    refine n_iload_n C dJx4a65c_add_7a177_43 rfl ?_
    refine n_iconst (x := 1) C dJx4a65c_add_7a177_44 ?_
    refine n_iadd C dJx4a65c_add_7a177_45 ?_
    refine n_iload_n C dJx4a65c_add_7a177_46 rfl ?_
    refine n_iload_n C dJx4a65c_add_7a177_47 rfl ?_
    refine n_isub C dJx4a65c_add_7a177_48 ?_
    refine n_copy (sp := i) (dp := (i + 1)) (cn := (m - i)) C hB hB rfl (by omega) (by omega) (by omega) (by omega) (by omega) (by omega) (fun j hj q hq => key q (hel1 (i + j) (by omega) q (by rw [← hf (i + j) (by omega)]; exact hq))) t3_144 t2_56 t2_55 t1_14 (Nat.le_of_ble_eq_true rfl) dJx4a65c_add_7a177_49 ?_
    refine wab (fun σ2 hB2 hO2 => ?_)
    replace X1 := (hO2 x hxb.symm).trans X1
    obtain ⟨ci, fs, r, o1, o2, o3⟩ := key y hy2
    have o1' : σ2 y = some (.inr (ci, fs)) := (hO2 y (fun z => by rw [z, hB] at o1; cases o1)).trans o1
    refine n_aload C dJx4a65c_add_7a177_52 rfl ?_
    refine n_iload_n C dJx4a65c_add_7a177_54 rfl ?_
    refine n_aload_n C dJx4a65c_add_7a177_55 rfl ?_
    refine n_aastO C hB2 o1' o2 o3 (by omega) (by omega) (by omega) dJx4a65c_add_7a177_56 ?_
    rw [Int.toNat_natCast]
    refine wab (fun σ3 hB3 hO3 => ?_)
    replace X1 := (hO3 x hxb.symm).trans X1
    refine n_aload_n C dJx4a65c_add_7a177_57 rfl ?_
    refine n_iload_n C dJx4a65c_add_7a177_58 rfl ?_
    refine n_iconst (x := 1) C dJx4a65c_add_7a177_59 ?_
    refine n_iadd C dJx4a65c_add_7a177_60 ?_
    refine n_put C X1 cJ inJ tyJx4a65c tyJx4a65c_ok nmJx4a65c 2 (by decide) t1_52 rfl rfl rfl rfl (show (2 : Nat) < 3 by decide) dJx4a65c_add_7a177_61 ?_
    refine wab (e := .inr (2, [iv (mo + 1), .ref b, iv ((m : Int) + 1)])) (fun σ1 hX1 hO1 => ?_)
    exact n_return C Rr ⟨rfl, b, cap', _, ⟨hX1, Or.inr ⟨by omega, (hO1 b hxb).trans hB3⟩, by omega, by omega⟩, by omega, hfr.imp id (fun z => by rw [← z]; exact (hO0 b hxb).symm), fun q q1 q2 => ((((hO1 q q2).trans (hO3 q q1)).trans (hO2 q q1)).trans (hO q q1 q2)).trans (hO0 q q2), fun j hj => by unfold va_up va_cpy; rw [if_neg (by omega), if_neg (by omega)]; exact hf j (by omega), by unfold va_up; rw [if_pos rfl], fun j h3 h4 => by unfold va_up va_cpy; rw [if_neg (by omega), if_pos (by omega), ← hf (j - 1) (by omega)]; congr 1; omega⟩ hk hn' dJx4a65c_add_7a177_64
  refine n_aload_n C dJx4a65c_add_7a177_15 rfl ?_
  refine n_get C hX0 cJ inJ 2 (by decide) t1_52 rfl rfl dJx4a65c_add_7a177_16 ?_
  refine n_dup C dJx4a65c_add_7a177_19 rfl ?_
  refine n_istore_n (lv' := [(3, iv (m : Int)), (0, .ref x), (1, iv (i : Int)), (2, .ref y)]) C dJx4a65c_add_7a177_20 (by rw [hN]; decide) rfl ?_
  refine n_aload_n C dJx4a65c_add_7a177_21 rfl ?_
  refine n_get C hX0 cJ inJ 1 (by decide) t1_51 rfl rfl dJx4a65c_add_7a177_22 ?_
  refine n_dup C dJx4a65c_add_7a177_25 rfl ?_
  refine n_astore (lv' := [(4, .ref row), (3, iv (m : Int)), (0, .ref x), (1, iv (i : Int)), (2, .ref y)]) C dJx4a65c_add_7a177_26 (by rw [hN]; decide) rfl ?_
  rcases id hr1 with ⟨hc0, rfl⟩ | ⟨hc1, hr⟩
  · refine n_alenE C dJx4a65c_add_7a177_28 ?_
    refine n_icmp_ne C 38 dJx4a65c_add_7a177_29 (by decide) (by unfold rg; omega) (by unfold rg; omega) (fun b29 => ?_) (fun b29 => ?_)
    · exfalso; omega
    · refine n_aload_n C dJx4a65c_add_7a177_32 rfl ?_
      refine n_invV C (c_grow hst ⟨hX0, hr1, hn, hcap⟩ (by omega) hm hel1) ⟨t2_11, t2_14, t1_4, ⟨by decide, by decide⟩, by show _ = some 0; decide +kernel, by decide⟩ t2_13 tp_4 hX0 cJ (by decide) (by omega) (by omega) (Nat.le_of_ble_eq_true rfl) rfl dJx4a65c_add_7a177_33 (fun r σ1 h' => ?_) (fun _ _ h => h.elim)
      obtain ⟨b, cap', f', rfl, hb, h1, h2, X1, hB, hO, hf⟩ := h'
      refine n_astore (lv' := [(4, .ref b), (3, iv (m : Int)), (0, .ref x), (1, iv (i : Int)), (2, .ref y)]) C dJx4a65c_add_7a177_36 (by rw [hN]; decide) rfl ?_
      refine n_keep (lv' := [(4, .ref b), (3, iv (m : Int)), (0, .ref x), (1, iv (i : Int)), (2, .ref y)]) [4, 3, 0, 1, 2] rfl ?_
      exact J38 _ _ σ1 b cap' f' X1 hB (by omega) h2 hO hf (by omega) (by omega) (Or.inr hb)
  · refine n_alenO C hr dJx4a65c_add_7a177_28 ?_
    refine n_icmp_ne C 38 dJx4a65c_add_7a177_29 (by decide) (by unfold rg; omega) (by unfold rg; omega) (fun b29 => ?_) (fun b29 => ?_)
    · refine n_keep (lv' := [(4, .ref row), (3, iv (m : Int)), (0, .ref x), (1, iv (i : Int)), (2, .ref y)]) [4, 3, 0, 1, 2] rfl ?_
      exact J38 _ _ _ row cap f hX0 hr (by omega) (by omega) (fun _ _ _ => rfl) (fun _ _ => rfl) (by omega) (by omega) (Or.inl ⟨rfl, rfl, hc1⟩)
    · refine n_aload_n C dJx4a65c_add_7a177_32 rfl ?_
      refine n_invV C (c_grow hst ⟨hX0, hr1, hn, hcap⟩ (by omega) hm hel1) ⟨t2_11, t2_14, t1_4, ⟨by decide, by decide⟩, by show _ = some 0; decide +kernel, by decide⟩ t2_13 tp_4 hX0 cJ (by decide) (by omega) (by omega) (Nat.le_of_ble_eq_true rfl) rfl dJx4a65c_add_7a177_33 (fun r σ1 h' => ?_) (fun _ _ h => h.elim)
      obtain ⟨b, cap', f', rfl, hb, h1, h2, X1, hB, hO, hf⟩ := h'
      refine n_astore (lv' := [(4, .ref b), (3, iv (m : Int)), (0, .ref x), (1, iv (i : Int)), (2, .ref y)]) C dJx4a65c_add_7a177_36 (by rw [hN]; decide) rfl ?_
      refine n_keep (lv' := [(4, .ref b), (3, iv (m : Int)), (0, .ref x), (1, iv (i : Int)), (2, .ref y)]) [4, 3, 0, 1, 2] rfl ?_
      exact J38 _ _ σ1 b cap' f' X1 hB (by omega) h2 hO hf (by omega) (by omega) (Or.inr hb)
