set_option maxRecDepth 100000 in
set_option maxHeartbeats 4000000 in
theorem k_manned {g : Gx} (hst : g.1.stackTraces = false) {A : ShT} {β : Wd} {c D : Tb} {σ : Wd} (hM : CB g.2.1 A β c D σ) (hw : WF c) (hI : CI g c A) {L : Nat} (hL : 1 ≤ L ∧ L ≤ 80) (hW2 : ∀ q : Nat, (q : Int) < c 6 0 → D 2 q = cnt c L q (NT c L))  : CT g yX2_plannedAllManned cX2_plannedAllManned 3 (some .boolean) 3 0 0 [.ref (shA A 0)] σ (fun r σ' => ∃ x : Int, r = some (iv x) ∧ σ' = σ ∧ ((x = 1 ∧ ∀ q : Nat, (q : Int) < c 6 0 → ¬ ofP c (bB c L) (eE c L) q (-1)) ∨ (x = 0 ∧ ¬ (∀ q : Nat, (q : Int) < c 6 0 → ¬ ofP c (bB c L) (eE c L) q (-1))))) (fun _ _ => False) := by
  refine CT.of hst (by decide +kernel) (Nat.le_of_ble_eq_true rfl) (fun Φ C Rr hY hN => ?_)
  show N Φ 0 0 σ 0 [(0, .ref (shA A 0))] []
  obtain ⟨w0, w6, w12, w13, w14, w15, w16, wm, wq, ww⟩ := id hw
  obtain ⟨n0, hn0⟩ : ∃ n : Nat, c 0 0 = n := ⟨(c 0 0).toNat, by omega⟩
  obtain ⟨n6, hn6⟩ : ∃ n : Nat, c 6 0 = n := ⟨(c 6 0).toNat, by omega⟩
  have hl0 : nL3 c 0 = n0 := hn0
  have hl1 : nL3 c 1 = n6 := hn6
  have hl2 : nL3 c 2 = n6 := hn6
  have hNT : ((NT c L : Nat) : Int) ≤ 2400 := by
    unfold NT
    rw [Int.natCast_mul]
    have z1 : ((c 12 0).toNat : Int) * (L : Int) ≤ 30 * (L : Int) := Int.mul_le_mul_of_nonneg_right (by omega) (by omega)
    omega
  have hBq : ∀ q : Nat, 0 ≤ c 7 q * (L : Int) ∧ c 7 q * (L : Int) ≤ 2400 := fun q => by
    have z := (wq q).1
    have z1 : c 7 q * (L : Int) ≤ 30 * (L : Int) := Int.mul_le_mul_of_nonneg_right (by omega) (by omega)
    exact ⟨Int.mul_nonneg z.1 (by omega), by omega⟩
  have hOF : ∀ (q : Nat) (v : Int), (q : Int) < c 6 0 → (ofP c (bB c L) (eE c L) q v ↔ 0 < cnt c L q (NT c L) ∧ wOf c q = v) := fun q v hq => of_cl (by omega) w6.2 hq
  refine n_iconst (x := 0) C dX2_plannedAllManned_0 ?_
  refine n_istore_n (lv' := [(1, iv 0), (0, .ref (shA A 0))]) C dX2_plannedAllManned_1 (by rw [hN]; decide) rfl ?_
  have LP : ∀ (fu : Nat) (k : Nat) (hall : ∀ q : Nat, q < k → ¬ ofP c (bB c L) (eE c L) q (-1)) (hk : k ≤ n6) (hf : n6 + 1 ≤ k + fu), N Φ 0 0 σ 2 [(1, iv (k : Int)), (0, .ref (shA A 0))] [] := by
    intro fu
    induction fu with
    | zero =>
      intro k hall hk hf
      omega
    | succ fu ih =>
      intro k hall hk hf
      refine n_iload_n C dX2_plannedAllManned_2 rfl ?_
      refine n_aload_n C dX2_plannedAllManned_3 rfl ?_
      refine n_get C hM.1.1 vC5 vI5 1 (by decide) t1_64 rfl rfl dX2_plannedAllManned_4 ?_
      refine n_invV C (c_size hst (hM.1.lst hw hI (j := 1) (by decide) hl1)) ⟨t1_188, t1_191, t1_4, ⟨by decide, by decide⟩, by show _ = some 0; decide +kernel, by decide⟩ t1_189 t1_190 (hM.1.2.1 1 (by decide)) cJ (by decide) (by omega) (by omega) (Nat.le_of_ble_eq_true rfl) rfl dX2_plannedAllManned_7 (fun r σ' h' => ?_) (fun _ _ h => h.elim)
      obtain ⟨rfl, hσ⟩ := h'
      rw [hσ]
      refine n_icmp_ge C 49 dX2_plannedAllManned_10 (by decide) (by unfold rg; omega) (by unfold rg; omega) (fun b10 => ?_) (fun b10 => ?_)
      · refine n_iconst (x := 1) C dX2_plannedAllManned_49 ?_
        exact n_ireturn C Rr (nar_bv (by first | decide | omega)) ⟨1, rfl, rfl, Or.inl ⟨rfl, fun q hq => hall q (by omega)⟩⟩ (by omega) (by omega) dX2_plannedAllManned_50
      · refine n_aload_n C dX2_plannedAllManned_13 rfl ?_
        refine n_get C hM.1.1 vC5 vI5 1 (by decide) t1_64 rfl rfl dX2_plannedAllManned_14 ?_
        refine n_iload_n C dX2_plannedAllManned_17 rfl ?_
        refine n_invV C (c_get hst (hM.1.lst hw hI (j := 1) (by decide) hl1) (i := k) (by omega) (hI.2.2.1 k (by omega))) ⟨t2_87, t2_90, t1_4, ⟨by decide, by decide⟩, by show _ = some 1; decide +kernel, by decide⟩ t2_88 t2_89 (hM.1.2.1 1 (by decide)) cJ (by decide) (by omega) (by omega) (Nat.le_of_ble_eq_true rfl) rfl dX2_plannedAllManned_18 (fun r σ' h' => ?_) (fun _ _ h => h.elim)
        obtain ⟨rfl, hσ⟩ := h'
        rw [hσ]
        have hDk := hW2 k (by omega)
        have hck := cnt_rg c L k (NT c L)
        have hwk := wOf_rg hw k
        have hof := hOF k (-1) (by omega)
        refine n_cast C (hM.qi (q := k) (by omega)) vC3 t2_113 dX2_plannedAllManned_21 ?_
        refine n_astore_n (lv' := [(2, .ref (shA A (30 + k))), (1, iv (k : Int)), (0, .ref (shA A 0))]) C dX2_plannedAllManned_24 (by rw [hN]; decide) rfl ?_
        refine n_aload_n C dX2_plannedAllManned_25 rfl ?_
        refine n_get C (hM.qi (q := k) (by omega)) vC3 vI3 5 (by decide) t2_129 rfl rfl dX2_plannedAllManned_26 ?_
        refine n_if_le C 43 dX2_plannedAllManned_29 (by decide) (by unfold rg; omega) (fun b29 => ?_) (fun b29 => ?_)
        · refine n_iinc (lv' := [(1, iv ((k : Int) + 1)), (2, .ref (shA A (30 + k))), (0, .ref (shA A 0))]) C dX2_plannedAllManned_43 rfl (by rw [hN]; decide) rfl ?_
          refine n_goto C 2 dX2_plannedAllManned_46 (by decide) ?_
          refine n_keep (lv' := [(1, iv ((k : Int) + 1)), (0, .ref (shA A 0))]) [1, 0] rfl ?_
          exact ih (k + 1) (fun j hj => by
            by_cases z : j = k
            · rw [z, hof]; omega
            · exact hall j (by omega)) (by omega) (by omega)
        · refine n_aload_n C dX2_plannedAllManned_32 rfl ?_
          refine n_aload_n C dX2_plannedAllManned_33 rfl ?_
          refine n_invV C (k_wT hst hM hw hI (q := k) (by omega)) ⟨t4_49, t4_52, t1_1, ⟨by decide, by decide⟩, by show _ = some 1; decide +kernel, by decide⟩ t4_51 tp_16 hM.1.1 vC5 (by decide) (by omega) (by omega) (Nat.le_of_ble_eq_true rfl) rfl dX2_plannedAllManned_34 (fun r σ' h' => ?_) (fun _ _ h => h.elim)
          obtain ⟨rfl, hσ⟩ := h'
          rw [hσ]
          refine n_iconst (x := (-1)) C dX2_plannedAllManned_37 ?_
          refine n_icmp_ne C 43 dX2_plannedAllManned_38 (by decide) (by unfold rg; omega) (by unfold rg; omega) (fun b38 => ?_) (fun b38 => ?_)
          · refine n_iinc (lv' := [(1, iv ((k : Int) + 1)), (2, .ref (shA A (30 + k))), (0, .ref (shA A 0))]) C dX2_plannedAllManned_43 rfl (by rw [hN]; decide) rfl ?_
            refine n_goto C 2 dX2_plannedAllManned_46 (by decide) ?_
            refine n_keep (lv' := [(1, iv ((k : Int) + 1)), (0, .ref (shA A 0))]) [1, 0] rfl ?_
            exact ih (k + 1) (fun j hj => by
              by_cases z : j = k
              · rw [z, hof]; omega
              · exact hall j (by omega)) (by omega) (by omega)
          · refine n_iconst (x := 0) C dX2_plannedAllManned_41 ?_
            exact n_ireturn C Rr (nar_bv (by first | decide | omega)) ⟨0, rfl, rfl, Or.inr ⟨rfl, fun z => z k (by omega) (hof.mpr ⟨by omega, by omega⟩)⟩⟩ (by omega) (by omega) dX2_plannedAllManned_42
  exact LP 25 0 (fun j hj => absurd hj (Nat.not_lt_zero j)) (by omega) (by omega)
set_option maxRecDepth 100000 in
set_option maxHeartbeats 4000000 in
theorem k_clashes {g : Gx} (hst : g.1.stackTraces = false) {A : ShT} {β : Wd} {c D : Tb} {σ : Wd} (hM : CB g.2.1 A β c D σ) (hw : WF c) (hI : CI g c A) {L : Nat} (hL : 1 ≤ L ∧ L ≤ 80) (hW2 : ∀ q : Nat, (q : Int) < c 6 0 → D 2 q = cnt c L q (NT c L)) {v : Int} (hv : -1 ≤ v ∧ v ≤ 5)  : CT g yX2_plannedClashes cX2_plannedClashes 9 (some .int) 3 0 0 [.ref (shA A 0), iv v, iv (L : Int)] σ (fun r σ' => r = some (iv (clN c (bB c L) (eE c L) v (c 6 0).toNat)) ∧ σ' = σ) (fun _ _ => False) := by
  refine CT.of hst (by decide +kernel) (Nat.le_of_ble_eq_true rfl) (fun Φ C Rr hY hN => ?_)
  show N Φ 0 0 σ 0 [(0, .ref (shA A 0)), (1, iv v), (2, iv (L : Int))] []
  obtain ⟨w0, w6, w12, w13, w14, w15, w16, wm, wq, ww⟩ := id hw
  obtain ⟨n0, hn0⟩ : ∃ n : Nat, c 0 0 = n := ⟨(c 0 0).toNat, by omega⟩
  obtain ⟨n6, hn6⟩ : ∃ n : Nat, c 6 0 = n := ⟨(c 6 0).toNat, by omega⟩
  have hl0 : nL3 c 0 = n0 := hn0
  have hl1 : nL3 c 1 = n6 := hn6
  have hl2 : nL3 c 2 = n6 := hn6
  have hNT : ((NT c L : Nat) : Int) ≤ 2400 := by
    unfold NT
    rw [Int.natCast_mul]
    have z1 : ((c 12 0).toNat : Int) * (L : Int) ≤ 30 * (L : Int) := Int.mul_le_mul_of_nonneg_right (by omega) (by omega)
    omega
  have hBq : ∀ q : Nat, 0 ≤ c 7 q * (L : Int) ∧ c 7 q * (L : Int) ≤ 2400 := fun q => by
    have z := (wq q).1
    have z1 : c 7 q * (L : Int) ≤ 30 * (L : Int) := Int.mul_le_mul_of_nonneg_right (by omega) (by omega)
    exact ⟨Int.mul_nonneg z.1 (by omega), by omega⟩
  have hOF : ∀ (q : Nat) (v : Int), (q : Int) < c 6 0 → (ofP c (bB c L) (eE c L) q v ↔ 0 < cnt c L q (NT c L) ∧ wOf c q = v) := fun q v hq => of_cl (by omega) w6.2 hq
  have hsO : ∀ k l : Nat, k < l → (l : Int) < c 6 0 → aL c L (shO A k) (shO A l) := fun k l h1 h2 => aL_of (by omega) (hI.2.2.2.2.1 k l h1 h2)
  have hsu := hI.2.2.2.2.2.1
  have hin : ∀ k : Nat, (k : Int) < c 6 0 → (shO A k : Int) < c 6 0 := fun k hk => (hI.2.2.2.1 k hk).2
  refine n_iconst (x := 0) C dX2_plannedClashes_0 ?_
  refine n_istore_n (lv' := [(3, iv 0), (0, .ref (shA A 0)), (1, iv v), (2, iv (L : Int))]) C dX2_plannedClashes_1 (by rw [hN]; decide) rfl ?_
  refine n_iconst (x := 0) C dX2_plannedClashes_2 ?_
  refine n_istore (lv' := [(4, iv 0), (3, iv 0), (0, .ref (shA A 0)), (1, iv v), (2, iv (L : Int))]) C dX2_plannedClashes_3 (by rw [hN]; decide) rfl ?_
  refine n_iconst (x := 0) C dX2_plannedClashes_5 ?_
  refine n_istore (lv' := [(5, iv 0), (4, iv 0), (3, iv 0), (0, .ref (shA A 0)), (1, iv v), (2, iv (L : Int))]) C dX2_plannedClashes_6 (by rw [hN]; decide) rfl ?_
  refine n_iconst (x := 0) C dX2_plannedClashes_8 ?_
  refine n_istore (lv' := [(6, iv 0), (5, iv 0), (4, iv 0), (3, iv 0), (0, .ref (shA A 0)), (1, iv v), (2, iv (L : Int))]) C dX2_plannedClashes_9 (by rw [hN]; decide) rfl ?_
  have LP : ∀ (fu : Nat) (k : Nat) (z wb eb : Int) (hx : z + (if laQ c L v (shO A) k = -1 then 0 else clQ c L v (laQ c L v (shO A) k).toNat) = smN (fun j => clQ c L v (shO A j)) k) (hwb : (wb = 0 ∧ laQ c L v (shO A) k = -1) ∨ (wb = 1 ∧ ∃ q : Nat, laQ c L v (shO A) k = q ∧ eb = eE c L q)) (hz : 0 ≤ z ∧ z ≤ k) (hk : k ≤ n6) (hf : n6 + 1 ≤ k + fu), N Φ 0 0 σ 11 [(6, iv (k : Int)), (5, iv eb), (4, iv wb), (3, iv z), (0, .ref (shA A 0)), (1, iv v), (2, iv (L : Int))] [] := by
    intro fu
    induction fu with
    | zero =>
      intro k z wb eb hx hwb hz hk hf
      omega
    | succ fu ih =>
      intro k z wb eb hx hwb hz hk hf
      refine n_iload C dX2_plannedClashes_11 rfl ?_
      refine n_aload_n C dX2_plannedClashes_13 rfl ?_
      refine n_get C hM.1.1 vC5 vI5 2 (by decide) t1_65 rfl rfl dX2_plannedClashes_14 ?_
      refine n_invV C (c_size hst (hM.1.lst hw hI (j := 2) (by decide) hl2)) ⟨t1_188, t1_191, t1_4, ⟨by decide, by decide⟩, by show _ = some 0; decide +kernel, by decide⟩ t1_189 t1_190 (hM.1.2.1 2 (by decide)) cJ (by decide) (by omega) (by omega) (Nat.le_of_ble_eq_true rfl) rfl dX2_plannedClashes_17 (fun r σ' h' => ?_) (fun _ _ h => h.elim)
      obtain ⟨rfl, hσ⟩ := h'
      rw [hσ]
      refine n_icmp_ge C 103 dX2_plannedClashes_20 (by decide) (by unfold rg; omega) (by unfold rg; omega) (fun b20 => ?_) (fun b20 => ?_)
      · refine n_iload_n C dX2_plannedClashes_103 rfl ?_
        exact n_ireturn C Rr rfl ⟨by rw [cc_end (w := v) hsO hsu hin hn6 (x := z) (by have e9 : k = n6 := by omega
                                                                                      rw [e9] at hx
                                                                                      exact hx)]; rw [show (c 6 0).toNat = n6 by omega], rfl⟩ (by omega) (by omega) dX2_plannedClashes_104
      · refine n_aload_n C dX2_plannedClashes_23 rfl ?_
        refine n_get C hM.1.1 vC5 vI5 2 (by decide) t1_65 rfl rfl dX2_plannedClashes_24 ?_
        refine n_iload C dX2_plannedClashes_27 rfl ?_
        refine n_invV C (c_get hst (hM.1.lst hw hI (j := 2) (by decide) hl2) (i := k) (by omega) (hI.2.2.2.1 k (by omega)).1) ⟨t2_87, t2_90, t1_4, ⟨by decide, by decide⟩, by show _ = some 1; decide +kernel, by decide⟩ t2_88 t2_89 (hM.1.2.1 2 (by decide)) cJ (by decide) (by omega) (by omega) (Nat.le_of_ble_eq_true rfl) rfl dX2_plannedClashes_29 (fun r σ' h' => ?_) (fun _ _ h => h.elim)
        obtain ⟨rfl, hσ⟩ := h'
        rw [hσ]
        obtain ⟨q, hqe⟩ : ∃ q : Nat, shO A k = q := ⟨_, rfl⟩
        have hq := hin k (by omega)
        rw [hqe] at hq
        rw [hqe]
        have hDk := hW2 q hq
        have hck := cnt_rg c L q (NT c L)
        have hwk := wOf_rg hw q
        have hof := hOF q v hq
        have hB := hBq q
        have hw7 := (wq q).1
        have eB : bB c L q = c 7 q * (L : Int) := rfl
        have eEq : eE c L q = c 7 q * (L : Int) + cnt c L q (NT c L) := rfl
        have hcs := cc_step (w := v) hsO hsu (k := k) (by omega) hx
        have hls := la_s (c := c) (L := L) (w := v) (s := shO A) (k := k)
        rw [hqe] at hcs hls
        refine n_cast C (hM.qi (q := q) hq) vC3 t2_113 dX2_plannedClashes_32 ?_
        refine n_astore (lv' := [(7, .ref (shA A (30 + q))), (6, iv (k : Int)), (5, iv eb), (4, iv wb), (3, iv z), (0, .ref (shA A 0)), (1, iv v), (2, iv (L : Int))]) C dX2_plannedClashes_35 (by rw [hN]; decide) rfl ?_
        refine n_aload C dX2_plannedClashes_37 rfl ?_
        refine n_get C (hM.qi (q := q) hq) vC3 vI3 5 (by decide) t2_129 rfl rfl dX2_plannedClashes_39 ?_
        refine n_if_le C 97 dX2_plannedClashes_42 (by decide) (by unfold rg; omega) (fun b42 => ?_) (fun b42 => ?_)
        · have hno : ¬ ofP c (bB c L) (eE c L) q v := fun t => by have := hof.mp t; omega
          refine n_iinc (lv' := [(6, iv ((k : Int) + 1)), (7, .ref (shA A (30 + q))), (5, iv eb), (4, iv wb), (3, iv z), (0, .ref (shA A 0)), (1, iv v), (2, iv (L : Int))]) C dX2_plannedClashes_97 rfl (by rw [hN]; decide) rfl ?_
          refine n_goto C 11 dX2_plannedClashes_100 (by decide) ?_
          refine n_keep (lv' := [(6, iv ((k : Int) + 1)), (5, iv eb), (4, iv wb), (3, iv z), (0, .ref (shA A 0)), (1, iv v), (2, iv (L : Int))]) [6, 5, 4, 3, 0, 1, 2] rfl ?_
          exact ih (k + 1) z wb eb (hcs.2 hno) (by rw [hls.2 hno]; exact hwb) (by omega) (by omega) (by omega)
        · refine n_aload_n C dX2_plannedClashes_45 rfl ?_
          refine n_aload C dX2_plannedClashes_46 rfl ?_
          refine n_invV C (k_wT hst hM hw hI (q := q) (by omega)) ⟨t4_49, t4_52, t1_1, ⟨by decide, by decide⟩, by show _ = some 1; decide +kernel, by decide⟩ t4_51 tp_16 hM.1.1 vC5 (by decide) (by omega) (by omega) (Nat.le_of_ble_eq_true rfl) rfl dX2_plannedClashes_48 (fun r σ' h' => ?_) (fun _ _ h => h.elim)
          obtain ⟨rfl, hσ⟩ := h'
          rw [hσ]
          refine n_iload_n C dX2_plannedClashes_51 rfl ?_
          refine n_icmp_ne C 97 dX2_plannedClashes_52 (by decide) (by unfold rg; omega) (by unfold rg; omega) (fun b52 => ?_) (fun b52 => ?_)
          · have hno : ¬ ofP c (bB c L) (eE c L) q v := fun t => by have := hof.mp t; omega
            refine n_iinc (lv' := [(6, iv ((k : Int) + 1)), (7, .ref (shA A (30 + q))), (5, iv eb), (4, iv wb), (3, iv z), (0, .ref (shA A 0)), (1, iv v), (2, iv (L : Int))]) C dX2_plannedClashes_97 rfl (by rw [hN]; decide) rfl ?_
            refine n_goto C 11 dX2_plannedClashes_100 (by decide) ?_
            refine n_keep (lv' := [(6, iv ((k : Int) + 1)), (5, iv eb), (4, iv wb), (3, iv z), (0, .ref (shA A 0)), (1, iv v), (2, iv (L : Int))]) [6, 5, 4, 3, 0, 1, 2] rfl ?_
            exact ih (k + 1) z wb eb (hcs.2 hno) (by rw [hls.2 hno]; exact hwb) (by omega) (by omega) (by omega)
          · have hyes : ofP c (bB c L) (eE c L) q v := hof.mpr ⟨by omega, by omega⟩
            refine n_aload C dX2_plannedClashes_55 rfl ?_
            refine n_get C (hM.qi (q := q) hq) vC3 vI3 1 (by decide) t2_122 rfl rfl dX2_plannedClashes_57 ?_
            refine n_iload_n C dX2_plannedClashes_60 rfl ?_
            refine n_imul C dX2_plannedClashes_61 ?_
            refine n_istore (lv' := [(8, iv ((c 7 q) * (L : Int))), (7, .ref (shA A (30 + q))), (6, iv (k : Int)), (5, iv eb), (4, iv wb), (3, iv z), (0, .ref (shA A 0)), (1, iv v), (2, iv (L : Int))]) C dX2_plannedClashes_62 (by rw [hN]; decide) rfl ?_
            refine n_iload C dX2_plannedClashes_64 rfl ?_
            refine n_if_eq C 84 dX2_plannedClashes_66 (by decide) (by unfold rg; omega) (fun b66 => ?_) (fun b66 => ?_)
            · have hla := (hwb.resolve_right (fun ⟨t, _⟩ => by omega)).2
              refine n_iconst (x := 1) C dX2_plannedClashes_84 ?_
              refine n_istore (lv' := [(4, iv 1), (8, iv ((c 7 q) * (L : Int))), (7, .ref (shA A (30 + q))), (6, iv (k : Int)), (5, iv eb), (3, iv z), (0, .ref (shA A 0)), (1, iv v), (2, iv (L : Int))]) C dX2_plannedClashes_85 (by rw [hN]; decide) rfl ?_
              refine n_iload C dX2_plannedClashes_87 rfl ?_
              refine n_aload C dX2_plannedClashes_89 rfl ?_
              refine n_get C (hM.qi (q := q) hq) vC3 vI3 5 (by decide) t2_129 rfl rfl dX2_plannedClashes_91 ?_
              refine n_iadd C dX2_plannedClashes_94 ?_
              refine n_istore (lv' := [(5, iv (((c 7 q) * (L : Int)) + (D 2 q))), (4, iv 1), (8, iv ((c 7 q) * (L : Int))), (7, .ref (shA A (30 + q))), (6, iv (k : Int)), (3, iv z), (0, .ref (shA A 0)), (1, iv v), (2, iv (L : Int))]) C dX2_plannedClashes_95 (by rw [hN]; decide) rfl ?_
              refine n_iinc (lv' := [(6, iv ((k : Int) + 1)), (5, iv (((c 7 q) * (L : Int)) + (D 2 q))), (4, iv 1), (8, iv ((c 7 q) * (L : Int))), (7, .ref (shA A (30 + q))), (3, iv z), (0, .ref (shA A 0)), (1, iv v), (2, iv (L : Int))]) C dX2_plannedClashes_97 rfl (by rw [hN]; decide) rfl ?_
              refine n_goto C 11 dX2_plannedClashes_100 (by decide) ?_
              refine n_keep (lv' := [(6, iv ((k : Int) + 1)), (5, iv (((c 7 q) * (L : Int)) + (D 2 q))), (4, iv 1), (3, iv z), (0, .ref (shA A 0)), (1, iv v), (2, iv (L : Int))]) [6, 5, 4, 3, 0, 1, 2] rfl ?_
              have hs1 := hcs.1 hyes
              rw [if_neg (fun t => t.1 hla)] at hs1
              exact ih (k + 1) _ 1 _ (by first | exact hs1 | (rw [Int.add_zero] at hs1; exact hs1)) (Or.inr ⟨rfl, q, hls.1 hyes, by rw [eEq, hDk]⟩) (by omega) (by omega) (by omega)
            · obtain ⟨hb1, qb, hb2, hb3⟩ := hwb.resolve_left (fun t => by omega)
              have hbr := cnt_rg c L qb (NT c L)
              have hbB := hBq qb
              have eEb : eE c L qb = c 7 qb * (L : Int) + cnt c L qb (NT c L) := rfl
              refine n_iload C dX2_plannedClashes_69 rfl ?_
              refine n_iload C dX2_plannedClashes_71 rfl ?_
              refine n_aload_n C dX2_plannedClashes_73 rfl ?_
              refine n_get C hM.1.1 vC5 vI5 8 (by decide) t1_71 rfl rfl dX2_plannedClashes_74 ?_
              refine n_iadd C dX2_plannedClashes_77 ?_
              refine n_icmp_ge C 84 dX2_plannedClashes_78 (by decide) (by unfold rg; omega) (by unfold rg; omega) (fun b78 => ?_) (fun b78 => ?_)
              · refine n_iconst (x := 1) C dX2_plannedClashes_84 ?_
                refine n_istore (lv' := [(4, iv 1), (8, iv ((c 7 q) * (L : Int))), (7, .ref (shA A (30 + q))), (6, iv (k : Int)), (5, iv eb), (3, iv z), (0, .ref (shA A 0)), (1, iv v), (2, iv (L : Int))]) C dX2_plannedClashes_85 (by rw [hN]; decide) rfl ?_
                refine n_iload C dX2_plannedClashes_87 rfl ?_
                refine n_aload C dX2_plannedClashes_89 rfl ?_
                refine n_get C (hM.qi (q := q) hq) vC3 vI3 5 (by decide) t2_129 rfl rfl dX2_plannedClashes_91 ?_
                refine n_iadd C dX2_plannedClashes_94 ?_
                refine n_istore (lv' := [(5, iv (((c 7 q) * (L : Int)) + (D 2 q))), (4, iv 1), (8, iv ((c 7 q) * (L : Int))), (7, .ref (shA A (30 + q))), (6, iv (k : Int)), (3, iv z), (0, .ref (shA A 0)), (1, iv v), (2, iv (L : Int))]) C dX2_plannedClashes_95 (by rw [hN]; decide) rfl ?_
                refine n_iinc (lv' := [(6, iv ((k : Int) + 1)), (5, iv (((c 7 q) * (L : Int)) + (D 2 q))), (4, iv 1), (8, iv ((c 7 q) * (L : Int))), (7, .ref (shA A (30 + q))), (3, iv z), (0, .ref (shA A 0)), (1, iv v), (2, iv (L : Int))]) C dX2_plannedClashes_97 rfl (by rw [hN]; decide) rfl ?_
                refine n_goto C 11 dX2_plannedClashes_100 (by decide) ?_
                refine n_keep (lv' := [(6, iv ((k : Int) + 1)), (5, iv (((c 7 q) * (L : Int)) + (D 2 q))), (4, iv 1), (3, iv z), (0, .ref (shA A 0)), (1, iv v), (2, iv (L : Int))]) [6, 5, 4, 3, 0, 1, 2] rfl ?_
                have hs1 := hcs.1 hyes
                rw [if_neg (fun t => by have t2 := t.2; rw [hb2, Int.toNat_natCast] at t2; omega)] at hs1
                exact ih (k + 1) _ 1 _ (by first | exact hs1 | (rw [Int.add_zero] at hs1; exact hs1)) (Or.inr ⟨rfl, q, hls.1 hyes, by rw [eEq, hDk]⟩) (by omega) (by omega) (by omega)
              · refine n_iinc (lv' := [(3, iv (z + 1)), (8, iv ((c 7 q) * (L : Int))), (7, .ref (shA A (30 + q))), (6, iv (k : Int)), (5, iv eb), (4, iv wb), (0, .ref (shA A 0)), (1, iv v), (2, iv (L : Int))]) C dX2_plannedClashes_81 rfl (by rw [hN]; decide) rfl ?_
                refine n_iconst (x := 1) C dX2_plannedClashes_84 ?_
                refine n_istore (lv' := [(4, iv 1), (3, iv (z + 1)), (8, iv ((c 7 q) * (L : Int))), (7, .ref (shA A (30 + q))), (6, iv (k : Int)), (5, iv eb), (0, .ref (shA A 0)), (1, iv v), (2, iv (L : Int))]) C dX2_plannedClashes_85 (by rw [hN]; decide) rfl ?_
                refine n_iload C dX2_plannedClashes_87 rfl ?_
                refine n_aload C dX2_plannedClashes_89 rfl ?_
                refine n_get C (hM.qi (q := q) hq) vC3 vI3 5 (by decide) t2_129 rfl rfl dX2_plannedClashes_91 ?_
                refine n_iadd C dX2_plannedClashes_94 ?_
                refine n_istore (lv' := [(5, iv (((c 7 q) * (L : Int)) + (D 2 q))), (4, iv 1), (3, iv (z + 1)), (8, iv ((c 7 q) * (L : Int))), (7, .ref (shA A (30 + q))), (6, iv (k : Int)), (0, .ref (shA A 0)), (1, iv v), (2, iv (L : Int))]) C dX2_plannedClashes_95 (by rw [hN]; decide) rfl ?_
                refine n_iinc (lv' := [(6, iv ((k : Int) + 1)), (5, iv (((c 7 q) * (L : Int)) + (D 2 q))), (4, iv 1), (3, iv (z + 1)), (8, iv ((c 7 q) * (L : Int))), (7, .ref (shA A (30 + q))), (0, .ref (shA A 0)), (1, iv v), (2, iv (L : Int))]) C dX2_plannedClashes_97 rfl (by rw [hN]; decide) rfl ?_
                refine n_goto C 11 dX2_plannedClashes_100 (by decide) ?_
                refine n_keep (lv' := [(6, iv ((k : Int) + 1)), (5, iv (((c 7 q) * (L : Int)) + (D 2 q))), (4, iv 1), (3, iv (z + 1)), (0, .ref (shA A 0)), (1, iv v), (2, iv (L : Int))]) [6, 5, 4, 3, 0, 1, 2] rfl ?_
                have hs1 := hcs.1 hyes
                rw [if_pos ⟨by omega, by rw [hb2, Int.toNat_natCast]; omega⟩] at hs1
                exact ih (k + 1) _ 1 _ (by first | exact hs1 | (rw [Int.add_zero] at hs1; exact hs1)) (Or.inr ⟨rfl, q, hls.1 hyes, by rw [eEq, hDk]⟩) (by omega) (by omega) (by omega)
  exact LP 25 0 0 0 0 rfl (Or.inl ⟨rfl, rfl⟩) (by omega) (by omega) (by omega)
set_option maxRecDepth 100000 in
set_option maxHeartbeats 4000000 in
theorem k_noClash {g : Gx} (hst : g.1.stackTraces = false) {A : ShT} {β : Wd} {c D : Tb} {σ : Wd} (hM : CB g.2.1 A β c D σ) (hw : WF c) (hI : CI g c A) {L : Nat} (hL : 1 ≤ L ∧ L ≤ 80) (hW2 : ∀ q : Nat, (q : Int) < c 6 0 → D 2 q = cnt c L q (NT c L))  : CT g yX2_plannedWithoutClash cX2_plannedWithoutClash 3 (some .boolean) 4 0 0 [.ref (shA A 0), iv (L : Int)] σ (fun r σ' => ∃ x : Int, r = some (iv x) ∧ σ' = σ ∧ ((x = 1 ∧ ∀ j : Nat, j < 6 → clN c (bB c L) (eE c L) j (c 6 0).toNat = 0) ∨ (x = 0 ∧ ¬ (∀ j : Nat, j < 6 → clN c (bB c L) (eE c L) j (c 6 0).toNat = 0)))) (fun _ _ => False) := by
  refine CT.of hst (by decide +kernel) (Nat.le_of_ble_eq_true rfl) (fun Φ C Rr hY hN => ?_)
  show N Φ 0 0 σ 0 [(0, .ref (shA A 0)), (1, iv (L : Int))] []
  obtain ⟨w0, w6, w12, w13, w14, w15, w16, wm, wq, ww⟩ := id hw
  obtain ⟨n0, hn0⟩ : ∃ n : Nat, c 0 0 = n := ⟨(c 0 0).toNat, by omega⟩
  obtain ⟨n6, hn6⟩ : ∃ n : Nat, c 6 0 = n := ⟨(c 6 0).toNat, by omega⟩
  have hl0 : nL3 c 0 = n0 := hn0
  have hl1 : nL3 c 1 = n6 := hn6
  have hl2 : nL3 c 2 = n6 := hn6
  have hNT : ((NT c L : Nat) : Int) ≤ 2400 := by
    unfold NT
    rw [Int.natCast_mul]
    have z1 : ((c 12 0).toNat : Int) * (L : Int) ≤ 30 * (L : Int) := Int.mul_le_mul_of_nonneg_right (by omega) (by omega)
    omega
  have hBq : ∀ q : Nat, 0 ≤ c 7 q * (L : Int) ∧ c 7 q * (L : Int) ≤ 2400 := fun q => by
    have z := (wq q).1
    have z1 : c 7 q * (L : Int) ≤ 30 * (L : Int) := Int.mul_le_mul_of_nonneg_right (by omega) (by omega)
    exact ⟨Int.mul_nonneg z.1 (by omega), by omega⟩
  have hOF : ∀ (q : Nat) (v : Int), (q : Int) < c 6 0 → (ofP c (bB c L) (eE c L) q v ↔ 0 < cnt c L q (NT c L) ∧ wOf c q = v) := fun q v hq => of_cl (by omega) w6.2 hq
  refine n_iconst (x := 0) C dX2_plannedWithoutClash_0 ?_
  refine n_istore_n (lv' := [(2, iv 0), (0, .ref (shA A 0)), (1, iv (L : Int))]) C dX2_plannedWithoutClash_1 (by rw [hN]; decide) rfl ?_
  have LP : ∀ (fu : Nat) (k : Nat) (hall : ∀ j : Nat, j < k → clN c (bB c L) (eE c L) j (c 6 0).toNat = 0) (hk : k ≤ 6) (hf : 7 ≤ k + fu), N Φ 0 0 σ 2 [(2, iv (k : Int)), (0, .ref (shA A 0)), (1, iv (L : Int))] [] := by
    intro fu
    induction fu with
    | zero =>
      intro k hall hk hf
      omega
    | succ fu ih =>
      intro k hall hk hf
      refine n_iload_n C dX2_plannedWithoutClash_2 rfl ?_
      refine n_bipush (x := 6) C dX2_plannedWithoutClash_3 (by decide) ?_
      refine n_icmp_ge C 25 dX2_plannedWithoutClash_5 (by decide) (by unfold rg; omega) (by unfold rg; omega) (fun b5 => ?_) (fun b5 => ?_)
      · refine n_iconst (x := 1) C dX2_plannedWithoutClash_25 ?_
        exact n_ireturn C Rr (nar_bv (by first | decide | omega)) ⟨1, rfl, rfl, Or.inl ⟨rfl, fun q hq => hall q (by omega)⟩⟩ (by omega) (by omega) dX2_plannedWithoutClash_26
      · refine n_aload_n C dX2_plannedWithoutClash_8 rfl ?_
        refine n_iload_n C dX2_plannedWithoutClash_9 rfl ?_
        refine n_iload_n C dX2_plannedWithoutClash_10 rfl ?_
        refine n_invV C (k_clashes hst hM hw hI hL hW2 (v := (k : Int)) (by omega)) ⟨t4_93, t4_96, t1_1, ⟨by decide, by decide⟩, by show _ = some 2; decide +kernel, by decide⟩ t4_95 tp_20 hM.1.1 vC5 (by decide) (by omega) (by omega) (Nat.le_of_ble_eq_true rfl) rfl dX2_plannedWithoutClash_11 (fun r σ' h' => ?_) (fun _ _ h => h.elim)
        obtain ⟨rfl, hσ⟩ := h'
        rw [hσ]
        have hcr := clN_rg c (bB c L) (eE c L) (k : Int) (c 6 0).toNat
        refine n_if_le C 19 dX2_plannedWithoutClash_14 (by decide) (by unfold rg; omega) (fun b14 => ?_) (fun b14 => ?_)
        · refine n_iinc (lv' := [(2, iv ((k : Int) + 1)), (0, .ref (shA A 0)), (1, iv (L : Int))]) C dX2_plannedWithoutClash_19 rfl (by rw [hN]; decide) rfl ?_
          refine n_goto C 2 dX2_plannedWithoutClash_22 (by decide) ?_
          exact ih (k + 1) (fun j hj => by
            by_cases z : j = k
            · rw [z]; omega
            · exact hall j (by omega)) (by omega) (by omega)
        · refine n_iconst (x := 0) C dX2_plannedWithoutClash_17 ?_
          exact n_ireturn C Rr (nar_bv (by first | decide | omega)) ⟨0, rfl, rfl, Or.inr ⟨rfl, fun z => by have := z k (by omega); omega⟩⟩ (by omega) (by omega) dX2_plannedWithoutClash_18
  exact LP 7 0 (fun j hj => absurd hj (Nat.not_lt_zero j)) (by omega) (by omega)
set_option maxRecDepth 100000 in
set_option maxHeartbeats 4000000 in
theorem k_fineWith {g : Gx} (hst : g.1.stackTraces = false) {A : ShT} {β : Wd} {c D : Tb} {σ : Wd} (hM : CB g.2.1 A β c D σ) (hw : WF c) (hI : CI g c A) {T : Int} (hT : 50 ≤ T ∧ T ≤ 200)  : CT g yX2_isFineWith cX2_isFineWith 3 (some .boolean) 5 0 0 [.ref (shA A 0), iv T] σ (fun r σ' => ∃ (x : Int) (D' : Tb), r = some (iv x) ∧ CB g.2.1 A β c D' σ' ∧ ((x = 1 ∧ FINE c (lenB c T).toNat) ∨ (x = 0 ∧ ¬ (FINE c (lenB c T).toNat)))) (fun _ _ => False) := by
  refine CT.of hst (by decide +kernel) (Nat.le_of_ble_eq_true rfl) (fun Φ C Rr hY hN => ?_)
  show N Φ 0 0 σ 0 [(0, .ref (shA A 0)), (1, iv T)] []
  obtain ⟨w0, w6, w12, w13, w14, w15, w16, wm, wq, ww⟩ := id hw
  obtain ⟨n0, hn0⟩ : ∃ n : Nat, c 0 0 = n := ⟨(c 0 0).toNat, by omega⟩
  obtain ⟨n6, hn6⟩ : ∃ n : Nat, c 6 0 = n := ⟨(c 6 0).toNat, by omega⟩
  have hl0 : nL3 c 0 = n0 := hn0
  have hl1 : nL3 c 1 = n6 := hn6
  have hl2 : nL3 c 2 = n6 := hn6
  refine n_aload_n C dX2_isFineWith_0 rfl ?_
  refine n_iload_n C dX2_isFineWith_1 rfl ?_
  refine n_invV C (k_barTicks hst hT hM hw hI) ⟨t3_199, t3_202, t1_1, ⟨by decide, by decide⟩, by show _ = some 1; decide +kernel, by decide⟩ t3_201 tp_12 hM.1.1 vC5 (by decide) (by omega) (by omega) (Nat.le_of_ble_eq_true rfl) rfl dX2_isFineWith_2 (fun r σ' h' => ?_) (fun _ _ h => h.elim)
  obtain ⟨rfl, hσ⟩ := h'
  rw [hσ]
  have hLr := lenB_rg hw (T := T) hT.1
  obtain ⟨L, hL⟩ : ∃ L : Nat, lenB c T = L := ⟨(lenB c T).toNat, by omega⟩
  rw [hL] at hLr ⊢
  have hTL : (lenB c T).toNat = L := by omega
  refine n_istore_n (lv' := [(2, iv (L : Int)), (0, .ref (shA A 0)), (1, iv T)]) C dX2_isFineWith_5 (by rw [hN]; decide) rfl ?_
  refine n_aload_n C dX2_isFineWith_6 rfl ?_
  refine n_iload_n C dX2_isFineWith_7 rfl ?_
  refine n_invV C (k_plan hst hM hw hI (L := L) (by omega)) ⟨t4_21, t4_24, t1_1, ⟨by decide, by decide⟩, by show _ = some 1; decide +kernel, by decide⟩ t4_23 tp_13 hM.1.1 vC5 (by decide) (by omega) (by omega) (Nat.le_of_ble_eq_true rfl) rfl dX2_isFineWith_8 (fun r σ h' => ?_) (fun _ _ h => h.elim)
  obtain ⟨rfl, D1, hM, hW2⟩ := h'
  refine n_aload_n C dX2_isFineWith_11 rfl ?_
  refine n_invV C (k_manned hst hM hw hI (L := L) (by omega) hW2) ⟨t4_112, t4_115, t1_1, ⟨by decide, by decide⟩, by show _ = some 0; decide +kernel, by decide⟩ t4_114 tp_22 hM.1.1 vC5 (by decide) (by omega) (by omega) (Nat.le_of_ble_eq_true rfl) rfl dX2_isFineWith_12 (fun r σ' h' => ?_) (fun _ _ h => h.elim)
  obtain ⟨x, rfl, hσ, hx⟩ := h'
  rw [hσ]
  refine n_if_eq C 39 dX2_isFineWith_15 (by decide) (by unfold rg; omega) (fun b15 => ?_) (fun b15 => ?_)
  · refine n_iconst (x := 0) C dX2_isFineWith_39 ?_
    exact n_ireturn C Rr (nar_bv (by first | decide | omega)) ⟨0, _, rfl, hM, Or.inr ⟨rfl, fun z => by rw [hTL] at z; exact (hx.resolve_left (fun t => by omega)).2 z.2.1⟩⟩ (by omega) (by omega) dX2_isFineWith_40
  · refine n_aload_n C dX2_isFineWith_18 rfl ?_
    refine n_iload_n C dX2_isFineWith_19 rfl ?_
    refine n_invV C (k_noClash hst hM hw hI (L := L) (by omega) hW2) ⟨t4_116, t4_119, t1_1, ⟨by decide, by decide⟩, by show _ = some 1; decide +kernel, by decide⟩ t4_118 tp_23 hM.1.1 vC5 (by decide) (by omega) (by omega) (Nat.le_of_ble_eq_true rfl) rfl dX2_isFineWith_20 (fun r σ' h' => ?_) (fun _ _ h => h.elim)
    obtain ⟨y, rfl, hσ, hy⟩ := h'
    rw [hσ]
    refine n_if_eq C 39 dX2_isFineWith_23 (by decide) (by unfold rg; omega) (fun b23 => ?_) (fun b23 => ?_)
    · refine n_iconst (x := 0) C dX2_isFineWith_39 ?_
      exact n_ireturn C Rr (nar_bv (by first | decide | omega)) ⟨0, _, rfl, hM, Or.inr ⟨rfl, fun z => by rw [hTL] at z; exact (hy.resolve_left (fun t => by omega)).2 z.2.2⟩⟩ (by omega) (by omega) dX2_isFineWith_40
    · refine n_aload_n C dX2_isFineWith_26 rfl ?_
      refine n_iload_n C dX2_isFineWith_27 rfl ?_
      refine n_invV C (k_meet hst hM hw hI (L := L) (by omega)) ⟨t4_63, t4_66, t1_1, ⟨by decide, by decide⟩, by show _ = some 1; decide +kernel, by decide⟩ t4_65 tp_17 hM.1.1 vC5 (by decide) (by omega) (by omega) (Nat.le_of_ble_eq_true rfl) rfl dX2_isFineWith_28 (fun r σ h' => ?_) (fun _ _ h => h.elim)
      obtain ⟨D2, rfl, hM, -⟩ := h'
      have hmr := mtP_rg (c := c) L w0.2 (NT c L + 1)
      have hNT2 : NT c L ≤ 30 * 80 := Nat.mul_le_mul (by omega) (by omega)
      refine n_iconst (x := (-1)) C dX2_isFineWith_31 ?_
      refine n_icmp_ne C 39 dX2_isFineWith_32 (by decide) (by unfold rg; omega) (by unfold rg; omega) (fun b32 => ?_) (fun b32 => ?_)
      · refine n_iconst (x := 0) C dX2_isFineWith_39 ?_
        exact n_ireturn C Rr (nar_bv (by first | decide | omega)) ⟨0, _, rfl, hM, Or.inr ⟨rfl, fun z => by rw [hTL] at z; have := z.1; omega⟩⟩ (by omega) (by omega) dX2_isFineWith_40
      · refine n_iconst (x := 1) C dX2_isFineWith_35 ?_
        refine n_goto C 40 dX2_isFineWith_36 (by decide) ?_
        exact n_ireturn C Rr (nar_bv (by first | decide | omega)) ⟨1, _, rfl, hM, Or.inl ⟨rfl, by rw [hTL]; exact ⟨by omega, (hx.resolve_right (fun t => by omega)).2, (hy.resolve_right (fun t => by omega)).2⟩⟩⟩ (by omega) (by omega) dX2_isFineWith_40
