set_option maxRecDepth 100000 in
set_option maxHeartbeats 4000000 in
theorem p_overtime {g : Gx} (hst : g.1.stackTraces = false) {a : Int} (ha : rg a) {A : ShT} {β : Wd} {c D : Tb} {σ : Wd} (hM : CB g.2.1 A β c D σ) (hw : WF c) (hI : CI g c A)  : CT g yX2_overtime cX2_overtime 9 (some .int) 5 1 6 [.ref (shA A 0), iv a] σ (fun r σ' => ∃ (x : Int) (D' : Tb), r = some (iv x) ∧ CB g.2.1 A β c D' σ' ∧ cdWork a = 0 ∧ x = vlOver c a) (fun E σ' => σ' = σ ∧ ((E = "java/lang/IllegalArgumentException" ∧ cdWork a = 1))) := by
  refine CT.of hst (by decide +kernel) (Nat.le_of_ble_eq_true rfl) (fun Φ C Rr hY hN => ?_)
  show N Φ 0 0 σ 0 [(0, .ref (shA A 0)), (1, iv a)] []
  unfold rg at ha
  obtain ⟨w0, w6, w12, w13, w14, w15, w16, wm, wq, ww⟩ := id hw
  obtain ⟨n0, hn0⟩ : ∃ n : Nat, c 0 0 = n := ⟨(c 0 0).toNat, by omega⟩
  obtain ⟨n6, hn6⟩ : ∃ n : Nat, c 6 0 = n := ⟨(c 6 0).toNat, by omega⟩
  have hl0 : nL3 c 0 = n0 := hn0
  have hl1 : nL3 c 1 = n6 := hn6
  have hl2 : nL3 c 2 = n6 := hn6
  have hLr := lenB_rg hw (T := c 14 0) (by omega)
  obtain ⟨L, hL⟩ : ∃ L : Nat, lenB c (c 14 0) = L := ⟨(lenB c (c 14 0)).toNat, by omega⟩
  have hLL : LL c = L := by unfold LL; omega
  rw [hL] at hLr
  refine n_iload_n C dX2_overtime_0 rfl ?_
  refine n_invS C (k_isWorker hst (by unfold rg; omega)) ⟨t2_109, t2_111, t1_1, ⟨by decide, by decide⟩, by show _ = some 1; decide +kernel, by decide⟩ t2_110 (by decide) (by omega) (by omega) (Nat.le_of_ble_eq_true rfl) rfl dX2_overtime_1 (fun r σ' h' => ?_) (fun _ _ h => h.elim)
  obtain ⟨x, rfl, hσ, hx⟩ := h'
  rw [hσ]
  refine n_invS C (k_allow hst (by omega)) ⟨t1_113, t1_115, t1_1, ⟨by decide, by decide⟩, by show _ = some 1; decide +kernel, by decide⟩ t1_114 (by decide) (by omega) (by omega) (Nat.le_of_ble_eq_true rfl) rfl dX2_overtime_4 (fun r σ' h' => ?_) (fun E σ' h' => by
      obtain ⟨rfl, rfl, hz⟩ := h'
      exact n_out C Rr ⟨rfl, ⟨rfl, by unfold cdWork; rw [if_neg (by omega)]⟩⟩ (by omega) (by omega))
  obtain ⟨rfl, hσ, hz⟩ := h'
  rw [hσ]
  have hcd : cdWork a = 0 := by unfold cdWork; rw [if_pos (by omega)]
  refine n_aload_n C dX2_overtime_7 rfl ?_
  refine n_aload_n C dX2_overtime_8 rfl ?_
  refine n_get C hM.1.1 vC5 vI5 7 (by decide) t1_70 rfl rfl dX2_overtime_9 ?_
  refine n_invV C (k_barTicks hst (T := c 14 0) (by omega) hM hw hI) ⟨t3_199, t3_202, t1_1, ⟨by decide, by decide⟩, by show _ = some 1; decide +kernel, by decide⟩ t3_201 tp_12 hM.1.1 vC5 (by decide) (by omega) (by omega) (Nat.le_of_ble_eq_true rfl) rfl dX2_overtime_12 (fun r σ' h' => ?_) (fun _ _ h => h.elim)
  obtain ⟨rfl, hσ⟩ := h'
  rw [hσ, hL]
  refine n_istore_n (lv' := [(2, iv (L : Int)), (0, .ref (shA A 0)), (1, iv a)]) C dX2_overtime_15 (by rw [hN]; decide) rfl ?_
  refine n_aload_n C dX2_overtime_16 rfl ?_
  refine n_iload_n C dX2_overtime_17 rfl ?_
  refine n_invV C (k_plan hst hM hw hI (L := L) (by omega)) ⟨t4_21, t4_24, t1_1, ⟨by decide, by decide⟩, by show _ = some 1; decide +kernel, by decide⟩ t4_23 tp_13 hM.1.1 vC5 (by decide) (by omega) (by omega) (Nat.le_of_ble_eq_true rfl) rfl dX2_overtime_18 (fun r σ h' => ?_) (fun _ _ h => h.elim)
  obtain ⟨rfl, D1, hM, hW2⟩ := h'
  have hNT : ((NT c L : Nat) : Int) ≤ 2400 := by
    unfold NT
    rw [Int.natCast_mul]
    have z1 : ((c 12 0).toNat : Int) * (L : Int) ≤ 30 * (L : Int) := Int.mul_le_mul_of_nonneg_right (by omega) (by omega)
    omega
  have hBq : ∀ q : Nat, 0 ≤ c 7 q * (L : Int) ∧ c 7 q * (L : Int) ≤ 2400 := fun q => by
    have z := (wq q).1
    have z1 : c 7 q * (L : Int) ≤ 30 * (L : Int) := Int.mul_le_mul_of_nonneg_right (by omega) (by omega)
    exact ⟨Int.mul_nonneg z.1 (by omega), by omega⟩
  have hOF : ∀ (q : Nat) (v : Int), (q : Int) < c 6 0 → (ofP c (bB c L) (eE c L) q v ↔ 0 < cnt c L q (NT c L) ∧ wOf c q = v) := fun q v hq => of_cl (by omega) w6.2 hq
  have hsO : ∀ k l : Nat, k < l → (l : Int) < c 6 0 → aL c L (shO A k) (shO A l) := fun k l h1 h2 => aL_of (by omega) (hI.2.2.2.2.1 k l h1 h2)
  have hsu := hI.2.2.2.2.2.1
  have hin : ∀ k : Nat, (k : Int) < c 6 0 → (shO A k : Int) < c 6 0 := fun k hk => (hI.2.2.2.1 k hk).2
  obtain ⟨NN, hNN⟩ : ∃ NN : Nat, NT c L - (c 16 0).toNat = NN := ⟨_, rfl⟩
  refine n_iconst (x := 0) C dX2_overtime_21 ?_
  refine n_istore_n (lv' := [(3, iv 0), (2, iv (L : Int)), (0, .ref (shA A 0)), (1, iv a)]) C dX2_overtime_22 (by rw [hN]; decide) rfl ?_
  refine n_aload_n C dX2_overtime_23 rfl ?_
  refine n_get C hM.1.1 vC5 vI5 9 (by decide) t1_72 rfl rfl dX2_overtime_24 ?_
  refine n_istore (lv' := [(4, iv (c 16 0)), (3, iv 0), (2, iv (L : Int)), (0, .ref (shA A 0)), (1, iv a)]) C dX2_overtime_27 (by rw [hN]; decide) rfl ?_
  refine n_iconst (x := 0) C dX2_overtime_29 ?_
  refine n_istore (lv' := [(5, iv 0), (4, iv (c 16 0)), (3, iv 0), (2, iv (L : Int)), (0, .ref (shA A 0)), (1, iv a)]) C dX2_overtime_30 (by rw [hN]; decide) rfl ?_
  refine n_widen (k' := 1) (n' := 6) (by omega) (by omega) ?_
  have LP : ∀ (fu : Nat) (k : Nat) (z fr : Int) (hsw : swQ c L a (shO A) k fr) (hz1 : z = smN (fun t => uoQ c L a (shO A) (c 16 0 + t) k) NN) (hz : 0 ≤ z ∧ z ≤ 10000 * (k : Int)) (hfr : fr ≤ 5000) (hk : k ≤ n6) (hf : n6 + 1 ≤ k + fu), N Φ 1 6 σ 32 [(5, iv (k : Int)), (4, iv fr), (3, iv z), (2, iv (L : Int)), (0, .ref (shA A 0)), (1, iv a)] [] := by
    intro fu
    induction fu with
    | zero =>
      intro k z fr hsw hz1 hz hfr hk hf
      omega
    | succ fu ih =>
      intro k z fr hsw hz1 hz hfr hk hf
      refine n_iload C dX2_overtime_32 rfl ?_
      refine n_aload_n C dX2_overtime_34 rfl ?_
      refine n_get C hM.1.1 vC5 vI5 2 (by decide) t1_65 rfl rfl dX2_overtime_35 ?_
      refine n_invV C (c_size hst (hM.1.lst hw hI (j := 2) (by decide) hl2)) ⟨t1_188, t1_191, t1_4, ⟨by decide, by decide⟩, by show _ = some 0; decide +kernel, by decide⟩ t1_189 t1_190 (hM.1.2.1 2 (by decide)) cJ (by decide) (by omega) (by omega) (Nat.le_of_ble_eq_true rfl) rfl dX2_overtime_38 (fun r σ' h' => ?_) (fun _ _ h => h.elim)
      obtain ⟨rfl, hσ⟩ := h'
      rw [hσ]
      refine n_icmp_ge C 127 dX2_overtime_41 (by decide) (by unfold rg; omega) (by unfold rg; omega) (fun b41 => ?_) (fun b41 => ?_)
      · refine n_iload_n C dX2_overtime_127 rfl ?_
        exact n_ireturn C Rr rfl ⟨_, D1, rfl, hM, hcd, by unfold vlOver; rw [hLL, hNN, ov_sm (s := shO A) hn6 hsu hin, hz1, show k = n6 by omega]⟩ (by omega) (by omega) dX2_overtime_128
      · refine n_aload_n C dX2_overtime_44 rfl ?_
        refine n_get C hM.1.1 vC5 vI5 2 (by decide) t1_65 rfl rfl dX2_overtime_45 ?_
        refine n_iload C dX2_overtime_48 rfl ?_
        refine n_invV C (c_get hst (hM.1.lst hw hI (j := 2) (by decide) hl2) (i := k) (by omega) (hI.2.2.2.1 k (by omega)).1) ⟨t2_87, t2_90, t1_4, ⟨by decide, by decide⟩, by show _ = some 1; decide +kernel, by decide⟩ t2_88 t2_89 (hM.1.2.1 2 (by decide)) cJ (by decide) (by omega) (by omega) (Nat.le_of_ble_eq_true rfl) rfl dX2_overtime_50 (fun r σ' h' => ?_) (fun _ _ h => h.elim)
        obtain ⟨rfl, hσ⟩ := h'
        rw [hσ]
        obtain ⟨q, hqe⟩ : ∃ q : Nat, shO A k = q := ⟨_, rfl⟩
        have hq := hin k (by omega)
        rw [hqe] at hq
        rw [hqe]
        have hDk := hW2 q hq
        have hck := cnt_rg c L q (NT c L)
        have hwk := wOf_rg hw q
        have hof := hOF q a hq
        have hB := hBq q
        have hw7 := (wq q).1
        have eB : bB c L q = c 7 q * (L : Int) := rfl
        have eEq : eE c L q = c 7 q * (L : Int) + cnt c L q (NT c L) := rfl
        have hBle := cnt_le (c := c) (L := L) (q := q) (by omega) w6.2 hB.1 (NT c L)
        have hB0 := cnt_0 (c := c) (L := L) (q := q) (by omega) w6.2 (NT c L)
        have hfr1 := hsw.1
        have hEN : eE c L q ≤ c 16 0 + NN ∨ eE c L q ≤ c 16 0 ∨ cnt c L q (NT c L) = 0 := by
          by_cases z : c 7 q * (L : Int) ≤ ((NT c L : Nat) : Int)
          · have := hBle z
            omega
          · exact Or.inr (Or.inr (hB0 (by omega)))
        refine n_cast C (hM.qi (q := q) hq) vC3 t2_113 dX2_overtime_53 ?_
        refine n_astore (lv' := [(6, .ref (shA A (30 + q))), (5, iv (k : Int)), (4, iv fr), (3, iv z), (2, iv (L : Int)), (0, .ref (shA A 0)), (1, iv a)]) C dX2_overtime_56 (by rw [hN]; decide) rfl ?_
        refine n_aload C dX2_overtime_58 rfl ?_
        refine n_get C (hM.qi (q := q) hq) vC3 vI3 5 (by decide) t2_129 rfl rfl dX2_overtime_60 ?_
        refine n_if_le C 121 dX2_overtime_63 (by decide) (by unfold rg; omega) (fun b63 => ?_) (fun b63 => ?_)
        · have hno : ¬ ofP c (bB c L) (eE c L) q a := fun t => by have := hof.mp t; omega
          have hs1 := sw_skip hsw hz1 (by rw [hqe]; exact hno)
          refine n_iinc (lv' := [(5, iv ((k : Int) + 1)), (6, .ref (shA A (30 + q))), (4, iv fr), (3, iv z), (2, iv (L : Int)), (0, .ref (shA A 0)), (1, iv a)]) C dX2_overtime_121 rfl (by rw [hN]; decide) rfl ?_
          refine n_goto C 32 dX2_overtime_124 (by decide) ?_
          refine n_keep (lv' := [(5, iv ((k : Int) + 1)), (4, iv fr), (3, iv z), (2, iv (L : Int)), (0, .ref (shA A 0)), (1, iv a)]) [5, 4, 3, 2, 0, 1] rfl ?_
          exact ih (k + 1) z fr hs1.1 hs1.2 (by omega) (by omega) (by omega) (by omega)
        · refine n_aload_n C dX2_overtime_66 rfl ?_
          refine n_aload C dX2_overtime_67 rfl ?_
          refine n_invV C (k_wT hst hM hw hI (q := q) (by omega)) ⟨t4_49, t4_52, t1_1, ⟨by decide, by decide⟩, by show _ = some 1; decide +kernel, by decide⟩ t4_51 tp_16 hM.1.1 vC5 (by decide) (by omega) (by omega) (Nat.le_of_ble_eq_true rfl) rfl dX2_overtime_69 (fun r σ' h' => ?_) (fun _ _ h => h.elim)
          obtain ⟨rfl, hσ⟩ := h'
          rw [hσ]
          refine n_iload_n C dX2_overtime_72 rfl ?_
          refine n_icmp_ne C 121 dX2_overtime_73 (by decide) (by unfold rg; omega) (by unfold rg; omega) (fun b73 => ?_) (fun b73 => ?_)
          · have hno : ¬ ofP c (bB c L) (eE c L) q a := fun t => by have := hof.mp t; omega
            have hs1 := sw_skip hsw hz1 (by rw [hqe]; exact hno)
            refine n_iinc (lv' := [(5, iv ((k : Int) + 1)), (6, .ref (shA A (30 + q))), (4, iv fr), (3, iv z), (2, iv (L : Int)), (0, .ref (shA A 0)), (1, iv a)]) C dX2_overtime_121 rfl (by rw [hN]; decide) rfl ?_
            refine n_goto C 32 dX2_overtime_124 (by decide) ?_
            refine n_keep (lv' := [(5, iv ((k : Int) + 1)), (4, iv fr), (3, iv z), (2, iv (L : Int)), (0, .ref (shA A 0)), (1, iv a)]) [5, 4, 3, 2, 0, 1] rfl ?_
            exact ih (k + 1) z fr hs1.1 hs1.2 (by omega) (by omega) (by omega) (by omega)
          · have hyes : ofP c (bB c L) (eE c L) q a := hof.mpr ⟨by omega, by omega⟩
            have hs1 := sw_step hsO (by omega) hsw hz1 (by rw [hqe]; exact hyes) (by rw [hqe]; omega)
            rw [hqe, eB, eEq, ← hDk] at hs1
            refine n_aload C dX2_overtime_76 rfl ?_
            refine n_get C (hM.qi (q := q) hq) vC3 vI3 1 (by decide) t2_122 rfl rfl dX2_overtime_78 ?_
            refine n_iload_n C dX2_overtime_81 rfl ?_
            refine n_imul C dX2_overtime_82 ?_
            refine n_istore (lv' := [(7, iv ((c 7 q) * (L : Int))), (6, .ref (shA A (30 + q))), (5, iv (k : Int)), (4, iv fr), (3, iv z), (2, iv (L : Int)), (0, .ref (shA A 0)), (1, iv a)]) C dX2_overtime_83 (by rw [hN]; decide) rfl ?_
            refine n_iload C dX2_overtime_85 rfl ?_
            refine n_aload C dX2_overtime_87 rfl ?_
            refine n_get C (hM.qi (q := q) hq) vC3 vI3 5 (by decide) t2_129 rfl rfl dX2_overtime_89 ?_
            refine n_iadd C dX2_overtime_92 ?_
            refine n_istore (lv' := [(8, iv (((c 7 q) * (L : Int)) + (D1 2 q))), (7, iv ((c 7 q) * (L : Int))), (6, .ref (shA A (30 + q))), (5, iv (k : Int)), (4, iv fr), (3, iv z), (2, iv (L : Int)), (0, .ref (shA A 0)), (1, iv a)]) C dX2_overtime_93 (by rw [hN]; decide) rfl ?_
            refine n_iload_n C dX2_overtime_95 rfl ?_
            refine n_iconst (x := 0) C dX2_overtime_96 ?_
            refine n_iload C dX2_overtime_97 rfl ?_
            refine n_iload C dX2_overtime_99 rfl ?_
            refine n_iload C dX2_overtime_101 rfl ?_
            refine n_max C (by unfold rg; omega) (by unfold rg; omega) t3_203 t2_23 t1_12 t2_24 (Nat.le_of_ble_eq_true rfl) (by omega) (by omega) dX2_overtime_103 ?_
            refine n_isub C dX2_overtime_106 ?_
            refine n_max C (by unfold rg; omega) (by unfold rg; omega) t3_203 t2_23 t1_12 t2_24 (Nat.le_of_ble_eq_true rfl) (by omega) (by omega) dX2_overtime_107 ?_
            refine n_iadd C dX2_overtime_110 ?_
            refine n_istore_n (lv' := [(3, iv (z + (max 0 ((((c 7 q) * (L : Int)) + (D1 2 q)) - (max fr ((c 7 q) * (L : Int))))))), (8, iv (((c 7 q) * (L : Int)) + (D1 2 q))), (7, iv ((c 7 q) * (L : Int))), (6, .ref (shA A (30 + q))), (5, iv (k : Int)), (4, iv fr), (2, iv (L : Int)), (0, .ref (shA A 0)), (1, iv a)]) C dX2_overtime_111 (by rw [hN]; decide) rfl ?_
            refine n_iload C dX2_overtime_112 rfl ?_
            refine n_iload C dX2_overtime_114 rfl ?_
            refine n_max C (by unfold rg; omega) (by unfold rg; omega) t3_203 t2_23 t1_12 t2_24 (Nat.le_of_ble_eq_true rfl) (by omega) (by omega) dX2_overtime_116 ?_
            refine n_istore (lv' := [(4, iv (max fr (((c 7 q) * (L : Int)) + (D1 2 q)))), (3, iv (z + (max 0 ((((c 7 q) * (L : Int)) + (D1 2 q)) - (max fr ((c 7 q) * (L : Int))))))), (8, iv (((c 7 q) * (L : Int)) + (D1 2 q))), (7, iv ((c 7 q) * (L : Int))), (6, .ref (shA A (30 + q))), (5, iv (k : Int)), (2, iv (L : Int)), (0, .ref (shA A 0)), (1, iv a)]) C dX2_overtime_119 (by rw [hN]; decide) rfl ?_
            refine n_iinc (lv' := [(5, iv ((k : Int) + 1)), (4, iv (max fr (((c 7 q) * (L : Int)) + (D1 2 q)))), (3, iv (z + (max 0 ((((c 7 q) * (L : Int)) + (D1 2 q)) - (max fr ((c 7 q) * (L : Int))))))), (8, iv (((c 7 q) * (L : Int)) + (D1 2 q))), (7, iv ((c 7 q) * (L : Int))), (6, .ref (shA A (30 + q))), (2, iv (L : Int)), (0, .ref (shA A 0)), (1, iv a)]) C dX2_overtime_121 rfl (by rw [hN]; decide) rfl ?_
            refine n_goto C 32 dX2_overtime_124 (by decide) ?_
            refine n_keep (lv' := [(5, iv ((k : Int) + 1)), (4, iv (max fr (((c 7 q) * (L : Int)) + (D1 2 q)))), (3, iv (z + (max 0 ((((c 7 q) * (L : Int)) + (D1 2 q)) - (max fr ((c 7 q) * (L : Int))))))), (2, iv (L : Int)), (0, .ref (shA A 0)), (1, iv a)]) [5, 4, 3, 2, 0, 1] rfl ?_
            exact ih (k + 1) _ _ hs1.1 hs1.2 (by omega) (by omega) (by omega) (by omega)
  exact LP 25 0 0 (c 16 0) (sw_0 NN).1 (sw_0 NN).2 (by omega) (by omega) (by omega) (by omega)
set_option maxRecDepth 100000 in
set_option maxHeartbeats 4000000 in
theorem p_place {g : Gx} (hst : g.1.stackTraces = false) {a t : Int} (ha : rg a) (ht : rg t) {A : ShT} {β : Wd} {c D : Tb} {σ : Wd} (hM : CB g.2.1 A β c D σ) (hw : WF c) (hI : CI g c A)  : CT g yX2_place cX2_place 8 (some .int) 4 2 12 [.ref (shA A 0), iv a, iv t] σ (fun r σ' => ∃ (x : Int) (D' : Tb), r = some (iv x) ∧ CB g.2.1 A β c D' σ' ∧ cdPlace c a t = 0 ∧ x = vlPlace c a t) (fun E σ' => σ' = σ ∧ ((E = "java/lang/IndexOutOfBoundsException" ∧ cdPlace c a t = 1) ∨ (E = "java/lang/IllegalArgumentException" ∧ cdPlace c a t = 2))) := by
  refine CT.of hst (by decide +kernel) (Nat.le_of_ble_eq_true rfl) (fun Φ C Rr hY hN => ?_)
  show N Φ 0 0 σ 0 [(0, .ref (shA A 0)), (1, iv a), (2, iv t)] []
  unfold rg at ha
  unfold rg at ht
  obtain ⟨w0, w6, w12, w13, w14, w15, w16, wm, wq, ww⟩ := id hw
  obtain ⟨n0, hn0⟩ : ∃ n : Nat, c 0 0 = n := ⟨(c 0 0).toNat, by omega⟩
  obtain ⟨n6, hn6⟩ : ∃ n : Nat, c 6 0 = n := ⟨(c 6 0).toNat, by omega⟩
  have hl0 : nL3 c 0 = n0 := hn0
  have hl1 : nL3 c 1 = n6 := hn6
  have hl2 : nL3 c 2 = n6 := hn6
  have hLr := lenB_rg hw (T := c 14 0) (by omega)
  obtain ⟨L, hL⟩ : ∃ L : Nat, lenB c (c 14 0) = L := ⟨(lenB c (c 14 0)).toNat, by omega⟩
  have hLL : LL c = L := by unfold LL; omega
  rw [hL] at hLr
  have hend : 0 ≤ c 12 0 * (L : Int) ∧ c 12 0 * (L : Int) ≤ 2400 := by
    have z1 : c 12 0 * (L : Int) ≤ 30 * (L : Int) := Int.mul_le_mul_of_nonneg_right (by omega) (by omega)
    exact ⟨Int.mul_nonneg (by omega) (by omega), by omega⟩
  refine n_aload_n C dX2_place_0 rfl ?_
  refine n_iload_n C dX2_place_1 rfl ?_
  refine n_invV C (k_machine hst (by unfold rg; omega) hM hw hI) ⟨t2_67, t2_70, t1_1, ⟨by decide, by decide⟩, by show _ = some 1; decide +kernel, by decide⟩ t2_69 tp_6 hM.1.1 vC5 (by decide) (by omega) (by omega) (Nat.le_of_ble_eq_true rfl) rfl dX2_place_2 (fun r σ' h' => ?_) (fun E σ' h' => by
      obtain ⟨rfl, rfl, hz⟩ := h'
      exact n_out C Rr ⟨rfl, Or.inl ⟨rfl, by unfold cdPlace; rw [if_neg hz]⟩⟩ (by omega) (by omega))
  obtain ⟨i, rfl, rfl, hi, hσ⟩ := h'
  rw [hσ]
  refine n_astore_n (lv' := [(3, .ref (shA A (10 + i))), (0, .ref (shA A 0)), (1, iv (i : Int)), (2, iv t)]) C dX2_place_5 (by rw [hN]; decide) rfl ?_
  refine n_aload_n C dX2_place_6 rfl ?_
  refine n_aload_n C dX2_place_7 rfl ?_
  refine n_get C hM.1.1 vC5 vI5 7 (by decide) t1_70 rfl rfl dX2_place_8 ?_
  refine n_invV C (k_barTicks hst (T := c 14 0) (by omega) hM hw hI) ⟨t3_199, t3_202, t1_1, ⟨by decide, by decide⟩, by show _ = some 1; decide +kernel, by decide⟩ t3_201 tp_12 hM.1.1 vC5 (by decide) (by omega) (by omega) (Nat.le_of_ble_eq_true rfl) rfl dX2_place_11 (fun r σ' h' => ?_) (fun _ _ h => h.elim)
  obtain ⟨rfl, hσ⟩ := h'
  rw [hσ, hL]
  refine n_istore (lv' := [(4, iv (L : Int)), (3, .ref (shA A (10 + i))), (0, .ref (shA A 0)), (1, iv (i : Int)), (2, iv t)]) C dX2_place_14 (by rw [hN]; decide) rfl ?_
  refine n_iload_n C dX2_place_16 rfl ?_
  refine n_iconst (x := 0) C dX2_place_17 ?_
  refine n_aload_n C dX2_place_18 rfl ?_
  refine n_get C hM.1.1 vC5 vI5 5 (by decide) t1_68 rfl rfl dX2_place_19 ?_
  refine n_iload C dX2_place_22 rfl ?_
  refine n_imul C dX2_place_24 ?_
  refine n_invS C (k_within hst (by unfold rg; omega) (by unfold rg; omega) (by unfold rg; omega)) ⟨t1_110, t1_112, t1_1, ⟨by decide, by decide⟩, by show _ = some 3; decide +kernel, by decide⟩ t1_111 (by decide) (by omega) (by omega) (Nat.le_of_ble_eq_true rfl) rfl dX2_place_25 (fun r σ' h' => ?_) (fun _ _ h => h.elim)
  obtain ⟨x, rfl, hσ, hx⟩ := h'
  rw [hσ]
  refine n_invS C (k_allow hst (by omega)) ⟨t1_113, t1_115, t1_1, ⟨by decide, by decide⟩, by show _ = some 1; decide +kernel, by decide⟩ t1_114 (by decide) (by omega) (by omega) (Nat.le_of_ble_eq_true rfl) rfl dX2_place_28 (fun r σ' h' => ?_) (fun E σ' h' => by
      obtain ⟨rfl, rfl, hz⟩ := h'
      exact n_out C Rr ⟨rfl, Or.inr (⟨rfl, by unfold cdPlace; rw [if_pos (by omega), if_neg (by rw [hL]; omega)]⟩)⟩ (by omega) (by omega))
  obtain ⟨rfl, hσ, hz⟩ := h'
  rw [hσ]
  have hcd : cdPlace c (i : Int) t = 0 := by unfold cdPlace; rw [if_pos (by omega), if_pos (by rw [hL]; omega)]
  obtain ⟨τ, rfl⟩ : ∃ τ : Nat, t = τ := ⟨t.toNat, by omega⟩
  refine n_aload_n C dX2_place_31 rfl ?_
  refine n_invV C (c_rewind hst (hM.mi (i := i) hi) (tk_rg hw i)) ⟨t3_211, t3_214, t1_10, ⟨by decide, by decide⟩, by show _ = some 0; decide +kernel, by decide⟩ t3_212 t3_213 (hM.mi (i := i) hi) vC4 (by decide) (by omega) (by omega) (Nat.le_of_ble_eq_true rfl) rfl dX2_place_32 (fun r σ1 h' => ?_) (fun _ _ h => h.elim)
  obtain ⟨rfl, p1, p2⟩ := h'
  have hup : σ1 (shA A (10 + i)) = some (.inr (4, ctM A c (tu (tu D 0 i (c 5 i)) 1 i (-1)) i)) := by
    unfold ctM
    rw [tu_k (by decide), tu_s, tu_s, rfQ_m]
    exact p1
  replace hM : CB g.2.1 A β c (tu (tu D 0 i (c 5 i)) 1 i (-1)) σ1 := CB.mac hw hI hM (i := i) hi hup (fun j hj => by constructor <;> simp only [tu_j hj]) (fun j hj => by simp only [tu_k (show (2 : Nat) ≠ 0 by decide), tu_k (show (2 : Nat) ≠ 1 by decide)]) p2 (Or.inl (tu_s ..))
  refine n_iconst (x := 0) C dX2_place_35 ?_
  refine n_istore (lv' := [(5, iv 0), (4, iv (L : Int)), (3, .ref (shA A (10 + i))), (0, .ref (shA A 0)), (1, iv (i : Int)), (2, iv (τ : Int))]) C dX2_place_36 (by rw [hN]; decide) rfl ?_
  refine n_iconst (x := 0) C dX2_place_38 ?_
  refine n_istore (lv' := [(6, iv 0), (5, iv 0), (4, iv (L : Int)), (3, .ref (shA A (10 + i))), (0, .ref (shA A 0)), (1, iv (i : Int)), (2, iv (τ : Int))]) C dX2_place_39 (by rw [hN]; decide) rfl ?_
  refine n_widen (k' := 2) (n' := 12) (by omega) (by omega) ?_
  have LP : ∀ (fu : Nat) (b gn : Nat) (σ : Wd) (D1 : Tb) (hM : CB g.2.1 A β c D1 σ) (h0 : D1 0 i = (tr c L i gn).1) (hgb : (gn = b * L ∧ D1 1 i = (tr c L i gn).2) ∨ gn = τ) (hgt2 : gn ≤ τ) (hb2 : (b : Int) ≤ c 12 0) (hf : c 12 0 + 1 ≤ b + fu), N Φ 2 12 σ 41 [(6, iv (b : Int)), (5, iv (gn : Int)), (4, iv (L : Int)), (3, .ref (shA A (10 + i))), (0, .ref (shA A 0)), (1, iv (i : Int)), (2, iv (τ : Int))] [] := by
    intro fu
    induction fu with
    | zero =>
      intro b gn σ D1 hM h0 hgb hgt2 hb2 hf
      omega
    | succ fu ih =>
      intro b gn σ D1 hM h0 hgb hgt2 hb2 hf
      refine n_iload C dX2_place_41 rfl ?_
      refine n_aload_n C dX2_place_43 rfl ?_
      refine n_get C hM.1.1 vC5 vI5 5 (by decide) t1_68 rfl rfl dX2_place_44 ?_
      refine n_icmp_ge C 99 dX2_place_47 (by decide) (by unfold rg; omega) (by unfold rg; omega) (fun b47 => ?_) (fun b47 => ?_)
      · have hgt : gn = τ := by
          rcases hgb with ⟨q, -⟩ | q
          · have e7 : ((b * L : Nat) : Int) = c 12 0 * (L : Int) := by rw [Int.natCast_mul, show (b : Int) = c 12 0 by omega]
            omega
          · exact q
        refine n_aload_n C dX2_place_99 rfl ?_
        refine n_get C (hM.mi (i := i) hi) vC4 vI4 5 (by decide) t1_222 rfl rfl dX2_place_100 ?_
        exact n_ireturn C Rr rfl ⟨_, D1, rfl, hM, hcd, by rw [h0, hgt]; unfold vlPlace; rw [hLL, Int.toNat_natCast, Int.toNat_natCast]⟩ (by omega) (by omega) dX2_place_103
      · refine n_iload C dX2_place_50 rfl ?_
        refine n_iload_n C dX2_place_52 rfl ?_
        refine n_icmp_ge C 99 dX2_place_53 (by decide) (by unfold rg; omega) (by unfold rg; omega) (fun b53 => ?_) (fun b53 => ?_)
        · have hgt : gn = τ := by omega
          refine n_aload_n C dX2_place_99 rfl ?_
          refine n_get C (hM.mi (i := i) hi) vC4 vI4 5 (by decide) t1_222 rfl rfl dX2_place_100 ?_
          exact n_ireturn C Rr rfl ⟨_, D1, rfl, hM, hcd, by rw [h0, hgt]; unfold vlPlace; rw [hLL, Int.toNat_natCast, Int.toNat_natCast]⟩ (by omega) (by omega) dX2_place_103
        · obtain ⟨hg1, hg2⟩ := hgb.resolve_right (fun q => by omega)
          have hb : b < 30 := by omega
          have hdp : 0 ≤ D1 0 i ∧ D1 0 i ≤ 359 := by rw [h0]; exact tr_rg hw L i _
          refine n_aload_n C dX2_place_56 rfl ?_
          refine n_iload C dX2_place_57 rfl ?_
          refine n_invV C (c_startBar hst (hM.mi (i := i) hi) (tk_rg hw i) (hM.ro (i := i) hi) hb) ⟨t3_215, t3_218, t1_10, ⟨by decide, by decide⟩, by show _ = some 1; decide +kernel, by decide⟩ t3_216 t3_217 (hM.mi (i := i) hi) vC4 (by decide) (by omega) (by omega) (Nat.le_of_ble_eq_true rfl) rfl dX2_place_59 (fun r σ1 h' => ?_) (fun _ _ h => h.elim)
          obtain ⟨rfl, p1, p2⟩ := h'
          have hup : σ1 (shA A (10 + i)) = some (.inr (4, ctM A c (tu D1 1 i (if eff c i b = -1 then D1 1 i else eff c i b)) i)) := by
            unfold ctM
            rw [tu_k (by decide), tu_s]
            rw [sh_r hI hi hb] at p1
            by_cases z : eff c i b = -1
            · rw [if_pos z]
              rw [z] at p1
              exact p1
            · rw [if_neg z]
              rcases eff_q hw i b with z1 | ⟨q, z1, z2⟩
              · exact absurd z1 z
              · rw [z1, rfQ_n] at p1
                rw [z1, rfQ_n]
                exact p1
          replace hM : CB g.2.1 A β c (tu D1 1 i (if eff c i b = -1 then D1 1 i else eff c i b)) σ1 := CB.mac hw hI hM (i := i) hi hup (fun j hj => by constructor <;> simp only [tu_j hj] <;> rw [tu_k (by decide)]) (fun j hj => by simp only [tu_k (show (2 : Nat) ≠ 0 by decide), tu_k (show (2 : Nat) ≠ 1 by decide)]) p2 (by
              rw [tu_s]
              split
              · exact hM.2.2 i hi
              · exact eff_q hw i b)
          have hRB : (if eff c i b = -1 then D1 1 i else eff c i b) = RB c L b i := by rw [rb_eff (by omega), hg2, hg1]
          rw [hRB] at hM
          refine n_iconst (x := 0) C dX2_place_62 ?_
          refine n_istore (lv' := [(7, iv 0), (6, iv (b : Int)), (5, iv (gn : Int)), (4, iv (L : Int)), (3, .ref (shA A (10 + i))), (0, .ref (shA A 0)), (1, iv (i : Int)), (2, iv (τ : Int))]) C dX2_place_63 (by rw [hN]; decide) rfl ?_
          have LP2 : ∀ (fuX : Nat) (s : Nat) (σ : Wd) (D2 : Tb) (hM : CB g.2.1 A β c D2 σ) (hp0 : D2 0 i = (tr c L i (b * L + s)).1) (hp1 : D2 1 i = RB c L b i) (h1 : s ≤ L) (h2 : b * L + s ≤ τ) (h3 : L + 1 ≤ s + fuX), N Φ 2 12 σ 65 [(7, iv (s : Int)), (6, iv (b : Int)), (5, iv ((b * L + s : Nat) : Int)), (4, iv (L : Int)), (3, .ref (shA A (10 + i))), (0, .ref (shA A 0)), (1, iv (i : Int)), (2, iv (τ : Int))] [] := by
            intro fuX
            induction fuX with
            | zero =>
              intro s σ D2 hM hp0 hp1 h1 h2 h3
              omega
            | succ fuX ih2 =>
              intro s σ D2 hM hp0 hp1 h1 h2 h3
              refine n_iload C dX2_place_65 rfl ?_
              refine n_iload C dX2_place_67 rfl ?_
              refine n_icmp_ge C 93 dX2_place_69 (by decide) (by unfold rg; omega) (by unfold rg; omega) (fun b69 => ?_) (fun b69 => ?_)
              · refine n_iinc (lv' := [(6, iv ((b : Int) + 1)), (7, iv (s : Int)), (5, iv ((b * L + s : Nat) : Int)), (4, iv (L : Int)), (3, .ref (shA A (10 + i))), (0, .ref (shA A 0)), (1, iv (i : Int)), (2, iv (τ : Int))]) C dX2_place_93 rfl (by rw [hN]; decide) rfl ?_
                refine n_goto C 41 dX2_place_96 (by decide) ?_
                refine n_keep (lv' := [(6, iv ((b : Int) + 1)), (5, iv ((b * L + s : Nat) : Int)), (4, iv (L : Int)), (3, .ref (shA A (10 + i))), (0, .ref (shA A 0)), (1, iv (i : Int)), (2, iv (τ : Int))]) [6, 5, 4, 3, 0, 1, 2] rfl ?_
                have e6 : (b + 1) * L = b * L + L := Nat.succ_mul b L
                exact ih (b + 1) (b * L + s) σ D2 hM hp0 (Or.inl ⟨by omega, by rw [hp1, show s = L by omega, rb_at L (by omega) (Nat.le_refl L)]⟩) (by omega) (by omega) (by omega)
              · refine n_iload C dX2_place_72 rfl ?_
                refine n_iload_n C dX2_place_74 rfl ?_
                refine n_icmp_ge C 93 dX2_place_75 (by decide) (by unfold rg; omega) (by unfold rg; omega) (fun b75 => ?_) (fun b75 => ?_)
                · refine n_iinc (lv' := [(6, iv ((b : Int) + 1)), (7, iv (s : Int)), (5, iv ((b * L + s : Nat) : Int)), (4, iv (L : Int)), (3, .ref (shA A (10 + i))), (0, .ref (shA A 0)), (1, iv (i : Int)), (2, iv (τ : Int))]) C dX2_place_93 rfl (by rw [hN]; decide) rfl ?_
                  refine n_goto C 41 dX2_place_96 (by decide) ?_
                  refine n_keep (lv' := [(6, iv ((b : Int) + 1)), (5, iv ((b * L + s : Nat) : Int)), (4, iv (L : Int)), (3, .ref (shA A (10 + i))), (0, .ref (shA A 0)), (1, iv (i : Int)), (2, iv (τ : Int))]) [6, 5, 4, 3, 0, 1, 2] rfl ?_
                  have e6 : (b + 1) * L = b * L + L := Nat.succ_mul b L
                  exact ih (b + 1) (b * L + s) σ D2 hM hp0 (Or.inr (by omega)) (by omega) (by omega) (by omega)
                · have hdp : 0 ≤ D2 0 i ∧ D2 0 i ≤ 359 := by rw [hp0]; exact tr_rg hw L i _
                  have wk := (wm i).2.2.2.2.1
                  have hga := aim_rg hw (i := i) (r := D2 1 i)
                  have hrun : runQ c (D2 1 i) := by rw [hp1]; exact rb_run hw (by omega)
                  refine n_aload_n C dX2_place_78 rfl ?_
                  refine n_iconst (x := 1) C dX2_place_79 ?_
                  refine n_invV C (c_go hst (hM.mi (i := i) hi) (tk_rg hw i) (hM.aim hrun) hdp hga (L := 1) (by omega)) ⟨t3_219, t3_222, t1_10, ⟨by decide, by decide⟩, by show _ = some 1; decide +kernel, by decide⟩ t3_220 t3_221 (hM.mi (i := i) hi) vC4 (by decide) (by omega) (by omega) (Nat.le_of_ble_eq_true rfl) rfl dX2_place_80 (fun r σ1 h' => ?_) (fun _ _ h => h.elim)
                  obtain ⟨y, rfl, hy, p1, p2⟩ := h'
                  have hup : σ1 (shA A (10 + i)) = some (.inr (4, ctM A c (tu D2 0 i (goS c i (D2 0 i) (D2 1 i) 1)) i)) := by
                    unfold ctM
                    rw [tu_k (show (1 : Nat) ≠ 0 by decide), tu_s]
                    rw [wyO_R] at p1
                    exact p1
                  replace hM : CB g.2.1 A β c (tu D2 0 i (goS c i (D2 0 i) (D2 1 i) 1)) σ1 := CB.mac hw hI hM (i := i) hi hup (fun j hj => by constructor <;> simp only [tu_j hj] <;> rw [tu_k (by decide)]) (fun j hj => by simp only [tu_k (show (2 : Nat) ≠ 0 by decide), tu_k (show (2 : Nat) ≠ 1 by decide)]) p2 (by rw [tu_k (by decide)]; exact hM.2.2 i hi)
                  refine n_pop C dX2_place_83 rfl ?_
                  refine n_iinc (lv' := [(5, iv (((b * L + s : Nat) : Int) + 1)), (7, iv (s : Int)), (6, iv (b : Int)), (4, iv (L : Int)), (3, .ref (shA A (10 + i))), (0, .ref (shA A 0)), (1, iv (i : Int)), (2, iv (τ : Int))]) C dX2_place_84 rfl (by rw [hN]; decide) rfl ?_
                  refine n_iinc (lv' := [(7, iv ((s : Int) + 1)), (5, iv (((b * L + s : Nat) : Int) + 1)), (6, iv (b : Int)), (4, iv (L : Int)), (3, .ref (shA A (10 + i))), (0, .ref (shA A 0)), (1, iv (i : Int)), (2, iv (τ : Int))]) C dX2_place_87 rfl (by rw [hN]; decide) rfl ?_
                  refine n_goto C 65 dX2_place_90 (by decide) ?_
                  refine n_keep (lv' := [(7, iv ((s : Int) + 1)), (6, iv (b : Int)), (5, iv (((b * L + s : Nat) : Int) + 1)), (4, iv (L : Int)), (3, .ref (shA A (10 + i))), (0, .ref (shA A 0)), (1, iv (i : Int)), (2, iv (τ : Int))]) [7, 6, 5, 4, 3, 0, 1, 2] rfl ?_
                  have e4 : ((b * L + s : Nat) : Int) + 1 = ((b * L + (s + 1) : Nat) : Int) := by omega
                  rw [e4]
                  exact ih2 (s + 1) σ1 _ hM (by rw [tu_s, hp0, hp1, ← tr_in hw (by omega)]; rfl) (by rw [tu_k (by decide)]; exact hp1) (by omega) (by omega) (by omega)
          have LQ := LP2 (L + 1) 0 σ1 _ hM (by rw [tu_k (by decide), h0, hg1]; rfl) (tu_s ..) (Nat.zero_le _) (by omega) (by omega)
          rw [show b * L + 0 = gn by omega] at LQ
          exact LQ
  exact LP 31 0 0 σ1 _ hM (by rw [tu_k (by decide), tu_s]; rfl) (Or.inl ⟨by omega, tu_s ..⟩) (by omega) (by omega) (by omega)
set_option maxRecDepth 100000 in
set_option maxHeartbeats 4000000 in
theorem p_placeAtBar {g : Gx} (hst : g.1.stackTraces = false) {a t : Int} (ha : rg a) (ht : rg t) {A : ShT} {β : Wd} {c D : Tb} {σ : Wd} (hM : CB g.2.1 A β c D σ) (hw : WF c) (hI : CI g c A)  : CT g yX2_placeAtBar cX2_placeAtBar 6 (some .int) 4 2 12 [.ref (shA A 0), iv a, iv t] σ (fun r σ' => ∃ (x : Int) (D' : Tb), r = some (iv x) ∧ CB g.2.1 A β c D' σ' ∧ cdBar c a t = 0 ∧ x = (tr c (LL c) a.toNat (t.toNat * LL c)).1) (fun E σ' => σ' = σ ∧ ((E = "java/lang/IndexOutOfBoundsException" ∧ cdBar c a t = 1) ∨ (E = "java/lang/IllegalArgumentException" ∧ cdBar c a t = 2))) := by
  refine CT.of hst (by decide +kernel) (Nat.le_of_ble_eq_true rfl) (fun Φ C Rr hY hN => ?_)
  show N Φ 0 0 σ 0 [(0, .ref (shA A 0)), (1, iv a), (2, iv t)] []
  unfold rg at ha
  unfold rg at ht
  obtain ⟨w0, w6, w12, w13, w14, w15, w16, wm, wq, ww⟩ := id hw
  obtain ⟨n0, hn0⟩ : ∃ n : Nat, c 0 0 = n := ⟨(c 0 0).toNat, by omega⟩
  obtain ⟨n6, hn6⟩ : ∃ n : Nat, c 6 0 = n := ⟨(c 6 0).toNat, by omega⟩
  have hl0 : nL3 c 0 = n0 := hn0
  have hl1 : nL3 c 1 = n6 := hn6
  have hl2 : nL3 c 2 = n6 := hn6
  have hLr := lenB_rg hw (T := c 14 0) (by omega)
  obtain ⟨L, hL⟩ : ∃ L : Nat, lenB c (c 14 0) = L := ⟨(lenB c (c 14 0)).toNat, by omega⟩
  have hLL : LL c = L := by unfold LL; omega
  rw [hL] at hLr
  refine n_aload_n C dX2_placeAtBar_0 rfl ?_
  refine n_iload_n C dX2_placeAtBar_1 rfl ?_
  refine n_invV C (k_machine hst (by unfold rg; omega) hM hw hI) ⟨t2_67, t2_70, t1_1, ⟨by decide, by decide⟩, by show _ = some 1; decide +kernel, by decide⟩ t2_69 tp_6 hM.1.1 vC5 (by decide) (by omega) (by omega) (Nat.le_of_ble_eq_true rfl) rfl dX2_placeAtBar_2 (fun r σ' h' => ?_) (fun E σ' h' => by
      obtain ⟨rfl, rfl, hz⟩ := h'
      exact n_out C Rr ⟨rfl, Or.inl ⟨rfl, by unfold cdBar; rw [if_neg hz]⟩⟩ (by omega) (by omega))
  obtain ⟨i, rfl, rfl, hi, hσ⟩ := h'
  rw [hσ]
  refine n_astore_n (lv' := [(3, .ref (shA A (10 + i))), (0, .ref (shA A 0)), (1, iv (i : Int)), (2, iv t)]) C dX2_placeAtBar_5 (by rw [hN]; decide) rfl ?_
  refine n_iload_n C dX2_placeAtBar_6 rfl ?_
  refine n_iconst (x := 0) C dX2_placeAtBar_7 ?_
  refine n_aload_n C dX2_placeAtBar_8 rfl ?_
  refine n_get C hM.1.1 vC5 vI5 5 (by decide) t1_68 rfl rfl dX2_placeAtBar_9 ?_
  refine n_invS C (k_within hst (by unfold rg; omega) (by unfold rg; omega) (by unfold rg; omega)) ⟨t1_110, t1_112, t1_1, ⟨by decide, by decide⟩, by show _ = some 3; decide +kernel, by decide⟩ t1_111 (by decide) (by omega) (by omega) (Nat.le_of_ble_eq_true rfl) rfl dX2_placeAtBar_12 (fun r σ' h' => ?_) (fun _ _ h => h.elim)
  obtain ⟨x, rfl, hσ, hx⟩ := h'
  rw [hσ]
  refine n_invS C (k_allow hst (by omega)) ⟨t1_113, t1_115, t1_1, ⟨by decide, by decide⟩, by show _ = some 1; decide +kernel, by decide⟩ t1_114 (by decide) (by omega) (by omega) (Nat.le_of_ble_eq_true rfl) rfl dX2_placeAtBar_15 (fun r σ' h' => ?_) (fun E σ' h' => by
      obtain ⟨rfl, rfl, hz⟩ := h'
      exact n_out C Rr ⟨rfl, Or.inr (⟨rfl, by unfold cdBar; rw [if_pos (by omega), if_neg (by omega)]⟩)⟩ (by omega) (by omega))
  obtain ⟨rfl, hσ, hz⟩ := h'
  rw [hσ]
  have hcd : cdBar c (i : Int) t = 0 := by unfold cdBar; rw [if_pos (by omega), if_pos (by omega)]
  obtain ⟨τ, rfl⟩ : ∃ τ : Nat, t = τ := ⟨t.toNat, by omega⟩
  refine n_aload_n C dX2_placeAtBar_18 rfl ?_
  refine n_aload_n C dX2_placeAtBar_19 rfl ?_
  refine n_get C hM.1.1 vC5 vI5 7 (by decide) t1_70 rfl rfl dX2_placeAtBar_20 ?_
  refine n_invV C (k_barTicks hst (T := c 14 0) (by omega) hM hw hI) ⟨t3_199, t3_202, t1_1, ⟨by decide, by decide⟩, by show _ = some 1; decide +kernel, by decide⟩ t3_201 tp_12 hM.1.1 vC5 (by decide) (by omega) (by omega) (Nat.le_of_ble_eq_true rfl) rfl dX2_placeAtBar_23 (fun r σ' h' => ?_) (fun _ _ h => h.elim)
  obtain ⟨rfl, hσ⟩ := h'
  rw [hσ, hL]
  refine n_istore (lv' := [(4, iv (L : Int)), (3, .ref (shA A (10 + i))), (0, .ref (shA A 0)), (1, iv (i : Int)), (2, iv (τ : Int))]) C dX2_placeAtBar_26 (by rw [hN]; decide) rfl ?_
  refine n_aload_n C dX2_placeAtBar_28 rfl ?_
  refine n_invV C (c_rewind hst (hM.mi (i := i) hi) (tk_rg hw i)) ⟨t3_211, t3_214, t1_10, ⟨by decide, by decide⟩, by show _ = some 0; decide +kernel, by decide⟩ t3_212 t3_213 (hM.mi (i := i) hi) vC4 (by decide) (by omega) (by omega) (Nat.le_of_ble_eq_true rfl) rfl dX2_placeAtBar_29 (fun r σ1 h' => ?_) (fun _ _ h => h.elim)
  obtain ⟨rfl, p1, p2⟩ := h'
  have hup : σ1 (shA A (10 + i)) = some (.inr (4, ctM A c (tu (tu D 0 i (c 5 i)) 1 i (-1)) i)) := by
    unfold ctM
    rw [tu_k (by decide), tu_s, tu_s, rfQ_m]
    exact p1
  replace hM : CB g.2.1 A β c (tu (tu D 0 i (c 5 i)) 1 i (-1)) σ1 := CB.mac hw hI hM (i := i) hi hup (fun j hj => by constructor <;> simp only [tu_j hj]) (fun j hj => by simp only [tu_k (show (2 : Nat) ≠ 0 by decide), tu_k (show (2 : Nat) ≠ 1 by decide)]) p2 (Or.inl (tu_s ..))
  refine n_iconst (x := 0) C dX2_placeAtBar_32 ?_
  refine n_istore (lv' := [(5, iv 0), (4, iv (L : Int)), (3, .ref (shA A (10 + i))), (0, .ref (shA A 0)), (1, iv (i : Int)), (2, iv (τ : Int))]) C dX2_placeAtBar_33 (by rw [hN]; decide) rfl ?_
  refine n_widen (k' := 2) (n' := 12) (by omega) (by omega) ?_
  have LP : ∀ (fu : Nat) (b : Nat) (σ : Wd) (D1 : Tb) (hM : CB g.2.1 A β c D1 σ) (h0 : D1 0 i = (tr c L i (b * L)).1) (h1 : D1 1 i = (tr c L i (b * L)).2) (hb2 : b ≤ τ) (hf : τ + 1 ≤ b + fu), N Φ 2 12 σ 35 [(5, iv (b : Int)), (4, iv (L : Int)), (3, .ref (shA A (10 + i))), (0, .ref (shA A 0)), (1, iv (i : Int)), (2, iv (τ : Int))] [] := by
    intro fu
    induction fu with
    | zero =>
      intro b σ D1 hM h0 h1 hb2 hf
      omega
    | succ fu ih =>
      intro b σ D1 hM h0 h1 hb2 hf
      refine n_iload C dX2_placeAtBar_35 rfl ?_
      refine n_iload_n C dX2_placeAtBar_37 rfl ?_
      refine n_icmp_ge C 60 dX2_placeAtBar_38 (by decide) (by unfold rg; omega) (by unfold rg; omega) (fun b38 => ?_) (fun b38 => ?_)
      · refine n_aload_n C dX2_placeAtBar_60 rfl ?_
        refine n_get C (hM.mi (i := i) hi) vC4 vI4 5 (by decide) t1_222 rfl rfl dX2_placeAtBar_61 ?_
        exact n_ireturn C Rr rfl ⟨_, D1, rfl, hM, hcd, by rw [h0, hLL, Int.toNat_natCast, Int.toNat_natCast, show b = τ by omega]⟩ (by omega) (by omega) dX2_placeAtBar_64
      · have hb : b < 30 := by omega
        have hdp : 0 ≤ D1 0 i ∧ D1 0 i ≤ 359 := by rw [h0]; exact tr_rg hw L i _
        refine n_aload_n C dX2_placeAtBar_41 rfl ?_
        refine n_iload C dX2_placeAtBar_42 rfl ?_
        refine n_invV C (c_startBar hst (hM.mi (i := i) hi) (tk_rg hw i) (hM.ro (i := i) hi) hb) ⟨t3_215, t3_218, t1_10, ⟨by decide, by decide⟩, by show _ = some 1; decide +kernel, by decide⟩ t3_216 t3_217 (hM.mi (i := i) hi) vC4 (by decide) (by omega) (by omega) (Nat.le_of_ble_eq_true rfl) rfl dX2_placeAtBar_44 (fun r σ1 h' => ?_) (fun _ _ h => h.elim)
        obtain ⟨rfl, p1, p2⟩ := h'
        have hup : σ1 (shA A (10 + i)) = some (.inr (4, ctM A c (tu D1 1 i (if eff c i b = -1 then D1 1 i else eff c i b)) i)) := by
          unfold ctM
          rw [tu_k (by decide), tu_s]
          rw [sh_r hI hi hb] at p1
          by_cases z : eff c i b = -1
          · rw [if_pos z]
            rw [z] at p1
            exact p1
          · rw [if_neg z]
            rcases eff_q hw i b with z1 | ⟨q, z1, z2⟩
            · exact absurd z1 z
            · rw [z1, rfQ_n] at p1
              rw [z1, rfQ_n]
              exact p1
        replace hM : CB g.2.1 A β c (tu D1 1 i (if eff c i b = -1 then D1 1 i else eff c i b)) σ1 := CB.mac hw hI hM (i := i) hi hup (fun j hj => by constructor <;> simp only [tu_j hj] <;> rw [tu_k (by decide)]) (fun j hj => by simp only [tu_k (show (2 : Nat) ≠ 0 by decide), tu_k (show (2 : Nat) ≠ 1 by decide)]) p2 (by
            rw [tu_s]
            split
            · exact hM.2.2 i hi
            · exact eff_q hw i b)
        have hRB : (if eff c i b = -1 then D1 1 i else eff c i b) = RB c L b i := by rw [rb_eff (by omega), h1]
        rw [hRB] at hM
        obtain ⟨D2, hD2⟩ : ∃ D2 : Tb, D2 = tu D1 1 i (RB c L b i) := ⟨_, rfl⟩
        have q0 : D2 0 i = (tr c L i (b * L)).1 := by rw [hD2, tu_k (by decide)]; exact h0
        have q1 : D2 1 i = RB c L b i := by rw [hD2, tu_s]
        rw [← hD2] at hM
        replace hdp : 0 ≤ D2 0 i ∧ D2 0 i ≤ 359 := by rw [q0]; exact tr_rg hw L i _
        have wk := (wm i).2.2.2.2.1
        have hga := aim_rg hw (i := i) (r := D2 1 i)
        have hrun : runQ c (D2 1 i) := by rw [q1]; exact rb_run hw (by omega)
        have hLz : 0 ≤ c 4 i * (L : Int) ∧ c 4 i * (L : Int) ≤ 800 := ⟨Int.mul_nonneg (by omega) (by omega), by
          have z1 : c 4 i * (L : Int) ≤ 10 * (L : Int) := Int.mul_le_mul_of_nonneg_right (by omega) (by omega)
          omega⟩
        refine n_aload_n C dX2_placeAtBar_47 rfl ?_
        refine n_iload C dX2_placeAtBar_48 rfl ?_
        refine n_invV C (c_go hst (hM.mi (i := i) hi) (tk_rg hw i) (hM.aim hrun) hdp hga (L := (L : Int)) hLz) ⟨t3_219, t3_222, t1_10, ⟨by decide, by decide⟩, by show _ = some 1; decide +kernel, by decide⟩ t3_220 t3_221 (hM.mi (i := i) hi) vC4 (by decide) (by omega) (by omega) (Nat.le_of_ble_eq_true rfl) rfl dX2_placeAtBar_50 (fun r σ1 h' => ?_) (fun _ _ h => h.elim)
        obtain ⟨y, rfl, hy, p1, p2⟩ := h'
        have hup : σ1 (shA A (10 + i)) = some (.inr (4, ctM A c (tu D2 0 i (goS c i (D2 0 i) (D2 1 i) L)) i)) := by
          unfold ctM
          rw [tu_k (show (1 : Nat) ≠ 0 by decide), tu_s]
          rw [wyO_R] at p1
          exact p1
        replace hM : CB g.2.1 A β c (tu D2 0 i (goS c i (D2 0 i) (D2 1 i) L)) σ1 := CB.mac hw hI hM (i := i) hi hup (fun j hj => by constructor <;> simp only [tu_j hj] <;> rw [tu_k (by decide)]) (fun j hj => by simp only [tu_k (show (2 : Nat) ≠ 0 by decide), tu_k (show (2 : Nat) ≠ 1 by decide)]) p2 (by rw [tu_k (by decide)]; exact hM.2.2 i hi)
        refine n_pop C dX2_placeAtBar_53 rfl ?_
        refine n_iinc (lv' := [(5, iv ((b : Int) + 1)), (4, iv (L : Int)), (3, .ref (shA A (10 + i))), (0, .ref (shA A 0)), (1, iv (i : Int)), (2, iv (τ : Int))]) C dX2_placeAtBar_54 rfl (by rw [hN]; decide) rfl ?_
        refine n_goto C 35 dX2_placeAtBar_57 (by decide) ?_
        have e6 : (b + 1) * L = b * L + L := Nat.succ_mul b L
        exact ih (b + 1) _ _ hM (by rw [tu_s, q0, q1, e6, tr_bar hw L (Nat.le_refl L)]) (by rw [tu_k (by decide), q1, e6, rb_at L (by omega) (Nat.le_refl L)]) (by omega) (by omega)
  exact LP 31 0 σ1 _ hM (by rw [tu_k (by decide), tu_s, Nat.zero_mul]; rfl) (by rw [tu_s, Nat.zero_mul]; rfl) (by omega) (by omega)
