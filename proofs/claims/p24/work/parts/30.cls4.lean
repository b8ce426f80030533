set_option maxRecDepth 100000 in
set_option maxHeartbeats 4000000 in
theorem k_wT {g : Gx} (hst : g.1.stackTraces = false) {A : ShT} {β : Wd} {c D : Tb} {σ : Wd} (hM : CB g.2.1 A β c D σ) (hw : WF c) (hI : CI g c A) {q : Nat} (hq : (q : Int) < c 6 0)  : CT g yX2_workerTonight cX2_workerTonight 4 (some .int) 2 0 0 [.ref (shA A 0), .ref (shA A (30 + q))] σ (fun r σ' => r = some (iv (wOf c q)) ∧ σ' = σ) (fun _ _ => False) := by
  refine CT.of hst (by decide +kernel) (Nat.le_of_ble_eq_true rfl) (fun Φ C Rr hY hN => ?_)
  show N Φ 0 0 σ 0 [(0, .ref (shA A 0)), (1, .ref (shA A (30 + q)))] []
  obtain ⟨w0, w6, w12, w13, w14, w15, w16, wm, wq, ww⟩ := id hw
  obtain ⟨n0, hn0⟩ : ∃ n : Nat, c 0 0 = n := ⟨(c 0 0).toNat, by omega⟩
  obtain ⟨n6, hn6⟩ : ∃ n : Nat, c 6 0 = n := ⟨(c 6 0).toNat, by omega⟩
  have hl0 : nL3 c 0 = n0 := hn0
  have hl1 : nL3 c 1 = n6 := hn6
  have hl2 : nL3 c 2 = n6 := hn6
  have wq1 := (wq q).2.2.2.2.2.2.1
  refine n_aload_n C dX2_workerTonight_0 rfl ?_
  refine n_get C (hM.qi (q := q) (by omega)) vC3 vI3 3 (by decide) t2_126 rfl rfl dX2_workerTonight_1 ?_
  refine n_istore_n (lv' := [(2, iv (c 10 q)), (0, .ref (shA A 0)), (1, .ref (shA A (30 + q)))]) C dX2_workerTonight_4 (by rw [hN]; decide) rfl ?_
  refine n_iconst (x := 0) C dX2_workerTonight_5 ?_
  refine n_istore_n (lv' := [(3, iv 0), (2, iv (c 10 q)), (0, .ref (shA A 0)), (1, .ref (shA A (30 + q)))]) C dX2_workerTonight_6 (by rw [hN]; decide) rfl ?_
  have LP : ∀ (fu : Nat) (k : Nat) (v : Int) (hv : v = sqW c (c 10 q) k) (he : wkN c (6 - k) v = wkN c 6 (c 10 q)) (hv2 : -1 ≤ v ∧ v ≤ 5) (hall : ∀ j : Nat, j < k → (0 ≤ sqW c (c 10 q) j ∧ sqW c (c 10 q) j ≤ 5) ∧ c 17 (sqW c (c 10 q) j).toNat ≠ 0) (h1 : k ≤ 6) (h2 : 7 ≤ k + fu), N Φ 0 0 σ 7 [(3, iv (k : Int)), (2, iv v), (0, .ref (shA A 0)), (1, .ref (shA A (30 + q)))] [] := by
    intro fu
    induction fu with
    | zero =>
      intro k v hv he hv2 hall h1 h2
      omega
    | succ fu ih =>
      intro k v hv he hv2 hall h1 h2
      refine n_iload_n C dX2_workerTonight_7 rfl ?_
      refine n_bipush (x := 6) C dX2_workerTonight_8 (by decide) ?_
      refine n_icmp_ge C 44 dX2_workerTonight_10 (by decide) (by unfold rg; omega) (by unfold rg; omega) (fun b10 => ?_) (fun b10 => ?_)
      · refine n_iconst (x := (-1)) C dX2_workerTonight_44 ?_
        exact n_ireturn C Rr rfl ⟨by
          have h6 := sqW_6 (c := c) (w := c 10 q) (fun j hj => hall j (by omega))
          unfold wOf
          rw [← he, show 6 - k = 0 by omega]
          show some (iv (-1)) = some (iv (if v = -1 ∨ c 17 v.toNat ≠ 0 then -1 else v))
          by_cases z : v = -1
          · rw [if_pos (Or.inl z)]
          · rw [hv, show k = 6 by omega]
            rw [hv, show k = 6 by omega] at hv2 z
            rw [if_pos (Or.inr (h6 ⟨by omega, by omega⟩))], rfl⟩ (by omega) (by omega) dX2_workerTonight_45
      · refine n_iload_n C dX2_workerTonight_13 rfl ?_
        refine n_invS C (k_isWorker hst (by unfold rg; omega)) ⟨t2_109, t2_111, t1_1, ⟨by decide, by decide⟩, by show _ = some 1; decide +kernel, by decide⟩ t2_110 (by decide) (by omega) (by omega) (Nat.le_of_ble_eq_true rfl) rfl dX2_workerTonight_14 (fun r σ' h' => ?_) (fun _ _ h => h.elim)
        obtain ⟨x, rfl, hσ, hx⟩ := h'
        rw [hσ]
        refine n_if_eq C 44 dX2_workerTonight_17 (by decide) (by unfold rg; omega) (fun b17 => ?_) (fun b17 => ?_)
        · have hv1 : v = -1 := by omega
          refine n_iconst (x := (-1)) C dX2_workerTonight_44 ?_
          exact n_ireturn C Rr rfl ⟨by unfold wOf; rw [← he, hv1, wkN_m1, if_pos (Or.inl rfl)], rfl⟩ (by omega) (by omega) dX2_workerTonight_45
        · have wv := ww v.toNat
          refine n_aload_n C dX2_workerTonight_20 rfl ?_
          refine n_get C hM.1.1 vC5 vI5 3 (by decide) t1_66 rfl rfl dX2_workerTonight_21 ?_
          refine n_iload_n C dX2_workerTonight_24 rfl ?_
          refine n_zald C hM.1.2.2.1 (by omega) (by omega) (by omega) dX2_workerTonight_25 ?_
          refine n_if_ne C 31 dX2_workerTonight_26 (by decide) (by unfold rg; omega) (fun b26 => ?_) (fun b26 => ?_)
          · refine n_aload_n C dX2_workerTonight_31 rfl ?_
            refine n_get C hM.1.1 vC5 vI5 4 (by decide) t1_67 rfl rfl dX2_workerTonight_32 ?_
            refine n_iload_n C dX2_workerTonight_35 rfl ?_
            refine n_iald C hM.1.2.2.2.1 (by omega) (by omega) (by omega) dX2_workerTonight_36 ?_
            refine n_istore_n (lv' := [(2, iv (c 18 v.toNat)), (3, iv (k : Int)), (0, .ref (shA A 0)), (1, .ref (shA A (30 + q)))]) C dX2_workerTonight_37 (by rw [hN]; decide) rfl ?_
            refine n_iinc (lv' := [(3, iv ((k : Int) + 1)), (2, iv (c 18 v.toNat)), (0, .ref (shA A 0)), (1, .ref (shA A (30 + q)))]) C dX2_workerTonight_38 rfl (by rw [hN]; decide) rfl ?_
            refine n_goto C 7 dX2_workerTonight_41 (by decide) ?_
            refine n_keep (lv' := [(3, iv ((k : Int) + 1)), (2, iv (c 18 v.toNat)), (0, .ref (shA A 0)), (1, .ref (shA A (30 + q)))]) [3, 2, 0, 1] rfl ?_
            exact ih (k + 1) _ (by show c 18 v.toNat = c 18 (sqW c (c 10 q) k).toNat; rw [hv]) (by rw [← he, show 6 - k = (6 - (k + 1)) + 1 by omega]; (conv => rhs; unfold wkN); rw [if_pos ⟨by omega, by omega⟩]) wv.2 (fun j hj => by
              by_cases z : j = k
              · rw [z, ← hv]; exact ⟨by omega, by omega⟩
              · exact hall j (by omega)) (by omega) (by omega)
          · refine n_iload_n C dX2_workerTonight_29 rfl ?_
            exact n_ireturn C Rr rfl ⟨by unfold wOf; rw [← he, wkN_on (by omega), if_neg (by omega)], rfl⟩ (by omega) (by omega) dX2_workerTonight_30
  exact LP 7 0 _ rfl rfl (by omega) (fun j hj => absurd hj (Nat.not_lt_zero j)) (by omega) (by omega)
set_option maxRecDepth 100000 in
set_option maxHeartbeats 4000000 in
theorem k_plan {g : Gx} (hst : g.1.stackTraces = false) {A : ShT} {β : Wd} {c D : Tb} {σ : Wd} (hM : CB g.2.1 A β c D σ) (hw : WF c) (hI : CI g c A) {L : Nat} (hL : 1 ≤ L ∧ L ≤ 80)  : CT g yX2_planWork cX2_planWork 4 none 4 0 0 [.ref (shA A 0), iv (L : Int)] σ (fun r σ' => r = none ∧ ∃ D', CB g.2.1 A β c D' σ' ∧ ∀ q : Nat, (q : Int) < c 6 0 → D' 2 q = cnt c L q (NT c L)) (fun _ _ => False) := by
  refine CT.of hst (by decide +kernel) (Nat.le_of_ble_eq_true rfl) (fun Φ C Rr hY hN => ?_)
  show N Φ 0 0 σ 0 [(0, .ref (shA A 0)), (1, iv (L : Int))] []
  obtain ⟨w0, w6, w12, w13, w14, w15, w16, wm, wq, ww⟩ := id hw
  obtain ⟨n0, hn0⟩ : ∃ n : Nat, c 0 0 = n := ⟨(c 0 0).toNat, by omega⟩
  obtain ⟨n6, hn6⟩ : ∃ n : Nat, c 6 0 = n := ⟨(c 6 0).toNat, by omega⟩
  have hl0 : nL3 c 0 = n0 := hn0
  have hl1 : nL3 c 1 = n6 := hn6
  have hl2 : nL3 c 2 = n6 := hn6
  refine n_iconst (x := 0) C dX2_planWork_0 ?_
  refine n_istore_n (lv' := [(2, iv 0), (0, .ref (shA A 0)), (1, iv (L : Int))]) C dX2_planWork_1 (by rw [hN]; decide) rfl ?_
  have LP : ∀ (fu : Nat) (k : Nat) (σ : Wd) (D1 : Tb) (hM : CB g.2.1 A β c D1 σ) (h0 : ∀ q : Nat, q < k → D1 2 q = 0) (hk : k ≤ n6) (hf : n6 + 1 ≤ k + fu), N Φ 0 0 σ 2 [(2, iv (k : Int)), (0, .ref (shA A 0)), (1, iv (L : Int))] [] := by
    intro fu
    induction fu with
    | zero =>
      intro k σ D1 hM h0 hk hf
      omega
    | succ fu ih =>
      intro k σ D1 hM h0 hk hf
      refine n_iload_n C dX2_planWork_2 rfl ?_
      refine n_aload_n C dX2_planWork_3 rfl ?_
      refine n_get C hM.1.1 vC5 vI5 1 (by decide) t1_64 rfl rfl dX2_planWork_4 ?_
      refine n_invV C (c_size hst (hM.1.lst hw hI (j := 1) (by decide) hl1)) ⟨t1_188, t1_191, t1_4, ⟨by decide, by decide⟩, by show _ = some 0; decide +kernel, by decide⟩ t1_189 t1_190 (hM.1.2.1 1 (by decide)) cJ (by decide) (by omega) (by omega) (Nat.le_of_ble_eq_true rfl) rfl dX2_planWork_7 (fun r σ' h' => ?_) (fun _ _ h => h.elim)
      obtain ⟨rfl, hσ⟩ := h'
      rw [hσ]
      refine n_icmp_ge C 34 dX2_planWork_10 (by decide) (by unfold rg; omega) (by unfold rg; omega) (fun b10 => ?_) (fun b10 => ?_)
      · refine n_aload_n C dX2_planWork_34 rfl ?_
        refine n_invV C (k_rewindAll hst hM hw hI) ⟨t4_25, t4_28, t1_1, ⟨by decide, by decide⟩, by show _ = some 0; decide +kernel, by decide⟩ t4_27 tp_14 hM.1.1 vC5 (by decide) (by omega) (by omega) (Nat.le_of_ble_eq_true rfl) rfl dX2_planWork_35 (fun r σ h' => ?_) (fun _ _ h => h.elim)
        obtain ⟨rfl, D0, hM, hr, h2⟩ := h'
        refine n_iconst (x := 0) C dX2_planWork_38 ?_
        refine n_istore_n (lv' := [(2, iv 0), (0, .ref (shA A 0)), (1, iv (L : Int))]) C dX2_planWork_39 (by rw [hN]; decide) rfl ?_
        have LP3 : ∀ (fuY : Nat) (b : Nat) (σ : Wd) (D1 : Tb) (hM : CB g.2.1 A β c D1 σ) (hTS : ∀ j : Nat, (j : Int) < c 0 0 → D1 0 j = (tr c L j (b * L)).1 ∧ D1 1 j = (tr c L j (b * L)).2) (hcn : ∀ q : Nat, (q : Int) < c 6 0 → D1 2 q = cnt c L q (b * L)) (hb : (b : Int) ≤ c 12 0) (hf3 : c 12 0 + 1 ≤ b + fuY), N Φ 0 0 σ 40 [(2, iv (b : Int)), (0, .ref (shA A 0)), (1, iv (L : Int))] [] := by
          intro fuY
          induction fuY with
          | zero =>
            intro b σ D1 hM hTS hcn hb hf3
            omega
          | succ fuY ih3 =>
            intro b σ D1 hM hTS hcn hb hf3
            refine n_iload_n C dX2_planWork_40 rfl ?_
            refine n_aload_n C dX2_planWork_41 rfl ?_
            refine n_get C hM.1.1 vC5 vI5 5 (by decide) t1_68 rfl rfl dX2_planWork_42 ?_
            refine n_icmp_ge C 93 dX2_planWork_45 (by decide) (by unfold rg; omega) (by unfold rg; omega) (fun b45 => ?_) (fun b45 => ?_)
            · have hb9 : b = (c 12 0).toNat := by omega
              exact n_return C Rr ⟨rfl, D1, hM, fun q hq => by rw [hcn q hq, hb9]; rfl⟩ (by omega) (by omega) dX2_planWork_93
            · refine n_aload_n C dX2_planWork_48 rfl ?_
              refine n_iload_n C dX2_planWork_49 rfl ?_
              refine n_invV C (k_startBars hst hM hw hI (b := b) (by omega)) ⟨t4_29, t4_32, t1_1, ⟨by decide, by decide⟩, by show _ = some 1; decide +kernel, by decide⟩ t4_31 tp_15 hM.1.1 vC5 (by decide) (by omega) (by omega) (Nat.le_of_ble_eq_true rfl) rfl dX2_planWork_50 (fun r σ h' => ?_) (fun _ _ h => h.elim)
              obtain ⟨rfl, D2, hM, hs, hw3⟩ := h'
              refine n_iconst (x := 0) C dX2_planWork_53 ?_
              refine n_istore_n (lv' := [(3, iv 0), (2, iv (b : Int)), (0, .ref (shA A 0)), (1, iv (L : Int))]) C dX2_planWork_54 (by rw [hN]; decide) rfl ?_
              have LP2 : ∀ (fuX : Nat) (k : Nat) (σ : Wd) (D1 : Tb) (hM : CB g.2.1 A β c D1 σ) (hlt : ∀ j : Nat, j < k → D1 0 j = (tr c L j (b * L + L)).1 ∧ D1 1 j = RB c L b j) (hge : ∀ j : Nat, k ≤ j → (j : Int) < c 0 0 → D1 0 j = (tr c L j (b * L)).1 ∧ D1 1 j = RB c L b j) (hw1 : ∀ q : Nat, (q : Int) < c 6 0 → D1 2 q = if (c 8 q).toNat < k then cnt c L q (b * L + L) else cnt c L q (b * L)) (h1 : k ≤ n0) (h2 : n0 + 1 ≤ k + fuX), N Φ 0 0 σ 55 [(3, iv (k : Int)), (2, iv (b : Int)), (0, .ref (shA A 0)), (1, iv (L : Int))] [] := by
                intro fuX
                induction fuX with
                | zero =>
                  intro k σ D1 hM hlt hge hw1 h1 h2
                  omega
                | succ fuX ih2 =>
                  intro k σ D1 hM hlt hge hw1 h1 h2
                  refine n_iload_n C dX2_planWork_55 rfl ?_
                  refine n_aload_n C dX2_planWork_56 rfl ?_
                  refine n_get C hM.1.1 vC5 vI5 0 (by decide) t1_63 rfl rfl dX2_planWork_57 ?_
                  refine n_invV C (c_size hst (hM.1.lst hw hI (j := 0) (by decide) hl0)) ⟨t1_188, t1_191, t1_4, ⟨by decide, by decide⟩, by show _ = some 0; decide +kernel, by decide⟩ t1_189 t1_190 (hM.1.2.1 0 (by decide)) cJ (by decide) (by omega) (by omega) (Nat.le_of_ble_eq_true rfl) rfl dX2_planWork_60 (fun r σ' h' => ?_) (fun _ _ h => h.elim)
                  obtain ⟨rfl, hσ⟩ := h'
                  rw [hσ]
                  refine n_icmp_ge C 87 dX2_planWork_63 (by decide) (by unfold rg; omega) (by unfold rg; omega) (fun b63 => ?_) (fun b63 => ?_)
                  · refine n_iinc (lv' := [(2, iv ((b : Int) + 1)), (3, iv (k : Int)), (0, .ref (shA A 0)), (1, iv (L : Int))]) C dX2_planWork_87 rfl (by rw [hN]; decide) rfl ?_
                    refine n_goto C 40 dX2_planWork_90 (by decide) ?_
                    refine n_keep (lv' := [(2, iv ((b : Int) + 1)), (0, .ref (shA A 0)), (1, iv (L : Int))]) [2, 0, 1] rfl ?_
                    have e6 : (b + 1) * L = b * L + L := Nat.succ_mul b L
                    exact ih3 (b + 1) σ D1 hM (fun j hj => by rw [e6, (hlt j (by omega)).1, (hlt j (by omega)).2]; exact ⟨rfl, (rb_at L (by omega) (by omega)).symm⟩) (fun q hq => by rw [e6, hw1 q hq, if_pos]; have := (wq q).2.2.2.1 hq; have := (wq q).2.2.1; omega) (by omega) (by omega)
                  · refine n_aload_n C dX2_planWork_66 rfl ?_
                    refine n_get C hM.1.1 vC5 vI5 0 (by decide) t1_63 rfl rfl dX2_planWork_67 ?_
                    refine n_iload_n C dX2_planWork_70 rfl ?_
                    refine n_invV C (c_get hst (hM.1.lst hw hI (j := 0) (by decide) hl0) (i := k) (by omega) (hI.2.1 k (by omega))) ⟨t2_87, t2_90, t1_4, ⟨by decide, by decide⟩, by show _ = some 1; decide +kernel, by decide⟩ t2_88 t2_89 (hM.1.2.1 0 (by decide)) cJ (by decide) (by omega) (by omega) (Nat.le_of_ble_eq_true rfl) rfl dX2_planWork_71 (fun r σ' h' => ?_) (fun _ _ h => h.elim)
                    obtain ⟨rfl, hσ⟩ := h'
                    rw [hσ]
                    refine n_cast C (hM.mi (i := k) (by omega)) vC4 t1_208 dX2_planWork_74 ?_
                    refine n_iload_n C dX2_planWork_77 rfl ?_
                    have hsp1 : 1 ≤ c 4 k := (wm k).2.2.2.2.2.1 (by omega)
                    have hsp2 := (wm k).2.2.2.2.1
                    have hLz : 0 ≤ c 4 k * (L : Int) ∧ c 4 k * (L : Int) ≤ 800 := ⟨Int.mul_nonneg (by omega) (by omega), by
                      have z1 : c 4 k * (L : Int) ≤ 10 * (L : Int) := Int.mul_le_mul_of_nonneg_right (by omega) (by omega)
                      omega⟩
                    have hdk := hge k (Nat.le_refl k) (by omega)
                    have hdp : 0 ≤ D1 0 k ∧ D1 0 k ≤ 359 := by rw [hdk.1]; exact tr_rg hw L k _
                    have hga := aim_rg hw (i := k) (r := D1 1 k)
                    have hrun : runQ c (D1 1 k) := by rw [hdk.2]; exact rb_run hw (by omega)
                    have hW4 : ∃ (w0 w1 w3 w4 : Value) (wk : Int), ∀ a, rfQ A (D1 1 k) = some a → ∃ q : Nat, D1 1 k = q ∧ (q : Int) < c 6 0 ∧ a = shA A (30 + q) ∧ w0 = .ref (shA A (10 + (c 8 q).toNat)) ∧ w1 = iv (c 7 q) ∧ w3 = iv (c 10 q) ∧ w4 = iv (c 11 q) ∧ wk = D1 2 q := by
                      rcases hrun with z | ⟨q, z1, z2⟩
                      · exact ⟨.null, .null, .null, .null, 0, fun a ha => by rw [z] at ha; cases ha⟩
                      · exact ⟨_, _, _, _, _, fun a ha => ⟨q, z1, z2, by rw [z1, rfQ_n] at ha; cases ha; rfl, rfl, rfl, rfl, rfl, rfl⟩⟩
                    obtain ⟨u0, u1, u3, u4, uk, hW4⟩ := hW4
                    refine n_invV C (c_wtb hst (hM.mi (i := k) (by omega)) (tk_rg hw k) (hM.aim hrun) hdp hga ⟨hsp1, hsp2.2⟩ hLz (by omega) (w0 := u0) (w1 := u1) (w3 := u3) (w4 := u4) (wk := uk) (fun a ha => by
                      obtain ⟨q, z1, z2, rfl, rfl, rfl, rfl, rfl, rfl⟩ := hW4 a ha
                      rw [z1, aim_q rfl]
                      exact hM.qi z2)) ⟨t4_33, t4_36, t1_10, ⟨by decide, by decide⟩, by show _ = some 1; decide +kernel, by decide⟩ t4_34 t4_35 (hM.mi (i := k) (by omega)) vC4 (by decide) (by omega) (by omega) (Nat.le_of_ble_eq_true rfl) rfl dX2_planWork_78 (fun r σ1 h' => ?_) (fun _ _ h => h.elim)
                    obtain ⟨rfl, p1, p2, p3⟩ := h'
                    rw [wyO_R] at p1 p3
                    have hPR : goV (tkQ c k) (D1 0 k) (stV (c 4 k * (L : Int)) (wyR (D1 1 k) (tkQ c k) (D1 0 k) (aimOf c k (D1 1 k)))) = (tr c L k (b * L + L)).1 := by
                      rw [tr_bar hw L (Nat.le_refl L), hdk.1, hdk.2]
                      rfl
                    rw [hPR] at p1
                    have hM1 : ∃ D3 : Tb, CB g.2.1 A β c D3 σ1 ∧ (∀ j, j ≠ k → D3 0 j = D1 0 j ∧ D3 1 j = D1 1 j) ∧ D3 0 k = (tr c L k (b * L + L)).1 ∧ D3 1 k = D1 1 k ∧ (∀ q : Nat, D1 1 k ≠ q → D3 2 q = D1 2 q) ∧ ∀ q : Nat, D1 1 k = q → D3 2 q = D1 2 q + min (L : Int) (tkV (c 4 k) (wyR (D1 1 k) (tkQ c k) (D1 0 k) (aimOf c k (D1 1 k)))) := by
                      rcases hrun with z | ⟨q, z1, z2⟩
                      · refine ⟨tu D1 0 k (tr c L k (b * L + L)).1, CB.mac hw hI hM (i := k) (by omega) ?_ (fun j hj => ⟨tu_j hj, tu_k (by decide)⟩) (fun j hj => tu_k (by decide)) (fun q hq => p2 q hq (by rw [z]; exact fun y => by cases y)) (by rw [tu_k (by decide)]; exact Or.inl z), fun j hj => ⟨tu_j hj, tu_k (by decide)⟩, tu_s .., tu_k (by decide), fun q _ => tu_k (by decide), fun q hq => absurd (hq.symm.trans z) (by omega)⟩
                        unfold ctM
                        rw [tu_s, tu_k (by decide)]
                        exact p1
                      · have p4 := p3 _ (by rw [z1]; exact rfQ_n q)
                        obtain ⟨q', y1, y2, y3, y4, y5, y6, y7, y8⟩ := hW4 _ (by rw [z1]; exact rfQ_n q)
                        have hqq : q' = q := by omega
                        subst hqq
                        generalize hX : D1 2 q' + min (L : Int) (tkV (c 4 k) (wyR (D1 1 k) (tkQ c k) (D1 0 k) (aimOf c k (D1 1 k)))) = xx
                        rw [y8, hX, y4, y5, y6, y7, z1, aim_q rfl] at p4
                        have hne : shA A (10 + k) ≠ shA A (30 + q') := hI.ne (lvM hw (by omega)).1 (lvQ z2) (by have := hw.1; omega)
                        have hMa : CB g.2.1 A β c (tu D1 2 q' xx) (wup σ (shA A (30 + q')) (.inr (3, ctC A c (tu D1 2 q' xx) q'))) := CB.cue hw hI hM z2 (wup_s ..) (fun j hj => tu_j hj) (fun j hj => ⟨tu_k (by decide), tu_k (by decide)⟩) (fun a ha => wup_n ha)
                        refine ⟨tu (tu D1 2 q' xx) 0 k (tr c L k (b * L + L)).1, CB.mac hw hI hMa (i := k) (by omega) ?_ (fun j hj => ⟨tu_j hj, tu_k (by decide)⟩) (fun j hj => tu_k (by decide)) (fun a ha => ?_) (by rw [tu_k (by decide), tu_k (by decide)]; exact Or.inr ⟨q', z1, z2⟩), fun j hj => ⟨by rw [tu_j hj, tu_k (by decide)], by rw [tu_k (by decide), tu_k (by decide)]⟩, tu_s .., by rw [tu_k (by decide), tu_k (by decide)], fun y hy => by rw [tu_k (by decide), tu_j (fun e => hy (by rw [e]; exact z1))], fun y hy => ?_⟩
                        · unfold ctM
                          rw [tu_s, tu_k (by decide), tu_k (by decide)]
                          exact p1
                        · by_cases e : a = shA A (30 + q')
                          · rw [e, wup_s, p4]
                            unfold ctC
                            rw [tu_s]
                          · rw [wup_n e]
                            exact p2 a ha (by rw [z1, rfQ_n]; exact fun t => e (Option.some.inj t).symm)
                        · have hyq : y = q' := by omega
                          rw [hyq, tu_k (by decide), tu_s, ← hX]
                    obtain ⟨D3, hM1, e1, e2, e3, e4, e5⟩ := hM1
                    refine n_iinc (lv' := [(3, iv ((k : Int) + 1)), (2, iv (b : Int)), (0, .ref (shA A 0)), (1, iv (L : Int))]) C dX2_planWork_81 rfl (by rw [hN]; decide) rfl ?_
                    refine n_goto C 55 dX2_planWork_84 (by decide) ?_
                    exact ih2 (k + 1) σ1 D3 hM1 (fun j hj => by
                      by_cases z : j = k
                      · rw [z, e2, e3]; exact ⟨rfl, hdk.2⟩
                      · rw [(e1 j z).1, (e1 j z).2]; exact hlt j (by omega)) (fun j hj hj2 => by rw [(e1 j (by omega)).1, (e1 j (by omega)).2]; exact hge j (by omega) hj2) (fun q hq => by
                      have g8 := (wq q).2.2.1
                      have g9 := (wq q).2.2.2.1 hq
                      by_cases z : (c 8 q).toNat = k
                      · have gk : c 8 q = k := by omega
                        have hwq := hw1 q hq
                        rw [if_neg (by omega)] at hwq
                        rw [if_pos (by omega)]
                        by_cases y : D1 1 k = q
                        · rw [e5 q y, hwq, cnt_bar hw hq gk (by omega) (by rw [← hdk.2]; exact y) L (Nat.le_refl L), ← hdk.1, ← hdk.2]
                        · rw [e4 q y, hwq, cnt_off gk (by rw [← hdk.2]; exact y) L (Nat.le_refl L)]
                      · have y : D1 1 k ≠ q := fun y => by
                          rcases rb_mac (b := b) (j := k) hw (L := L) (by omega) with t | ⟨t, t1, t2, t3, t4⟩
                          · rw [← hdk.2, y] at t; omega
                          · rw [← hdk.2, y] at t1
                            have : t = q := by omega
                            subst this
                            omega
                        rw [e4 q y, hw1 q hq]
                        by_cases t : (c 8 q).toNat < k
                        · rw [if_pos t, if_pos (by omega)]
                        · rw [if_neg t, if_neg (by omega)]) (by omega) (by omega)
              exact LP2 7 0 σ D2 hM (fun j hj => absurd hj (Nat.not_lt_zero j)) (fun j _ hj => ⟨by rw [(hs j hj).1, (hTS j hj).1], by rw [(hs j hj).2, rb_eff (by omega), (hTS j hj).2]⟩) (fun q hq => by rw [if_neg (Nat.not_lt_zero _), hw3 q]; exact hcn q hq) (by omega) (by omega)
        exact LP3 31 0 σ D0 hM (fun j hj => by rw [Nat.zero_mul]; exact ⟨(hr j hj).1, (hr j hj).2⟩) (fun q hq => by rw [Nat.zero_mul, h2 q]; exact h0 q (by omega)) (by omega) (by omega)
      · refine n_aload_n C dX2_planWork_13 rfl ?_
        refine n_get C hM.1.1 vC5 vI5 1 (by decide) t1_64 rfl rfl dX2_planWork_14 ?_
        refine n_iload_n C dX2_planWork_17 rfl ?_
        refine n_invV C (c_get hst (hM.1.lst hw hI (j := 1) (by decide) hl1) (i := k) (by omega) (hI.2.2.1 k (by omega))) ⟨t2_87, t2_90, t1_4, ⟨by decide, by decide⟩, by show _ = some 1; decide +kernel, by decide⟩ t2_88 t2_89 (hM.1.2.1 1 (by decide)) cJ (by decide) (by omega) (by omega) (Nat.le_of_ble_eq_true rfl) rfl dX2_planWork_18 (fun r σ' h' => ?_) (fun _ _ h => h.elim)
        obtain ⟨rfl, hσ⟩ := h'
        rw [hσ]
        refine n_cast C (hM.qi (q := k) (by omega)) vC3 t2_113 dX2_planWork_21 ?_
        refine n_iconst (x := 0) C dX2_planWork_24 ?_
        refine n_put C (hM.qi (q := k) (by omega)) vC3 vI3 tyX0 tyX0_ok nmX0 5 (by decide) t2_129 rfl rfl rfl rfl (show (5 : Nat) < 6 by decide) dX2_planWork_25 ?_
        refine wab (e := (.inr (3, [.ref (shA A (10 + (c 8 k).toNat)), iv (c 7 k), iv (c 9 k), iv (c 10 k), iv (c 11 k), iv 0]))) (fun σ0 H0 O0 => ?_)
        have hM1 : CB g.2.1 A β c (tu D1 2 k 0) σ0 := CB.cue hw hI hM (i := k) (by omega) (by unfold ctC; rw [tu_s]; exact H0) (fun j hj => tu_j hj) (fun j hj => ⟨tu_k (by decide), tu_k (by decide)⟩) O0
        refine n_iinc (lv' := [(2, iv ((k : Int) + 1)), (0, .ref (shA A 0)), (1, iv (L : Int))]) C dX2_planWork_28 rfl (by rw [hN]; decide) rfl ?_
        refine n_goto C 2 dX2_planWork_31 (by decide) ?_
        exact ih (k + 1) _ _ hM1 (fun j hj => by
          by_cases z : j = k
          · rw [z, tu_s]
          · rw [tu_j z]; exact h0 j (by omega)) (by omega) (by omega)
  exact LP 25 0 σ D hM (fun j hj => absurd hj (Nat.not_lt_zero j)) (by omega) (by omega)
