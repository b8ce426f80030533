set_option maxRecDepth 100000 in
set_option maxHeartbeats 4000000 in
theorem p_wagon {g : Gx} (hst : g.1.stackTraces = false) {t p w s : Int} (hgt : rg t) (hgp : rg p) (hgw : rg w) (hgs : rg s) {A : ShT} {β : Wd} {c D : Tb} {σ : Wd} (hM : CB g.2.1 A β c D σ) (hw : WF c) (hI : CI g c A)  : CT g yX2_wagon cX2_wagon 5 (some .int) 8 5 113 [.ref (shA A 0), iv t, iv p, iv w, iv s] σ (fun r σ' => ∃ (x : Int) (A' : ShT) (D' : Tb), r = some (iv x) ∧ GW g.2.1 A c σ A' (nxWagon c t p w s) D' σ' ∧ CI g (nxWagon c t p w s) A' ∧ cdWagon c t p w s = 0 ∧ x = c 0 0) (fun E σ' => σ' = σ ∧ ((E = "java/lang/IllegalArgumentException" ∧ cdWagon c t p w s = 1) ∨ (E = "java/lang/IllegalStateException" ∧ cdWagon c t p w s = 2))) := by
  refine CT.of hst (by decide +kernel) (Nat.le_of_ble_eq_true rfl) (fun Φ C Rr hY hN => ?_)
  show N Φ 0 0 σ 0 [(0, .ref (shA A 0)), (1, iv t), (2, iv p), (3, iv w), (4, iv s)] []
  unfold rg at hgt
  unfold rg at hgp
  unfold rg at hgw
  unfold rg at hgs
  obtain ⟨w0, w6, w12, w13, w14, w15, w16, wm, wq, ww⟩ := id hw
  obtain ⟨n0, hn0⟩ : ∃ n : Nat, c 0 0 = n := ⟨(c 0 0).toNat, by omega⟩
  obtain ⟨n6, hn6⟩ : ∃ n : Nat, c 6 0 = n := ⟨(c 6 0).toNat, by omega⟩
  have hl0 : nL3 c 0 = n0 := hn0
  have hl1 : nL3 c 1 = n6 := hn6
  have hl2 : nL3 c 2 = n6 := hn6
  refine n_iload_n C dX2_wagon_0 rfl ?_
  refine n_iconst (x := 0) C dX2_wagon_1 ?_
  refine n_iconst (x := 2) C dX2_wagon_2 ?_
  refine n_invS C (k_within hst (by unfold rg; omega) (by unfold rg; omega) (by unfold rg; omega)) ⟨t1_110, t1_112, t1_1, ⟨by decide, by decide⟩, by show _ = some 3; decide +kernel, by decide⟩ t1_111 (by decide) (by omega) (by omega) (Nat.le_of_ble_eq_true rfl) rfl dX2_wagon_3 (fun r σ' h' => ?_) (fun _ _ h => h.elim)
  obtain ⟨x, rfl, hσ, hx⟩ := h'
  rw [hσ]
  refine n_if_eq C 45 dX2_wagon_6 (by decide) (by unfold rg; omega) (fun b6 => ?_) (fun b6 => ?_)
  · refine n_iconst (x := 0) C dX2_wagon_45 ?_
    refine n_invS C (k_allow hst (by omega)) ⟨t1_113, t1_115, t1_1, ⟨by decide, by decide⟩, by show _ = some 1; decide +kernel, by decide⟩ t1_114 (by decide) (by omega) (by omega) (Nat.le_of_ble_eq_true rfl) rfl dX2_wagon_46 (fun r σ' h' => ?_) (fun E σ' h' => by
        obtain ⟨rfl, rfl, hz⟩ := h'
        exact n_out C Rr ⟨rfl, Or.inl ⟨rfl, by unfold cdWagon; rw [if_neg (by omega)]⟩⟩ (by omega) (by omega))
    obtain ⟨-, -, hz⟩ := h'
    exfalso; omega
  · refine n_iload_n C dX2_wagon_9 rfl ?_
    refine n_iconst (x := 0) C dX2_wagon_10 ?_
    refine n_sipush (x := 200) C dX2_wagon_11 (by decide) ?_
    refine n_invS C (k_within hst (by unfold rg; omega) (by unfold rg; omega) (by unfold rg; omega)) ⟨t1_110, t1_112, t1_1, ⟨by decide, by decide⟩, by show _ = some 3; decide +kernel, by decide⟩ t1_111 (by decide) (by omega) (by omega) (Nat.le_of_ble_eq_true rfl) rfl dX2_wagon_14 (fun r σ' h' => ?_) (fun _ _ h => h.elim)
    obtain ⟨x, rfl, hσ, hx⟩ := h'
    rw [hσ]
    refine n_if_eq C 45 dX2_wagon_17 (by decide) (by unfold rg; omega) (fun b17 => ?_) (fun b17 => ?_)
    · refine n_iconst (x := 0) C dX2_wagon_45 ?_
      refine n_invS C (k_allow hst (by omega)) ⟨t1_113, t1_115, t1_1, ⟨by decide, by decide⟩, by show _ = some 1; decide +kernel, by decide⟩ t1_114 (by decide) (by omega) (by omega) (Nat.le_of_ble_eq_true rfl) rfl dX2_wagon_46 (fun r σ' h' => ?_) (fun E σ' h' => by
          obtain ⟨rfl, rfl, hz⟩ := h'
          exact n_out C Rr ⟨rfl, Or.inl ⟨rfl, by unfold cdWagon; rw [if_neg (by omega)]⟩⟩ (by omega) (by omega))
      obtain ⟨-, -, hz⟩ := h'
      exfalso; omega
    · refine n_iload_n C dX2_wagon_20 rfl ?_
      refine n_iconst (x := 1) C dX2_wagon_21 ?_
      refine n_bipush (x := 20) C dX2_wagon_22 (by decide) ?_
      refine n_invS C (k_within hst (by unfold rg; omega) (by unfold rg; omega) (by unfold rg; omega)) ⟨t1_110, t1_112, t1_1, ⟨by decide, by decide⟩, by show _ = some 3; decide +kernel, by decide⟩ t1_111 (by decide) (by omega) (by omega) (Nat.le_of_ble_eq_true rfl) rfl dX2_wagon_24 (fun r σ' h' => ?_) (fun _ _ h => h.elim)
      obtain ⟨x, rfl, hσ, hx⟩ := h'
      rw [hσ]
      refine n_if_eq C 45 dX2_wagon_27 (by decide) (by unfold rg; omega) (fun b27 => ?_) (fun b27 => ?_)
      · refine n_iconst (x := 0) C dX2_wagon_45 ?_
        refine n_invS C (k_allow hst (by omega)) ⟨t1_113, t1_115, t1_1, ⟨by decide, by decide⟩, by show _ = some 1; decide +kernel, by decide⟩ t1_114 (by decide) (by omega) (by omega) (Nat.le_of_ble_eq_true rfl) rfl dX2_wagon_46 (fun r σ' h' => ?_) (fun E σ' h' => by
            obtain ⟨rfl, rfl, hz⟩ := h'
            exact n_out C Rr ⟨rfl, Or.inl ⟨rfl, by unfold cdWagon; rw [if_neg (by omega)]⟩⟩ (by omega) (by omega))
        obtain ⟨-, -, hz⟩ := h'
        exfalso; omega
      · refine n_iload C dX2_wagon_30 rfl ?_
        refine n_iconst (x := 1) C dX2_wagon_32 ?_
        refine n_bipush (x := 10) C dX2_wagon_33 (by decide) ?_
        refine n_invS C (k_within hst (by unfold rg; omega) (by unfold rg; omega) (by unfold rg; omega)) ⟨t1_110, t1_112, t1_1, ⟨by decide, by decide⟩, by show _ = some 3; decide +kernel, by decide⟩ t1_111 (by decide) (by omega) (by omega) (Nat.le_of_ble_eq_true rfl) rfl dX2_wagon_35 (fun r σ' h' => ?_) (fun _ _ h => h.elim)
        obtain ⟨x, rfl, hσ, hx⟩ := h'
        rw [hσ]
        refine n_if_eq C 45 dX2_wagon_38 (by decide) (by unfold rg; omega) (fun b38 => ?_) (fun b38 => ?_)
        · refine n_iconst (x := 0) C dX2_wagon_45 ?_
          refine n_invS C (k_allow hst (by omega)) ⟨t1_113, t1_115, t1_1, ⟨by decide, by decide⟩, by show _ = some 1; decide +kernel, by decide⟩ t1_114 (by decide) (by omega) (by omega) (Nat.le_of_ble_eq_true rfl) rfl dX2_wagon_46 (fun r σ' h' => ?_) (fun E σ' h' => by
              obtain ⟨rfl, rfl, hz⟩ := h'
              exact n_out C Rr ⟨rfl, Or.inl ⟨rfl, by unfold cdWagon; rw [if_neg (by omega)]⟩⟩ (by omega) (by omega))
          obtain ⟨-, -, hz⟩ := h'
          exfalso; omega
        · refine n_iconst (x := 1) C dX2_wagon_41 ?_
          refine n_goto C 46 dX2_wagon_42 (by decide) ?_
          refine n_invS C (k_allow hst (by omega)) ⟨t1_113, t1_115, t1_1, ⟨by decide, by decide⟩, by show _ = some 1; decide +kernel, by decide⟩ t1_114 (by decide) (by omega) (by omega) (Nat.le_of_ble_eq_true rfl) rfl dX2_wagon_46 (fun r σ' h' => ?_) (fun E σ' h' => by
              obtain ⟨-, -, hz⟩ := h'
              exfalso; omega)
          obtain ⟨rfl, hσ, hz⟩ := h'
          rw [hσ]
          refine n_aload_n C dX2_wagon_49 rfl ?_
          refine n_invV C (k_room hst hM hw hI) ⟨t1_184, t1_187, t1_1, ⟨by decide, by decide⟩, by show _ = some 0; decide +kernel, by decide⟩ t1_186 tp_1 hM.1.1 vC5 (by decide) (by omega) (by omega) (Nat.le_of_ble_eq_true rfl) rfl dX2_wagon_50 (fun r σ' h' => ?_) (fun E σ' h' => by
              obtain ⟨rfl, rfl, hz⟩ := h'
              exact n_out C Rr ⟨rfl, Or.inr (⟨rfl, by unfold cdWagon; rw [if_pos (by omega), if_pos hz]⟩)⟩ (by omega) (by omega))
          obtain ⟨rfl, hσ, hrm⟩ := h'
          rw [hσ]
          have hcd : cdWagon c t p w s = 0 := by unfold cdWagon; rw [if_pos (by omega), if_neg (by omega)]
          refine n_aload_n C dX2_wagon_53 rfl ?_
          refine n_new C [iv 0, iv 0, iv 0, iv 0, .null, iv 0, .null] vC4 vI4 tyX1 tyX1_ok t1_208 t1_209 t1_10 (fun j hj => by
            have hj2 : j = 0 ∨ j = 1 ∨ j = 2 ∨ j = 3 ∨ j = 4 ∨ j = 5 ∨ j = 6 := by omega
            rcases hj2 with rfl | rfl | rfl | rfl | rfl | rfl | rfl <;> rfl) (by omega) (by omega) dX2_wagon_54 (fun y hy => ?_)
          refine wab (fun σ1 H1 O1 => ?_)
          refine n_dup C dX2_wagon_57 rfl ?_
          refine n_iload_n C dX2_wagon_58 rfl ?_
          refine n_iload_n C dX2_wagon_59 rfl ?_
          refine n_iload_n C dX2_wagon_60 rfl ?_
          refine n_iload C dX2_wagon_61 rfl ?_
          refine n_invI C (c_macInit hst H1) ⟨t1_210, t1_212, t1_10, ⟨by decide, by decide⟩, by show _ = some 4; decide +kernel, by decide⟩ t1_211 (by decide) (by decide) (by omega) (by omega) (Nat.le_of_ble_eq_true rfl) rfl dX2_wagon_63 (fun r σ2 h' => ?_) (fun _ _ h => h.elim)
          obtain ⟨rfl, z, hz, p1, p2, p3⟩ := h'
          have hzy : y ≠ z := fun q => by rw [← q, H1] at hz; cases hz
          have hz0 : σ z = none := (O1 z hzy.symm).symm.trans hz
          have hks : ∀ {m : Nat}, LV A c m → σ2 (shA A m) = σ (shA A m) := fun {m} hl => by
            have h1 := hM.1.some hw hl
            have ny : shA A m ≠ y := fun q => h1 (by rw [q]; exact hy)
            have nz : shA A m ≠ z := fun q => h1 (by rw [q]; exact hz0)
            exact (p3 _ ny nz).trans (O1 _ ny)
          have hl6 : 1 ≤ shC A 0 → LV A c 6 := fun q => Or.inr (Or.inl ⟨by omega, by omega, q⟩)
          have hLo := hM.1.lst hw hI (j := 0) (by decide) hl0
          have hLn : ALst g σ2 (shA A 1) (shM A 0) (shA A 6) n0 (shC A 0) (shF A 0) := ⟨(hks (lv0 (by decide))).trans hLo.1, hLo.2.1.imp id (fun q => ⟨q.1, (hks (hl6 q.1)).trans q.2⟩), hLo.2.2⟩
          refine n_invV C (k_addM hst ((hks (lv0 (by decide))).trans hM.1.1) hLn (fun i hi q hq => by
            rw [hI.2.1 i (by omega)] at hq
            cases hq
            exact obj4 ((hks (lvM hw (by omega)).1).trans (hM.mi (i := i) (by omega)))) (obj4 p1) (by omega) (hI.ne (lv0 (by decide)) (lv0 (by decide)) (by decide)) (fun q => hI.ne (lv0 (by decide)) (hl6 q) (by decide))) ⟨t1_239, t2_2, t1_1, ⟨by decide, by decide⟩, by show _ = some 1; decide +kernel, by decide⟩ t2_1 tp_2 ((hks (lv0 (by decide))).trans hM.1.1) vC5 (by decide) (by omega) (by omega) (Nat.le_of_ble_eq_true rfl) rfl dX2_wagon_66 (fun r σ3 h' => ?_) (fun _ _ h => h.elim)
          obtain ⟨rfl, row', cap', f', q1, q2, q3, q4, q5, q6⟩ := h'
          have f4 : (row' = shA A 6 ∧ cap' = shC A 0 ∧ 1 ≤ shC A 0) ∨ (σ row' = none ∧ row' ≠ y ∧ row' ≠ z) := by
            refine q3.imp id (fun q => ?_)
            have ry : row' ≠ y := fun t => by rw [t, p1] at q; cases q
            have rz : row' ≠ z := fun t => by rw [t, p2] at q; cases q
            exact ⟨((p3 _ ry rz).trans (O1 _ ry)).symm.trans q, ry, rz⟩
          have ryz : row' ≠ y ∧ row' ≠ z := by
            rcases f4 with ⟨t1, t2, t3⟩ | ⟨t1, t2, t3⟩
            · have h1 := hM.1.some hw (hl6 t3)
              exact ⟨fun q => h1 (by rw [← t1, q]; exact hy), fun q => h1 (by rw [← t1, q]; exact hz0)⟩
            · exact ⟨t2, t3⟩
          have hls := hM.1.some hw (lv0 (A := A) (c := c) (m := 1) (by decide))
          have ny1 : y ≠ shA A 1 := fun q => hls (by rw [← q]; exact hy)
          have nz1 : z ≠ shA A 1 := fun q => hls (by rw [← q]; exact hz0)
          have hnn : (c 0 0).toNat = n0 := by omega
          have w1n := (wm n0).2.1 (by omega)
          have v1 : tkQ (nxWagon c t p w s) n0 = t := by
            show (if c 1 n0 = 0 then (tu c 2 (c 0 0).toNat t) 2 n0 else -1) = t
            rw [if_pos w1n, hnn, tu_s]
          have v2 : nxWagon c t p w s 5 n0 = p := by
            show tu (tu (tu (tu c 2 (c 0 0).toNat t) 3 (c 0 0).toNat w) 4 (c 0 0).toNat s) 5 (c 0 0).toNat p 5 n0 = _
            rw [hnn, tu_s]
          have v3 : wdQ (nxWagon c t p w s) n0 = w := by
            show (if c 1 n0 = 0 then (tu (tu c 2 (c 0 0).toNat t) 3 (c 0 0).toNat w) 3 n0 else 0) = w
            rw [if_pos w1n, hnn, tu_s]
          have v4 : nxWagon c t p w s 4 n0 = s := by
            show tu (tu (tu c 2 (c 0 0).toNat t) 3 (c 0 0).toNat w) 4 (c 0 0).toNat s 4 n0 = _
            rw [hnn, tu_s]
          have hG := CB.newM (g := g) (A := A) (c' := nxWagon c t p w s) (σ := σ) (σ' := σ3) (D := D) (n := n0) (y := y) (z := z) (row := row') (cap := cap') (f := f') hw hI hM.1 hM.2.2 hn0 (by omega) (by unfold nxWagon; rw [tu_s]; omega) rfl rfl (by unfold nxWagon; rw [tu_rowN (by decide), tu_rowN (by decide), tu_rowN (by decide), tu_rowN (by decide), tu_rowN (by decide)]) (by unfold nxWagon; rw [tu_rowN (by decide), tu_rowN (by decide), tu_rowN (by decide), tu_rowN (by decide), tu_rowN (by decide)]) (fun j hj => by
            have hj2 : j ≠ (c 0 0).toNat := by omega
            refine ⟨?_, ?_, ?_, ?_⟩
            · show (if c 1 j = 0 then (tu c 2 (c 0 0).toNat t) 2 j else -1) = _
              rw [tu_j hj2]
              rfl
            · show tu (tu (tu (tu c 2 (c 0 0).toNat t) 3 (c 0 0).toNat w) 4 (c 0 0).toNat s) 5 (c 0 0).toNat p 5 j = _
              rw [tu_j hj2]
              rfl
            · show (if c 1 j = 0 then (tu (tu c 2 (c 0 0).toNat t) 3 (c 0 0).toNat w) 3 j else 0) = _
              rw [tu_j hj2]
              rfl
            · show tu (tu (tu c 2 (c 0 0).toNat t) 3 (c 0 0).toNat w) 4 (c 0 0).toNat s 4 j = _
              rw [tu_j hj2]
              rfl) (by unfold nxWagon; rw [tu_rowN (by decide), tu_rowN (by decide), tu_rowN (by decide), tu_rowN (by decide), tu_rowN (by decide)]) (by unfold nxWagon; rw [tu_rowN (by decide), tu_rowN (by decide), tu_rowN (by decide), tu_rowN (by decide), tu_rowN (by decide)]) (by unfold nxWagon; rw [tu_rowN (by decide), tu_rowN (by decide), tu_rowN (by decide), tu_rowN (by decide), tu_rowN (by decide)]) (by unfold nxWagon; rw [tu_rowN (by decide), tu_rowN (by decide), tu_rowN (by decide), tu_rowN (by decide), tu_rowN (by decide)]) (by unfold nxWagon; rw [tu_rowN (by decide), tu_rowN (by decide), tu_rowN (by decide), tu_rowN (by decide), tu_rowN (by decide)]) (by
            rw [v1, v2, v3, v4]
            exact (q4 y ryz.1.symm ny1).trans p1) ((q4 z ryz.2.symm nz1).trans p2) q1 q5 q6 (fun a h1 h2 h3 h4 => ((q4 a h3 h4).trans (p3 a h1 h2)).trans (O1 a h1)) hy hz0 hzy f4 q2
          exact n_ireturn C Rr rfl ⟨_, _, _, rfl, hG.1, hG.2, hcd, hn0.symm⟩ (by omega) (by omega) dX2_wagon_69
set_option maxRecDepth 100000 in
set_option maxHeartbeats 4000000 in
theorem p_turntable {g : Gx} (hst : g.1.stackTraces = false) {a s : Int} (hga : rg a) (hgs : rg s) {A : ShT} {β : Wd} {c D : Tb} {σ : Wd} (hM : CB g.2.1 A β c D σ) (hw : WF c) (hI : CI g c A)  : CT g yX2_turntable cX2_turntable 3 (some .int) 8 5 113 [.ref (shA A 0), iv a, iv s] σ (fun r σ' => ∃ (x : Int) (A' : ShT) (D' : Tb), r = some (iv x) ∧ GW g.2.1 A c σ A' (nxTable c a s) D' σ' ∧ CI g (nxTable c a s) A' ∧ cdTable c a s = 0 ∧ x = c 0 0) (fun E σ' => σ' = σ ∧ ((E = "java/lang/IllegalArgumentException" ∧ cdTable c a s = 1) ∨ (E = "java/lang/IllegalStateException" ∧ cdTable c a s = 2))) := by
  refine CT.of hst (by decide +kernel) (Nat.le_of_ble_eq_true rfl) (fun Φ C Rr hY hN => ?_)
  show N Φ 0 0 σ 0 [(0, .ref (shA A 0)), (1, iv a), (2, iv s)] []
  unfold rg at hga
  unfold rg at hgs
  obtain ⟨w0, w6, w12, w13, w14, w15, w16, wm, wq, ww⟩ := id hw
  obtain ⟨n0, hn0⟩ : ∃ n : Nat, c 0 0 = n := ⟨(c 0 0).toNat, by omega⟩
  obtain ⟨n6, hn6⟩ : ∃ n : Nat, c 6 0 = n := ⟨(c 6 0).toNat, by omega⟩
  have hl0 : nL3 c 0 = n0 := hn0
  have hl1 : nL3 c 1 = n6 := hn6
  have hl2 : nL3 c 2 = n6 := hn6
  refine n_iload_n C dX2_turntable_0 rfl ?_
  refine n_iconst (x := 0) C dX2_turntable_1 ?_
  refine n_sipush (x := 359) C dX2_turntable_2 (by decide) ?_
  refine n_invS C (k_within hst (by unfold rg; omega) (by unfold rg; omega) (by unfold rg; omega)) ⟨t1_110, t1_112, t1_1, ⟨by decide, by decide⟩, by show _ = some 3; decide +kernel, by decide⟩ t1_111 (by decide) (by omega) (by omega) (Nat.le_of_ble_eq_true rfl) rfl dX2_turntable_5 (fun r σ' h' => ?_) (fun _ _ h => h.elim)
  obtain ⟨x, rfl, hσ, hx⟩ := h'
  rw [hσ]
  refine n_if_eq C 25 dX2_turntable_8 (by decide) (by unfold rg; omega) (fun b8 => ?_) (fun b8 => ?_)
  · refine n_iconst (x := 0) C dX2_turntable_25 ?_
    refine n_invS C (k_allow hst (by omega)) ⟨t1_113, t1_115, t1_1, ⟨by decide, by decide⟩, by show _ = some 1; decide +kernel, by decide⟩ t1_114 (by decide) (by omega) (by omega) (Nat.le_of_ble_eq_true rfl) rfl dX2_turntable_26 (fun r σ' h' => ?_) (fun E σ' h' => by
        obtain ⟨rfl, rfl, hz⟩ := h'
        exact n_out C Rr ⟨rfl, Or.inl ⟨rfl, by unfold cdTable; rw [if_neg (by omega)]⟩⟩ (by omega) (by omega))
    obtain ⟨-, -, hz⟩ := h'
    exfalso; omega
  · refine n_iload_n C dX2_turntable_11 rfl ?_
    refine n_iconst (x := 1) C dX2_turntable_12 ?_
    refine n_bipush (x := 10) C dX2_turntable_13 (by decide) ?_
    refine n_invS C (k_within hst (by unfold rg; omega) (by unfold rg; omega) (by unfold rg; omega)) ⟨t1_110, t1_112, t1_1, ⟨by decide, by decide⟩, by show _ = some 3; decide +kernel, by decide⟩ t1_111 (by decide) (by omega) (by omega) (Nat.le_of_ble_eq_true rfl) rfl dX2_turntable_15 (fun r σ' h' => ?_) (fun _ _ h => h.elim)
    obtain ⟨x, rfl, hσ, hx⟩ := h'
    rw [hσ]
    refine n_if_eq C 25 dX2_turntable_18 (by decide) (by unfold rg; omega) (fun b18 => ?_) (fun b18 => ?_)
    · refine n_iconst (x := 0) C dX2_turntable_25 ?_
      refine n_invS C (k_allow hst (by omega)) ⟨t1_113, t1_115, t1_1, ⟨by decide, by decide⟩, by show _ = some 1; decide +kernel, by decide⟩ t1_114 (by decide) (by omega) (by omega) (Nat.le_of_ble_eq_true rfl) rfl dX2_turntable_26 (fun r σ' h' => ?_) (fun E σ' h' => by
          obtain ⟨rfl, rfl, hz⟩ := h'
          exact n_out C Rr ⟨rfl, Or.inl ⟨rfl, by unfold cdTable; rw [if_neg (by omega)]⟩⟩ (by omega) (by omega))
      obtain ⟨-, -, hz⟩ := h'
      exfalso; omega
    · refine n_iconst (x := 1) C dX2_turntable_21 ?_
      refine n_goto C 26 dX2_turntable_22 (by decide) ?_
      refine n_invS C (k_allow hst (by omega)) ⟨t1_113, t1_115, t1_1, ⟨by decide, by decide⟩, by show _ = some 1; decide +kernel, by decide⟩ t1_114 (by decide) (by omega) (by omega) (Nat.le_of_ble_eq_true rfl) rfl dX2_turntable_26 (fun r σ' h' => ?_) (fun E σ' h' => by
          obtain ⟨-, -, hz⟩ := h'
          exfalso; omega)
      obtain ⟨rfl, hσ, hz⟩ := h'
      rw [hσ]
      refine n_aload_n C dX2_turntable_29 rfl ?_
      refine n_invV C (k_room hst hM hw hI) ⟨t1_184, t1_187, t1_1, ⟨by decide, by decide⟩, by show _ = some 0; decide +kernel, by decide⟩ t1_186 tp_1 hM.1.1 vC5 (by decide) (by omega) (by omega) (Nat.le_of_ble_eq_true rfl) rfl dX2_turntable_30 (fun r σ' h' => ?_) (fun E σ' h' => by
          obtain ⟨rfl, rfl, hz⟩ := h'
          exact n_out C Rr ⟨rfl, Or.inr (⟨rfl, by unfold cdTable; rw [if_pos (by omega), if_pos hz]⟩)⟩ (by omega) (by omega))
      obtain ⟨rfl, hσ, hrm⟩ := h'
      rw [hσ]
      have hcd : cdTable c a s = 0 := by unfold cdTable; rw [if_pos (by omega), if_neg (by omega)]
      refine n_aload_n C dX2_turntable_33 rfl ?_
      refine n_new C [iv 0, iv 0, iv 0, iv 0, .null, iv 0, .null] vC4 vI4 tyX1 tyX1_ok t1_208 t1_209 t1_10 (fun j hj => by
        have hj2 : j = 0 ∨ j = 1 ∨ j = 2 ∨ j = 3 ∨ j = 4 ∨ j = 5 ∨ j = 6 := by omega
        rcases hj2 with rfl | rfl | rfl | rfl | rfl | rfl | rfl <;> rfl) (by omega) (by omega) dX2_turntable_34 (fun y hy => ?_)
      refine wab (fun σ1 H1 O1 => ?_)
      refine n_dup C dX2_turntable_37 rfl ?_
      refine n_iconst (x := (-1)) C dX2_turntable_38 ?_
      refine n_iload_n C dX2_turntable_39 rfl ?_
      refine n_iconst (x := 0) C dX2_turntable_40 ?_
      refine n_iload_n C dX2_turntable_41 rfl ?_
      refine n_invI C (c_macInit hst H1) ⟨t1_210, t1_212, t1_10, ⟨by decide, by decide⟩, by show _ = some 4; decide +kernel, by decide⟩ t1_211 (by decide) (by decide) (by omega) (by omega) (Nat.le_of_ble_eq_true rfl) rfl dX2_turntable_42 (fun r σ2 h' => ?_) (fun _ _ h => h.elim)
      obtain ⟨rfl, z, hz, p1, p2, p3⟩ := h'
      have hzy : y ≠ z := fun q => by rw [← q, H1] at hz; cases hz
      have hz0 : σ z = none := (O1 z hzy.symm).symm.trans hz
      have hks : ∀ {m : Nat}, LV A c m → σ2 (shA A m) = σ (shA A m) := fun {m} hl => by
        have h1 := hM.1.some hw hl
        have ny : shA A m ≠ y := fun q => h1 (by rw [q]; exact hy)
        have nz : shA A m ≠ z := fun q => h1 (by rw [q]; exact hz0)
        exact (p3 _ ny nz).trans (O1 _ ny)
      have hl6 : 1 ≤ shC A 0 → LV A c 6 := fun q => Or.inr (Or.inl ⟨by omega, by omega, q⟩)
      have hLo := hM.1.lst hw hI (j := 0) (by decide) hl0
      have hLn : ALst g σ2 (shA A 1) (shM A 0) (shA A 6) n0 (shC A 0) (shF A 0) := ⟨(hks (lv0 (by decide))).trans hLo.1, hLo.2.1.imp id (fun q => ⟨q.1, (hks (hl6 q.1)).trans q.2⟩), hLo.2.2⟩
      refine n_invV C (k_addM hst ((hks (lv0 (by decide))).trans hM.1.1) hLn (fun i hi q hq => by
        rw [hI.2.1 i (by omega)] at hq
        cases hq
        exact obj4 ((hks (lvM hw (by omega)).1).trans (hM.mi (i := i) (by omega)))) (obj4 p1) (by omega) (hI.ne (lv0 (by decide)) (lv0 (by decide)) (by decide)) (fun q => hI.ne (lv0 (by decide)) (hl6 q) (by decide))) ⟨t1_239, t2_2, t1_1, ⟨by decide, by decide⟩, by show _ = some 1; decide +kernel, by decide⟩ t2_1 tp_2 ((hks (lv0 (by decide))).trans hM.1.1) vC5 (by decide) (by omega) (by omega) (Nat.le_of_ble_eq_true rfl) rfl dX2_turntable_45 (fun r σ3 h' => ?_) (fun _ _ h => h.elim)
      obtain ⟨rfl, row', cap', f', q1, q2, q3, q4, q5, q6⟩ := h'
      have f4 : (row' = shA A 6 ∧ cap' = shC A 0 ∧ 1 ≤ shC A 0) ∨ (σ row' = none ∧ row' ≠ y ∧ row' ≠ z) := by
        refine q3.imp id (fun q => ?_)
        have ry : row' ≠ y := fun t => by rw [t, p1] at q; cases q
        have rz : row' ≠ z := fun t => by rw [t, p2] at q; cases q
        exact ⟨((p3 _ ry rz).trans (O1 _ ry)).symm.trans q, ry, rz⟩
      have ryz : row' ≠ y ∧ row' ≠ z := by
        rcases f4 with ⟨t1, t2, t3⟩ | ⟨t1, t2, t3⟩
        · have h1 := hM.1.some hw (hl6 t3)
          exact ⟨fun q => h1 (by rw [← t1, q]; exact hy), fun q => h1 (by rw [← t1, q]; exact hz0)⟩
        · exact ⟨t2, t3⟩
      have hls := hM.1.some hw (lv0 (A := A) (c := c) (m := 1) (by decide))
      have ny1 : y ≠ shA A 1 := fun q => hls (by rw [← q]; exact hy)
      have nz1 : z ≠ shA A 1 := fun q => hls (by rw [← q]; exact hz0)
      have hnn : (c 0 0).toNat = n0 := by omega
      have w1n := (wm n0).2.1 (by omega)
      have v1 : tkQ (nxTable c a s) n0 = -1 := by
        show (if (tu c 1 (c 0 0).toNat 1) 1 n0 = 0 then c 2 n0 else -1) = -1
        rw [hnn, tu_s]
        rfl
      have v2 : nxTable c a s 5 n0 = a := by
        show tu (tu (tu c 1 (c 0 0).toNat 1) 4 (c 0 0).toNat s) 5 (c 0 0).toNat a 5 n0 = _
        rw [hnn, tu_s]
      have v3 : wdQ (nxTable c a s) n0 = 0 := by
        show (if (tu c 1 (c 0 0).toNat 1) 1 n0 = 0 then c 3 n0 else 0) = 0
        rw [hnn, tu_s]
        rfl
      have v4 : nxTable c a s 4 n0 = s := by
        show tu (tu c 1 (c 0 0).toNat 1) 4 (c 0 0).toNat s 4 n0 = _
        rw [hnn, tu_s]
      have hG := CB.newM (g := g) (A := A) (c' := nxTable c a s) (σ := σ) (σ' := σ3) (D := D) (n := n0) (y := y) (z := z) (row := row') (cap := cap') (f := f') hw hI hM.1 hM.2.2 hn0 (by omega) (by unfold nxTable; rw [tu_s]; omega) rfl rfl (by unfold nxTable; rw [tu_rowN (by decide), tu_rowN (by decide), tu_rowN (by decide), tu_rowN (by decide)]) (by unfold nxTable; rw [tu_rowN (by decide), tu_rowN (by decide), tu_rowN (by decide), tu_rowN (by decide)]) (fun j hj => by
        have hj2 : j ≠ (c 0 0).toNat := by omega
        refine ⟨?_, ?_, ?_, ?_⟩
        · show (if (tu c 1 (c 0 0).toNat 1) 1 j = 0 then c 2 j else -1) = _
          rw [tu_j hj2]
          rfl
        · show tu (tu (tu c 1 (c 0 0).toNat 1) 4 (c 0 0).toNat s) 5 (c 0 0).toNat a 5 j = _
          rw [tu_j hj2]
          rfl
        · show (if (tu c 1 (c 0 0).toNat 1) 1 j = 0 then c 3 j else 0) = _
          rw [tu_j hj2]
          rfl
        · show tu (tu c 1 (c 0 0).toNat 1) 4 (c 0 0).toNat s 4 j = _
          rw [tu_j hj2]
          rfl) (by unfold nxTable; rw [tu_rowN (by decide), tu_rowN (by decide), tu_rowN (by decide), tu_rowN (by decide)]) (by unfold nxTable; rw [tu_rowN (by decide), tu_rowN (by decide), tu_rowN (by decide), tu_rowN (by decide)]) (by unfold nxTable; rw [tu_rowN (by decide), tu_rowN (by decide), tu_rowN (by decide), tu_rowN (by decide)]) (by unfold nxTable; rw [tu_rowN (by decide), tu_rowN (by decide), tu_rowN (by decide), tu_rowN (by decide)]) (by unfold nxTable; rw [tu_rowN (by decide), tu_rowN (by decide), tu_rowN (by decide), tu_rowN (by decide)]) (by
        rw [v1, v2, v3, v4]
        exact (q4 y ryz.1.symm ny1).trans p1) ((q4 z ryz.2.symm nz1).trans p2) q1 q5 q6 (fun a h1 h2 h3 h4 => ((q4 a h3 h4).trans (p3 a h1 h2)).trans (O1 a h1)) hy hz0 hzy f4 q2
      exact n_ireturn C Rr rfl ⟨_, _, _, rfl, hG.1, hG.2, hcd, hn0.symm⟩ (by omega) (by omega) dX2_turntable_48
