set_option maxRecDepth 100000 in
set_option maxHeartbeats 4000000 in
theorem k_least {g : Gx} (hst : g.1.stackTraces = false) {A : ShT} {β : Wd} {c D : Tb} {σ : Wd} (hM : CB g.2.1 A β c D σ) (hw : WF c) (hI : CI g c A) (hD : ∀ j : Nat, (j : Int) < c 0 0 → 0 ≤ D 0 j ∧ D 0 j ≤ 359)  : CT g yX2_leastPairMeetingNow cX2_leastPairMeetingNow 4 (some .int) 3 0 0 [.ref (shA A 0)] σ (fun r σ' => r = some (iv (lpK c (D 0) (-1) (c 0 0).toNat)) ∧ σ' = σ) (fun _ _ => False) := by
  refine CT.of hst (by decide +kernel) (Nat.le_of_ble_eq_true rfl) (fun Φ C Rr hY hN => ?_)
  show N Φ 0 0 σ 0 [(0, .ref (shA A 0))] []
  obtain ⟨w0, w6, w12, w13, w14, w15, w16, wm, wq, ww⟩ := id hw
  obtain ⟨n0, hn0⟩ : ∃ n : Nat, c 0 0 = n := ⟨(c 0 0).toNat, by omega⟩
  obtain ⟨n6, hn6⟩ : ∃ n : Nat, c 6 0 = n := ⟨(c 6 0).toNat, by omega⟩
  have hl0 : nL3 c 0 = n0 := hn0
  have hl1 : nL3 c 1 = n6 := hn6
  have hl2 : nL3 c 2 = n6 := hn6
  refine n_iconst (x := 0) C dX2_leastPairMeetingNow_0 ?_
  refine n_istore_n (lv' := [(1, iv 0), (0, .ref (shA A 0))]) C dX2_leastPairMeetingNow_1 (by rw [hN]; decide) rfl ?_
  have LP : ∀ (fu : Nat) (k : Nat) (hk0 : lpK c (D 0) (-1) k = -1) (hk : k ≤ n0) (hf : n0 + 1 ≤ k + fu), N Φ 0 0 σ 2 [(1, iv (k : Int)), (0, .ref (shA A 0))] [] := by
    intro fu
    induction fu with
    | zero =>
      intro k hk0 hk hf
      omega
    | succ fu ih =>
      intro k hk0 hk hf
      refine n_iload_n C dX2_leastPairMeetingNow_2 rfl ?_
      refine n_aload_n C dX2_leastPairMeetingNow_3 rfl ?_
      refine n_get C hM.1.1 vC5 vI5 0 (by decide) t1_63 rfl rfl dX2_leastPairMeetingNow_4 ?_
      refine n_invV C (c_size hst (hM.1.lst hw hI (j := 0) (by decide) hl0)) ⟨t1_188, t1_191, t1_4, ⟨by decide, by decide⟩, by show _ = some 0; decide +kernel, by decide⟩ t1_189 t1_190 (hM.1.2.1 0 (by decide)) cJ (by decide) (by omega) (by omega) (Nat.le_of_ble_eq_true rfl) rfl dX2_leastPairMeetingNow_7 (fun r σ' h' => ?_) (fun _ _ h => h.elim)
      obtain ⟨rfl, hσ⟩ := h'
      rw [hσ]
      refine n_icmp_ge C 77 dX2_leastPairMeetingNow_10 (by decide) (by unfold rg; omega) (by unfold rg; omega) (fun b10 => ?_) (fun b10 => ?_)
      · refine n_iconst (x := (-1)) C dX2_leastPairMeetingNow_77 ?_
        exact n_ireturn C Rr rfl ⟨by rw [show (c 0 0).toNat = k by omega, hk0], rfl⟩ (by omega) (by omega) dX2_leastPairMeetingNow_78
      · refine n_aload_n C dX2_leastPairMeetingNow_13 rfl ?_
        refine n_get C hM.1.1 vC5 vI5 0 (by decide) t1_63 rfl rfl dX2_leastPairMeetingNow_14 ?_
        refine n_iload_n C dX2_leastPairMeetingNow_17 rfl ?_
        refine n_invV C (c_get hst (hM.1.lst hw hI (j := 0) (by decide) hl0) (i := k) (by omega) (hI.2.1 k (by omega))) ⟨t2_87, t2_90, t1_4, ⟨by decide, by decide⟩, by show _ = some 1; decide +kernel, by decide⟩ t2_88 t2_89 (hM.1.2.1 0 (by decide)) cJ (by decide) (by omega) (by omega) (Nat.le_of_ble_eq_true rfl) rfl dX2_leastPairMeetingNow_18 (fun r σ' h' => ?_) (fun _ _ h => h.elim)
        obtain ⟨rfl, hσ⟩ := h'
        rw [hσ]
        refine n_cast C (hM.mi (i := k) (by omega)) vC4 t1_208 dX2_leastPairMeetingNow_21 ?_
        refine n_astore_n (lv' := [(2, .ref (shA A (10 + k))), (1, iv (k : Int)), (0, .ref (shA A 0))]) C dX2_leastPairMeetingNow_24 (by rw [hN]; decide) rfl ?_
        refine n_iload_n C dX2_leastPairMeetingNow_25 rfl ?_
        refine n_iconst (x := 1) C dX2_leastPairMeetingNow_26 ?_
        refine n_iadd C dX2_leastPairMeetingNow_27 ?_
        refine n_istore_n (lv' := [(3, iv ((k : Int) + 1)), (2, .ref (shA A (10 + k))), (1, iv (k : Int)), (0, .ref (shA A 0))]) C dX2_leastPairMeetingNow_28 (by rw [hN]; decide) rfl ?_
        have d1 := hD k (by omega)
        have LP2 : ∀ (fuX : Nat) (n : Nat) (hn : lpJ c (D 0) k (-1) n = -1) (h1' : k + 1 + n ≤ n0 ∨ n = 0) (h2' : n0 + 2 ≤ k + 1 + n + fuX), N Φ 0 0 σ 29 [(3, iv ((k : Int) + 1 + n)), (2, .ref (shA A (10 + k))), (1, iv (k : Int)), (0, .ref (shA A 0))] [] := by
          intro fuX
          induction fuX with
          | zero =>
            intro n hn h1' h2'
            omega
          | succ fuX ih2 =>
            intro n hn h1' h2'
            refine n_iload_n C dX2_leastPairMeetingNow_29 rfl ?_
            refine n_aload_n C dX2_leastPairMeetingNow_30 rfl ?_
            refine n_get C hM.1.1 vC5 vI5 0 (by decide) t1_63 rfl rfl dX2_leastPairMeetingNow_31 ?_
            refine n_invV C (c_size hst (hM.1.lst hw hI (j := 0) (by decide) hl0)) ⟨t1_188, t1_191, t1_4, ⟨by decide, by decide⟩, by show _ = some 0; decide +kernel, by decide⟩ t1_189 t1_190 (hM.1.2.1 0 (by decide)) cJ (by decide) (by omega) (by omega) (Nat.le_of_ble_eq_true rfl) rfl dX2_leastPairMeetingNow_34 (fun r σ' h' => ?_) (fun _ _ h => h.elim)
            obtain ⟨rfl, hσ⟩ := h'
            rw [hσ]
            refine n_icmp_ge C 71 dX2_leastPairMeetingNow_37 (by decide) (by unfold rg; omega) (by unfold rg; omega) (fun b37 => ?_) (fun b37 => ?_)
            · refine n_iinc (lv' := [(1, iv ((k : Int) + 1)), (3, iv ((k : Int) + 1 + n)), (2, .ref (shA A (10 + k))), (0, .ref (shA A 0))]) C dX2_leastPairMeetingNow_71 rfl (by rw [hN]; decide) rfl ?_
              refine n_goto C 2 dX2_leastPairMeetingNow_74 (by decide) ?_
              refine n_keep (lv' := [(1, iv ((k : Int) + 1)), (0, .ref (shA A 0))]) [1, 0] rfl ?_
              refine ih (k + 1) ?_ (by omega) (by omega)
              show lpJ c (D 0) k (lpK c (D 0) (-1) k) ((c 0 0).toNat - (k + 1)) = -1
              rw [hk0, show (c 0 0).toNat - (k + 1) = n by omega, hn]
            · have e3 : (k : Int) + 1 + n = ((k + 1 + n : Nat) : Int) := by omega
              rw [e3]
              refine n_aload_n C dX2_leastPairMeetingNow_40 rfl ?_
              refine n_aload_n C dX2_leastPairMeetingNow_41 rfl ?_
              refine n_get C hM.1.1 vC5 vI5 0 (by decide) t1_63 rfl rfl dX2_leastPairMeetingNow_42 ?_
              refine n_iload_n C dX2_leastPairMeetingNow_45 rfl ?_
              refine n_invV C (c_get hst (hM.1.lst hw hI (j := 0) (by decide) hl0) (i := (k + 1 + n)) (by omega) (hI.2.1 (k + 1 + n) (by omega))) ⟨t2_87, t2_90, t1_4, ⟨by decide, by decide⟩, by show _ = some 1; decide +kernel, by decide⟩ t2_88 t2_89 (hM.1.2.1 0 (by decide)) cJ (by decide) (by omega) (by omega) (Nat.le_of_ble_eq_true rfl) rfl dX2_leastPairMeetingNow_46 (fun r σ' h' => ?_) (fun _ _ h => h.elim)
              obtain ⟨rfl, hσ⟩ := h'
              rw [hσ]
              refine n_cast C (hM.mi (i := (k + 1 + n)) (by omega)) vC4 t1_208 dX2_leastPairMeetingNow_49 ?_
              have d2 := hD (k + 1 + n) (by omega)
              have t1 := tk_rg hw k
              have t2 := tk_rg hw (k + 1 + n)
              have v1 := wd_rg hw k
              have v2 := wd_rg hw (k + 1 + n)
              refine n_invV C (c_meets hst (hM.mi (i := k) (by omega)) t1 (hM.mi (i := k + 1 + n) (by omega)) t2 d1 d2 v1 v2) ⟨t4_71, t4_74, t1_10, ⟨by decide, by decide⟩, by show _ = some 1; decide +kernel, by decide⟩ t4_72 t4_73 (hM.mi (i := k) (by omega)) vC4 (by decide) (by omega) (by omega) (Nat.le_of_ble_eq_true rfl) rfl dX2_leastPairMeetingNow_52 (fun r σ' h' => ?_) (fun _ _ h => h.elim)
              obtain ⟨y, rfl, hσ, hy⟩ := h'
              rw [hσ]
              have g1 := (wm k).2.2.1
              have g2 := (wm (k + 1 + n)).2.2.1
              have hmt : (tkQ c k ≠ -1 ∧ tkQ c k = tkQ c (k + 1 + n) ∧ 2 * (if 0 ≤ (D 0 k - D 0 (k + 1 + n)) then (D 0 k - D 0 (k + 1 + n)) else -(D 0 k - D 0 (k + 1 + n))) < wdQ c k + wdQ c (k + 1 + n)) ↔ mtB c (D 0) k (k + 1 + n) := by
                unfold tkQ wdQ mtB
                by_cases z1 : c 1 k = 0
                · by_cases z2 : c 1 (k + 1 + n) = 0
                  · simp only [if_pos z1, if_pos z2]
                    constructor
                    · intro ⟨q1, q2, q3⟩
                      exact ⟨z1, z2, q2, by (repeat' split at *) <;> omega⟩
                    · intro ⟨q1, q2, q3, q4⟩
                      exact ⟨by omega, q3, by (repeat' split at *) <;> omega⟩
                  · simp only [if_pos z1, if_neg z2]
                    exact ⟨fun q => absurd q.2.1 (by omega), fun q => absurd q.2.1 z2⟩
                · simp only [if_neg z1]
                  exact ⟨fun q => absurd rfl q.1, fun q => absurd q.1 z1⟩
              rw [hmt] at hy
              refine n_if_eq C 65 dX2_leastPairMeetingNow_55 (by decide) (by unfold rg; omega) (fun b55 => ?_) (fun b55 => ?_)
              · refine n_iinc (lv' := [(3, iv (((k + 1 + n : Nat) : Int) + 1)), (2, .ref (shA A (10 + k))), (1, iv (k : Int)), (0, .ref (shA A 0))]) C dX2_leastPairMeetingNow_65 rfl (by rw [hN]; decide) rfl ?_
                refine n_goto C 29 dX2_leastPairMeetingNow_68 (by decide) ?_
                have e4 : ((k + 1 + n : Nat) : Int) + 1 = (k : Int) + 1 + ((n + 1 : Nat) : Int) := by omega
                rw [e4]
                have hnm := (hy.resolve_left (fun z => by have := z.1; omega)).2
                exact ih2 (n + 1) (by show (if lpJ c (D 0) k (-1) n = -1 ∧ mtB c (D 0) k (k + 1 + n) then _ else lpJ c (D 0) k (-1) n) = -1; rw [if_neg (fun z => hnm z.2)]; exact hn) (by omega) (by omega)
              · have hmm := (hy.resolve_right (fun z => by omega)).2
                have hj1 : lpJ c (D 0) k (-1) (n + 1) = 10 * (k : Int) + (k + 1 + n : Nat) := by
                  show (if lpJ c (D 0) k (-1) n = -1 ∧ mtB c (D 0) k (k + 1 + n) then _ else lpJ c (D 0) k (-1) n) = _
                  rw [if_pos ⟨hn, hmm⟩]
                have hj2 : lpK c (D 0) (-1) (k + 1) = 10 * (k : Int) + (k + 1 + n : Nat) := by
                  show lpJ c (D 0) k (lpK c (D 0) (-1) k) ((c 0 0).toNat - (k + 1)) = _
                  rw [hk0, show (c 0 0).toNat - (k + 1) = (n + 1) + ((c 0 0).toNat - (k + 1) - (n + 1)) by omega]
                  exact lpJ_st hj1 (by omega) _
                have hj3 : lpK c (D 0) (-1) (c 0 0).toNat = 10 * (k : Int) + (k + 1 + n : Nat) := by
                  rw [show (c 0 0).toNat = (k + 1) + ((c 0 0).toNat - (k + 1)) by omega]
                  exact lpK_st hj2 (by omega) _
                refine n_bipush (x := 10) C dX2_leastPairMeetingNow_58 (by decide) ?_
                refine n_iload_n C dX2_leastPairMeetingNow_60 rfl ?_
                refine n_imul C dX2_leastPairMeetingNow_61 ?_
                refine n_iload_n C dX2_leastPairMeetingNow_62 rfl ?_
                refine n_iadd C dX2_leastPairMeetingNow_63 ?_
                exact n_ireturn C Rr rfl ⟨by rw [hj3], rfl⟩ (by omega) (by omega) dX2_leastPairMeetingNow_64
        have e5 : (k : Int) + 1 = (k : Int) + 1 + ((0 : Nat) : Int) := by omega
        have LQ := LP2 8 0 rfl (Or.inr rfl) (by omega)
        rw [← e5] at LQ
        exact LQ
  exact LP 7 0 rfl (by omega) (by omega)
set_option maxRecDepth 100000 in
set_option maxHeartbeats 4000000 in
theorem k_meet {g : Gx} (hst : g.1.stackTraces = false) {A : ShT} {β : Wd} {c D : Tb} {σ : Wd} (hM : CB g.2.1 A β c D σ) (hw : WF c) (hI : CI g c A) {L : Nat} (hL : 1 ≤ L ∧ L ≤ 80)  : CT g yX2_firstMeeting cX2_firstMeeting 4 (some .int) 4 0 0 [.ref (shA A 0), iv (L : Int)] σ (fun r σ' => ∃ D', r = some (iv (mtP c L (NT c L + 1)).1) ∧ CB g.2.1 A β c D' σ' ∧ (∀ q, D' 2 q = D 2 q) ∧ (∀ j : Nat, (j : Int) < c 0 0 → 0 ≤ D' 0 j ∧ D' 0 j ≤ 359) ∧ ((mtP c L (NT c L + 1)).1 ≠ -1 → lpK c (D' 0) (-1) (c 0 0).toNat = (mtP c L (NT c L + 1)).2)) (fun _ _ => False) := by
  refine CT.of hst (by decide +kernel) (Nat.le_of_ble_eq_true rfl) (fun Φ C Rr hY hN => ?_)
  show N Φ 0 0 σ 0 [(0, .ref (shA A 0)), (1, iv (L : Int))] []
  obtain ⟨w0, w6, w12, w13, w14, w15, w16, wm, wq, ww⟩ := id hw
  obtain ⟨n0, hn0⟩ : ∃ n : Nat, c 0 0 = n := ⟨(c 0 0).toNat, by omega⟩
  obtain ⟨n6, hn6⟩ : ∃ n : Nat, c 6 0 = n := ⟨(c 6 0).toNat, by omega⟩
  have hl0 : nL3 c 0 = n0 := hn0
  have hl1 : nL3 c 1 = n6 := hn6
  have hl2 : nL3 c 2 = n6 := hn6
  have hnT : NT c L = (c 12 0).toNat * L := rfl
  refine n_aload_n C dX2_firstMeeting_0 rfl ?_
  refine n_invV C (k_rewindAll hst hM hw hI) ⟨t4_25, t4_28, t1_1, ⟨by decide, by decide⟩, by show _ = some 0; decide +kernel, by decide⟩ t4_27 tp_14 hM.1.1 vC5 (by decide) (by omega) (by omega) (Nat.le_of_ble_eq_true rfl) rfl dX2_firstMeeting_1 (fun r σ h' => ?_) (fun _ _ h => h.elim)
  obtain ⟨rfl, D0, hM, hr, h2⟩ := h'
  have hp0 : ∀ j : Nat, (j : Int) < c 0 0 → 0 ≤ D0 0 j ∧ D0 0 j ≤ 359 := fun j hj => by rw [(hr j hj).1]; exact (wm j).2.2.2.2.2.2.1
  have hL0 := lpK_rg (c := c) (P := D0 0) (a := -1) w0.2 (by omega) (c 0 0).toNat (by omega)
  have hcg : lpK c (fun k => (tr c L k 0).1) (-1) (c 0 0).toNat = lpK c (D0 0) (-1) (c 0 0).toNat := lpK_congr (-1) (fun j hj => by rw [(hr j hj).1]; rfl) _ (by omega)
  refine n_aload_n C dX2_firstMeeting_4 rfl ?_
  refine n_invV C (k_least hst hM hw hI (D := D0) hp0) ⟨t4_67, t4_70, t1_1, ⟨by decide, by decide⟩, by show _ = some 0; decide +kernel, by decide⟩ t4_69 tp_18 hM.1.1 vC5 (by decide) (by omega) (by omega) (Nat.le_of_ble_eq_true rfl) rfl dX2_firstMeeting_5 (fun r σ' h' => ?_) (fun _ _ h => h.elim)
  obtain ⟨rfl, hσ⟩ := h'
  rw [hσ]
  have hm1 := mt_s (c := c) (L := L) (t := 0) rfl hcg
  refine n_iconst (x := (-1)) C dX2_firstMeeting_8 ?_
  refine n_icmp_eq C 14 dX2_firstMeeting_9 (by decide) (by unfold rg; omega) (by unfold rg; omega) (fun b9 => ?_) (fun b9 => ?_)
  · rw [if_pos b9] at hm1
    refine n_iconst (x := 0) C dX2_firstMeeting_14 ?_
    refine n_istore_n (lv' := [(2, iv 0), (0, .ref (shA A 0)), (1, iv (L : Int))]) C dX2_firstMeeting_15 (by rw [hN]; decide) rfl ?_
    have LP : ∀ (fu : Nat) (b : Nat) (σ : Wd) (D1 : Tb) (hM : CB g.2.1 A β c D1 σ) (hTS : ∀ j : Nat, (j : Int) < c 0 0 → D1 0 j = (tr c L j (b * L)).1 ∧ D1 1 j = (tr c L j (b * L)).2) (hw2 : ∀ q, D1 2 q = D 2 q) (hmt : mtP c L (b * L + 1) = (-1, -1)) (hb : (b : Int) ≤ c 12 0) (hf : c 12 0 + 1 ≤ b + fu), N Φ 0 0 σ 16 [(2, iv (b : Int)), (0, .ref (shA A 0)), (1, iv (L : Int))] [] := by
      intro fu
      induction fu with
      | zero =>
        intro b σ D1 hM hTS hw2 hmt hb hf
        omega
      | succ fu ih =>
        intro b σ D1 hM hTS hw2 hmt hb hf
        refine n_iload_n C dX2_firstMeeting_16 rfl ?_
        refine n_aload_n C dX2_firstMeeting_17 rfl ?_
        refine n_get C hM.1.1 vC5 vI5 5 (by decide) t1_68 rfl rfl dX2_firstMeeting_18 ?_
        refine n_icmp_ge C 69 dX2_firstMeeting_21 (by decide) (by unfold rg; omega) (by unfold rg; omega) (fun b21 => ?_) (fun b21 => ?_)
        · refine n_iconst (x := (-1)) C dX2_firstMeeting_69 ?_
          have hb9 : b = (c 12 0).toNat := by omega
          subst hb9
          exact n_ireturn C Rr rfl ⟨D1, by rw [hnT, hmt], hM, hw2, fun j hj => by rw [(hTS j hj).1]; exact tr_rg hw L j _, fun q => absurd (by rw [hnT, hmt]) q⟩ (by omega) (by omega) dX2_firstMeeting_70
        · refine n_aload_n C dX2_firstMeeting_24 rfl ?_
          refine n_iload_n C dX2_firstMeeting_25 rfl ?_
          refine n_invV C (k_startBars hst hM hw hI (b := b) (by omega)) ⟨t4_29, t4_32, t1_1, ⟨by decide, by decide⟩, by show _ = some 1; decide +kernel, by decide⟩ t4_31 tp_15 hM.1.1 vC5 (by decide) (by omega) (by omega) (Nat.le_of_ble_eq_true rfl) rfl dX2_firstMeeting_26 (fun r σ h' => ?_) (fun _ _ h => h.elim)
          obtain ⟨rfl, D2, hM, hs, hw3⟩ := h'
          have hbL : ((b * L : Nat) : Int) ≤ 2400 := by
            rw [Int.natCast_mul]
            have z1 : (b : Int) * (L : Int) ≤ 30 * (L : Int) := Int.mul_le_mul_of_nonneg_right (by omega) (by omega)
            omega
          have hRB : ∀ j : Nat, (j : Int) < c 0 0 → D2 1 j = RB c L b j := fun j hj => by rw [(hs j hj).2, rb_eff (by omega), (hTS j hj).2]
          refine n_iconst (x := 1) C dX2_firstMeeting_29 ?_
          refine n_istore_n (lv' := [(3, iv 1), (2, iv (b : Int)), (0, .ref (shA A 0)), (1, iv (L : Int))]) C dX2_firstMeeting_30 (by rw [hN]; decide) rfl ?_
          have J63 : ∀ (lv3 : Int) (σ : Wd) (D3 : Tb) (hM : CB g.2.1 A β c D3 σ) (hps : ∀ j : Nat, (j : Int) < c 0 0 → D3 0 j = (tr c L j (b * L + L)).1 ∧ D3 1 j = RB c L b j) (hw4 : ∀ q, D3 2 q = D 2 q) (hmt2 : mtP c L (b * L + L + 1) = (-1, -1)), N Φ 0 0 σ 63 [(3, iv lv3), (2, iv (b : Int)), (0, .ref (shA A 0)), (1, iv (L : Int))] [] := by
            intro lv3 σ D3 hM hps hw4 hmt2
            refine n_iinc (lv' := [(2, iv ((b : Int) + 1)), (3, iv lv3), (0, .ref (shA A 0)), (1, iv (L : Int))]) C dX2_firstMeeting_63 rfl (by rw [hN]; decide) rfl ?_
            refine n_goto C 16 dX2_firstMeeting_66 (by decide) ?_
            refine n_keep (lv' := [(2, iv ((b : Int) + 1)), (0, .ref (shA A 0)), (1, iv (L : Int))]) [2, 0, 1] rfl ?_
            have e6 : (b + 1) * L = b * L + L := Nat.succ_mul b L
            exact ih (b + 1) σ D3 hM (fun j hj => ⟨by rw [e6]; exact (hps j hj).1, by rw [e6, (hps j hj).2, rb_at L (by omega) (by omega)]⟩) hw4 (by rw [e6]; exact hmt2) (by omega) (by omega)
          have LP2 : ∀ (fuX : Nat) (s : Nat) (σ : Wd) (D3 : Tb) (hM : CB g.2.1 A β c D3 σ) (hps : ∀ j : Nat, (j : Int) < c 0 0 → D3 0 j = (tr c L j (b * L + s)).1 ∧ D3 1 j = RB c L b j) (hw4 : ∀ q, D3 2 q = D 2 q) (hmt2 : mtP c L (b * L + s + 1) = (-1, -1)) (hlp : lpK c (fun k => (tr c L k (b * L + s)).1) (-1) (c 0 0).toNat = -1) (h1 : s ≤ L) (h3 : L + 1 ≤ s + fuX), N Φ 0 0 σ 31 [(3, iv ((s : Int) + 1)), (2, iv (b : Int)), (0, .ref (shA A 0)), (1, iv (L : Int))] [] := by
            intro fuX
            induction fuX with
            | zero =>
              intro s σ D3 hM hps hw4 hmt2 hlp h1 h3
              omega
            | succ fuX ih2 =>
              intro s σ D3 hM hps hw4 hmt2 hlp h1 h3
              refine n_iload_n C dX2_firstMeeting_31 rfl ?_
              refine n_iload_n C dX2_firstMeeting_32 rfl ?_
              refine n_icmp_gt C 63 dX2_firstMeeting_33 (by decide) (by unfold rg; omega) (by unfold rg; omega) (fun b33 => ?_) (fun b33 => ?_)
              · have hsL : s = L := by omega
                subst hsL
                exact J63 _ σ D3 hM hps hw4 hmt2
              · refine n_aload_n C dX2_firstMeeting_36 rfl ?_
                refine n_invV C (k_goAll hst hM hw hI (fun j hj => ⟨by rw [(hps j hj).1]; exact tr_rg hw L j _, by rw [(hps j hj).2]; exact rb_run hw (by omega)⟩)) ⟨t4_75, t4_78, t1_1, ⟨by decide, by decide⟩, by show _ = some 0; decide +kernel, by decide⟩ t4_77 tp_19 hM.1.1 vC5 (by decide) (by omega) (by omega) (Nat.le_of_ble_eq_true rfl) rfl dX2_firstMeeting_37 (fun r σ h' => ?_) (fun _ _ h => h.elim)
                obtain ⟨v, D4, rfl, hv, hM, hg, hw5, hz⟩ := h'
                have hps2 : ∀ j : Nat, (j : Int) < c 0 0 → D4 0 j = (tr c L j (b * L + s + 1)).1 ∧ D4 1 j = RB c L b j := fun j hj => ⟨by rw [(hg j hj).1, (hps j hj).1, (hps j hj).2, tr_in hw (by omega)], by rw [(hg j hj).2]; exact (hps j hj).2⟩
                have hw6 : ∀ q, D4 2 q = D 2 q := fun q => (hw5 q).trans (hw4 q)
                have hp4 : ∀ j : Nat, (j : Int) < c 0 0 → 0 ≤ D4 0 j ∧ D4 0 j ≤ 359 := fun j hj => by rw [(hps2 j hj).1]; exact tr_rg hw L j _
                have hcg2 : lpK c (fun k => (tr c L k (b * L + s + 1)).1) (-1) (c 0 0).toNat = lpK c (D4 0) (-1) (c 0 0).toNat := lpK_congr (-1) (fun j hj => ((hps2 j hj).1).symm) _ (by omega)
                refine n_if_eq C 63 dX2_firstMeeting_40 (by decide) (by unfold rg; omega) (fun b40 => ?_) (fun b40 => ?_)
                · have hst2 : ∀ j : Nat, (j : Int) < c 0 0 → (tr c L j (b * L + s + 1)).1 = (tr c L j (b * L + s)).1 := fun j hj => by rw [← (hps2 j hj).1, hz (by omega) j hj, (hps j hj).1]
                  have hall := tr_still hw (L := L) (b := b) (s := s) hst2
                  have hmm : ∀ u : Nat, s + u ≤ L → mtP c L (b * L + s + u + 1) = (-1, -1) := by
                    intro u
                    induction u with
                    | zero => exact fun _ => hmt2
                    | succ u ih3 =>
                      intro hu
                      have e7 := mt_s (ih3 (by omega)) (x := -1) (by
                        have e8 : lpK c (fun k => (tr c L k (b * L + s + u + 1)).1) (-1) (c 0 0).toNat = lpK c (fun k => (tr c L k (b * L + s)).1) (-1) (c 0 0).toNat := lpK_congr (-1) (fun j hj => hall (u + 1) hu j hj) _ (by omega)
                        rw [e8]
                        exact hlp)
                      rw [if_pos rfl] at e7
                      exact e7
                  have e9 : b * L + s + (L - s) = b * L + L := by omega
                  exact J63 _ σ D4 hM (fun j hj => ⟨by rw [(hps2 j hj).1, hst2 j hj, ← hall (L - s) (by omega) j hj, e9], (hps2 j hj).2⟩) hw6 (by have := hmm (L - s) (by omega); rw [e9] at this; exact this)
                · refine n_aload_n C dX2_firstMeeting_43 rfl ?_
                  refine n_invV C (k_least hst hM hw hI (D := D4) hp4) ⟨t4_67, t4_70, t1_1, ⟨by decide, by decide⟩, by show _ = some 0; decide +kernel, by decide⟩ t4_69 tp_18 hM.1.1 vC5 (by decide) (by omega) (by omega) (Nat.le_of_ble_eq_true rfl) rfl dX2_firstMeeting_44 (fun r σ' h' => ?_) (fun _ _ h => h.elim)
                  obtain ⟨rfl, hσ⟩ := h'
                  rw [hσ]
                  have hL4 := lpK_rg (c := c) (P := D4 0) (a := -1) w0.2 (by omega) (c 0 0).toNat (by omega)
                  have hm5 := mt_s hmt2 hcg2
                  refine n_iconst (x := (-1)) C dX2_firstMeeting_47 ?_
                  refine n_icmp_eq C 57 dX2_firstMeeting_48 (by decide) (by unfold rg; omega) (by unfold rg; omega) (fun b48 => ?_) (fun b48 => ?_)
                  · rw [if_pos b48] at hm5
                    refine n_iinc (lv' := [(3, iv (((s : Int) + 1) + 1)), (2, iv (b : Int)), (0, .ref (shA A 0)), (1, iv (L : Int))]) C dX2_firstMeeting_57 rfl (by rw [hN]; decide) rfl ?_
                    refine n_goto C 31 dX2_firstMeeting_60 (by decide) ?_
                    have e4 : (s : Int) + 1 + 1 = ((s + 1 : Nat) : Int) + 1 := by omega
                    rw [e4]
                    exact ih2 (s + 1) σ D4 hM hps2 hw6 hm5 (hcg2.trans b48) (by omega) (by omega)
                  · rw [if_neg b48] at hm5
                    have hNT : (b + 1) * L ≤ NT c L := Nat.mul_le_mul_right L (by omega)
                    rw [Nat.succ_mul] at hNT
                    have hmk : mtP c L (NT c L + 1) = (((b * L + s + 1 : Nat) : Int), lpK c (D4 0) (-1) (c 0 0).toNat) := by
                      rw [← hm5, show NT c L + 1 = (b * L + s + 1 + 1) + (NT c L + 1 - (b * L + s + 1 + 1)) by omega]
                      exact mt_keep (by rw [hm5]; exact b48) _
                    have eV : (b : Int) * (L : Int) + ((s : Int) + 1) = ((b * L + s + 1 : Nat) : Int) := by rw [Int.natCast_add, Int.natCast_add, Int.natCast_mul]; omega
                    refine n_iload_n C dX2_firstMeeting_51 rfl ?_
                    refine n_iload_n C dX2_firstMeeting_52 rfl ?_
                    refine n_imul C dX2_firstMeeting_53 ?_
                    refine n_iload_n C dX2_firstMeeting_54 rfl ?_
                    refine n_iadd C dX2_firstMeeting_55 ?_
                    rw [eV]
                    exact n_ireturn C Rr rfl ⟨D4, by rw [hmk], hM, hw6, hp4, fun _ => by rw [hmk]⟩ (by omega) (by omega) dX2_firstMeeting_56
          have hlp0 : lpK c (fun k => (tr c L k (b * L + 0)).1) (-1) (c 0 0).toNat = -1 := by
            have z1 : (mtP c L (b * L + 1)).2 = -1 := by rw [hmt]
            have z2 : (mtP c L (b * L + 1)).2 = lpK c (fun k => (tr c L k (b * L)).1) (mtP c L (b * L)).2 (c 0 0).toNat := rfl
            have z3 : (mtP c L (b * L)).2 = -1 := Classical.byContradiction (fun z => by rw [z2, lpK_p z] at z1; exact z z1)
            rw [z2, z3] at z1
            exact z1
          have LQ := LP2 (L + 1) 0 σ D2 hM (fun j hj => ⟨(hs j hj).1.trans (hTS j hj).1, hRB j hj⟩) (fun q => (hw3 q).trans (hw2 q)) hmt hlp0 (Nat.zero_le _) (by omega)
          exact LQ
    exact LP 31 0 σ D0 hM (fun j hj => by rw [Nat.zero_mul]; exact ⟨(hr j hj).1, (hr j hj).2⟩) h2 (by rw [Nat.zero_mul]; exact hm1) (by omega) (by omega)
  · rw [if_neg b9] at hm1
    have hmk : mtP c L (NT c L + 1) = (((0 : Nat) : Int), lpK c (D0 0) (-1) (c 0 0).toNat) := by
      rw [← hm1, Nat.add_comm]
      exact mt_keep (by rw [hm1]; exact b9) _
    refine n_iconst (x := 0) C dX2_firstMeeting_12 ?_
    exact n_ireturn C Rr rfl ⟨D0, by rw [hmk]; rfl, hM, h2, hp0, fun _ => by rw [hmk]⟩ (by omega) (by omega) dX2_firstMeeting_13
