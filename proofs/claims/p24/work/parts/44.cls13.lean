set_option maxRecDepth 100000 in
set_option maxHeartbeats 4000000 in
theorem p_cue {g : Gx} (hst : g.1.stackTraces = false) {a b t v : Int} (hga : rg a) (hgb : rg b) (hgt : rg t) (hgv : rg v) {A : ShT} {β : Wd} {c D : Tb} {σ : Wd} (hM : CB g.2.1 A β c D σ) (hw : WF c) (hI : CI g c A)  : CT g yX2_cue cX2_cue 7 (some .int) 6 5 146 [.ref (shA A 0), iv a, iv b, iv t, iv v] σ (fun r σ' => ∃ (x : Int) (A' : ShT) (D' : Tb), r = some (iv x) ∧ GW g.2.1 A c σ A' (nxCue c a b t v) D' σ' ∧ CI g (nxCue c a b t v) A' ∧ cdCue c a b t v = 0 ∧ x = c 6 0) (fun E σ' => σ' = σ ∧ ((E = "java/lang/IndexOutOfBoundsException" ∧ cdCue c a b t v = 1) ∨ (E = "java/lang/IllegalArgumentException" ∧ cdCue c a b t v = 2) ∨ (E = "java/lang/IllegalStateException" ∧ cdCue c a b t v = 3))) := by
  refine CT.of hst (by decide +kernel) (Nat.le_of_ble_eq_true rfl) (fun Φ C Rr hY hN => ?_)
  show N Φ 0 0 σ 0 [(0, .ref (shA A 0)), (1, iv a), (2, iv b), (3, iv t), (4, iv v)] []
  unfold rg at hga
  unfold rg at hgb
  unfold rg at hgt
  unfold rg at hgv
  obtain ⟨w0, w6, w12, w13, w14, w15, w16, wm, wq, ww⟩ := id hw
  obtain ⟨n0, hn0⟩ : ∃ n : Nat, c 0 0 = n := ⟨(c 0 0).toNat, by omega⟩
  obtain ⟨n6, hn6⟩ : ∃ n : Nat, c 6 0 = n := ⟨(c 6 0).toNat, by omega⟩
  have hl0 : nL3 c 0 = n0 := hn0
  have hl1 : nL3 c 1 = n6 := hn6
  have hl2 : nL3 c 2 = n6 := hn6
  refine n_aload_n C dX2_cue_0 rfl ?_
  refine n_iload_n C dX2_cue_1 rfl ?_
  refine n_invV C (k_machine hst (by unfold rg; omega) hM hw hI) ⟨t2_67, t2_70, t1_1, ⟨by decide, by decide⟩, by show _ = some 1; decide +kernel, by decide⟩ t2_69 tp_6 hM.1.1 vC5 (by decide) (by omega) (by omega) (Nat.le_of_ble_eq_true rfl) rfl dX2_cue_2 (fun r σ' h' => ?_) (fun E σ' h' => by
      obtain ⟨rfl, rfl, hz⟩ := h'
      exact n_out C Rr ⟨rfl, Or.inl ⟨rfl, by unfold cdCue; rw [if_neg hz]⟩⟩ (by omega) (by omega))
  obtain ⟨i, rfl, rfl, hi, hσ⟩ := h'
  rw [hσ]
  have wi := wm i
  obtain ⟨lp, hlp⟩ : ∃ lp : Int, (if tkQ c i = -1 then (359 : Int) else 200) = lp := ⟨_, rfl⟩
  have hlp2 : (if c 1 (i : Int).toNat = 0 then (200 : Int) else 359) = lp := by
    rw [Int.toNat_natCast, ← hlp]
    unfold tkQ
    by_cases q : c 1 i = 0
    · rw [if_pos q, if_pos q, if_neg (by omega)]
    · rw [if_neg q, if_neg q, if_pos rfl]
  have hlp3 : lp = 200 ∨ lp = 359 := by rw [← hlp]; split <;> omega
  refine n_astore (lv' := [(5, .ref (shA A (10 + i))), (0, .ref (shA A 0)), (1, iv (i : Int)), (2, iv b), (3, iv t), (4, iv v)]) C dX2_cue_5 (by rw [hN]; decide) rfl ?_
  refine n_iload_n C dX2_cue_7 rfl ?_
  refine n_iconst (x := 0) C dX2_cue_8 ?_
  refine n_aload_n C dX2_cue_9 rfl ?_
  refine n_get C hM.1.1 vC5 vI5 5 (by decide) t1_68 rfl rfl dX2_cue_10 ?_
  refine n_iconst (x := 1) C dX2_cue_13 ?_
  refine n_isub C dX2_cue_14 ?_
  refine n_invS C (k_within hst (by unfold rg; omega) (by unfold rg; omega) (by unfold rg; omega)) ⟨t1_110, t1_112, t1_1, ⟨by decide, by decide⟩, by show _ = some 3; decide +kernel, by decide⟩ t1_111 (by decide) (by omega) (by omega) (Nat.le_of_ble_eq_true rfl) rfl dX2_cue_15 (fun r σ' h' => ?_) (fun _ _ h => h.elim)
  obtain ⟨x, rfl, hσ, hx⟩ := h'
  rw [hσ]
  refine n_if_eq C 46 dX2_cue_18 (by decide) (by unfold rg; omega) (fun b18 => ?_) (fun b18 => ?_)
  · refine n_iconst (x := 0) C dX2_cue_46 ?_
    refine n_invS C (k_allow hst (by omega)) ⟨t1_113, t1_115, t1_1, ⟨by decide, by decide⟩, by show _ = some 1; decide +kernel, by decide⟩ t1_114 (by decide) (by omega) (by omega) (Nat.le_of_ble_eq_true rfl) rfl dX2_cue_47 (fun r σ' h' => ?_) (fun E σ' h' => by
        obtain ⟨rfl, rfl, hz⟩ := h'
        exact n_out C Rr ⟨rfl, Or.inr (Or.inl ⟨rfl, by unfold cdCue; rw [if_pos (by omega), hlp2, if_neg (by omega)]⟩)⟩ (by omega) (by omega))
    obtain ⟨-, -, hz⟩ := h'
    exfalso; omega
  · refine n_iload_n C dX2_cue_21 rfl ?_
    refine n_iconst (x := 0) C dX2_cue_22 ?_
    refine n_aload C dX2_cue_23 rfl ?_
    refine n_invV C (c_lastPlace hst (hM.mi hi) (tk_rg hw i)) ⟨t2_101, t2_104, t1_10, ⟨by decide, by decide⟩, by show _ = some 0; decide +kernel, by decide⟩ t2_102 t2_103 (hM.mi hi) vC4 (by decide) (by omega) (by omega) (Nat.le_of_ble_eq_true rfl) rfl dX2_cue_25 (fun r σ' h' => ?_) (fun _ _ h => h.elim)
    obtain ⟨rfl, hσ⟩ := h'
    rw [hσ, hlp]
    refine n_invS C (k_within hst (by unfold rg; omega) (by unfold rg; omega) (by unfold rg; omega)) ⟨t1_110, t1_112, t1_1, ⟨by decide, by decide⟩, by show _ = some 3; decide +kernel, by decide⟩ t1_111 (by decide) (by omega) (by omega) (Nat.le_of_ble_eq_true rfl) rfl dX2_cue_28 (fun r σ' h' => ?_) (fun _ _ h => h.elim)
    obtain ⟨x, rfl, hσ, hx⟩ := h'
    rw [hσ]
    refine n_if_eq C 46 dX2_cue_31 (by decide) (by unfold rg; omega) (fun b31 => ?_) (fun b31 => ?_)
    · refine n_iconst (x := 0) C dX2_cue_46 ?_
      refine n_invS C (k_allow hst (by omega)) ⟨t1_113, t1_115, t1_1, ⟨by decide, by decide⟩, by show _ = some 1; decide +kernel, by decide⟩ t1_114 (by decide) (by omega) (by omega) (Nat.le_of_ble_eq_true rfl) rfl dX2_cue_47 (fun r σ' h' => ?_) (fun E σ' h' => by
          obtain ⟨rfl, rfl, hz⟩ := h'
          exact n_out C Rr ⟨rfl, Or.inr (Or.inl ⟨rfl, by unfold cdCue; rw [if_pos (by omega), hlp2, if_neg (by omega)]⟩)⟩ (by omega) (by omega))
      obtain ⟨-, -, hz⟩ := h'
      exfalso; omega
    · refine n_iload C dX2_cue_34 rfl ?_
      refine n_invS C (k_isWorker hst (by unfold rg; omega)) ⟨t2_109, t2_111, t1_1, ⟨by decide, by decide⟩, by show _ = some 1; decide +kernel, by decide⟩ t2_110 (by decide) (by omega) (by omega) (Nat.le_of_ble_eq_true rfl) rfl dX2_cue_36 (fun r σ' h' => ?_) (fun _ _ h => h.elim)
      obtain ⟨x, rfl, hσ, hx⟩ := h'
      rw [hσ]
      refine n_if_eq C 46 dX2_cue_39 (by decide) (by unfold rg; omega) (fun b39 => ?_) (fun b39 => ?_)
      · refine n_iconst (x := 0) C dX2_cue_46 ?_
        refine n_invS C (k_allow hst (by omega)) ⟨t1_113, t1_115, t1_1, ⟨by decide, by decide⟩, by show _ = some 1; decide +kernel, by decide⟩ t1_114 (by decide) (by omega) (by omega) (Nat.le_of_ble_eq_true rfl) rfl dX2_cue_47 (fun r σ' h' => ?_) (fun E σ' h' => by
            obtain ⟨rfl, rfl, hz⟩ := h'
            exact n_out C Rr ⟨rfl, Or.inr (Or.inl ⟨rfl, by unfold cdCue; rw [if_pos (by omega), hlp2, if_neg (by omega)]⟩)⟩ (by omega) (by omega))
        obtain ⟨-, -, hz⟩ := h'
        exfalso; omega
      · refine n_iconst (x := 1) C dX2_cue_42 ?_
        refine n_goto C 47 dX2_cue_43 (by decide) ?_
        refine n_invS C (k_allow hst (by omega)) ⟨t1_113, t1_115, t1_1, ⟨by decide, by decide⟩, by show _ = some 1; decide +kernel, by decide⟩ t1_114 (by decide) (by omega) (by omega) (Nat.le_of_ble_eq_true rfl) rfl dX2_cue_47 (fun r σ' h' => ?_) (fun E σ' h' => by
            obtain ⟨-, -, hz⟩ := h'
            exfalso; omega)
        obtain ⟨rfl, hσ, hz⟩ := h'
        rw [hσ]
        refine n_aload_n C dX2_cue_50 rfl ?_
        refine n_get C hM.1.1 vC5 vI5 1 (by decide) t1_64 rfl rfl dX2_cue_51 ?_
        refine n_invV C (c_size hst (hM.1.lst hw hI (j := 1) (by decide) hl1)) ⟨t1_188, t1_191, t1_4, ⟨by decide, by decide⟩, by show _ = some 0; decide +kernel, by decide⟩ t1_189 t1_190 (hM.1.2.1 1 (by decide)) cJ (by decide) (by omega) (by omega) (Nat.le_of_ble_eq_true rfl) rfl dX2_cue_54 (fun r σ' h' => ?_) (fun _ _ h => h.elim)
        obtain ⟨rfl, hσ⟩ := h'
        rw [hσ]
        refine n_bipush (x := 24) C dX2_cue_57 (by decide) ?_
        refine n_icmp_lt C 72 dX2_cue_59 (by decide) (by unfold rg; omega) (by unfold rg; omega) (fun b59 => ?_) (fun b59 => ?_)
        · have hcd : cdCue c (i : Int) b t v = 0 := by unfold cdCue; rw [if_pos (by omega), hlp2, if_pos (by omega), if_neg (by omega)]
          obtain ⟨bn, rfl⟩ : ∃ bn : Nat, b = bn := ⟨b.toNat, by omega⟩
          refine n_new C [.null, iv 0, iv 0, iv 0, iv 0, iv 0] vC3 vI3 tyX0 tyX0_ok t2_113 t2_114 t1_18 (fun j hj => by
            have hj2 : j = 0 ∨ j = 1 ∨ j = 2 ∨ j = 3 ∨ j = 4 ∨ j = 5 := by omega
            rcases hj2 with rfl | rfl | rfl | rfl | rfl | rfl <;> rfl) (by omega) (by omega) dX2_cue_72 (fun y hy => ?_)
          refine wab (fun σ1 H1 O1 => ?_)
          refine n_dup C dX2_cue_75 rfl ?_
          refine n_aload C dX2_cue_76 rfl ?_
          refine n_iload_n C dX2_cue_78 rfl ?_
          refine n_iload_n C dX2_cue_79 rfl ?_
          refine n_iload C dX2_cue_80 rfl ?_
          refine n_invI C (c_cueInit hst H1) ⟨t2_115, t2_117, t1_18, ⟨by decide, by decide⟩, by show _ = some 4; decide +kernel, by decide⟩ t2_116 (by decide) (by decide) (by omega) (by omega) (Nat.le_of_ble_eq_true rfl) rfl dX2_cue_82 (fun r σ2 h' => ?_) (fun _ _ h => h.elim)
          obtain ⟨rfl, p1, p2⟩ := h'
          have hks : ∀ {m : Nat}, LV A c m → σ2 (shA A m) = σ (shA A m) := fun {m} hl => by
            have h1 := hM.1.some hw hl
            have ny : shA A m ≠ y := fun q => h1 (by rw [q]; exact hy)
            exact (p2 _ ny).trans (O1 _ ny)
          have hne2 : ∀ {m : Nat}, LV A c m → σ2 (shA A m) ≠ none := fun hl => by rw [hks hl]; exact hM.1.some hw hl
          have hl7 : 1 ≤ shC A 1 → LV A c 7 := fun q => Or.inr (Or.inl ⟨by omega, by omega, q⟩)
          have hl8 : 1 ≤ shC A 2 → LV A c 8 := fun q => Or.inr (Or.inl ⟨by omega, by omega, q⟩)
          have hLo1 := hM.1.lst hw hI (j := 1) (by decide) hl1
          have hLo2 := hM.1.lst hw hI (j := 2) (by decide) hl2
          have hLn1 : ALst g σ2 (shA A 2) (shM A 1) (shA A 7) n6 (shC A 1) (shF A 1) := ⟨(hks (lv0 (by decide))).trans hLo1.1, hLo1.2.1.imp id (fun q => ⟨q.1, (hks (hl7 q.1)).trans q.2⟩), hLo1.2.2⟩
          have hX2 := (hks (lv0 (m := 0) (by decide))).trans hM.1.1
          refine n_astore (lv' := [(6, .ref y), (5, .ref (shA A (10 + i))), (0, .ref (shA A 0)), (1, iv (i : Int)), (2, iv (bn : Int)), (3, iv t), (4, iv v)]) C dX2_cue_85 (by rw [hN]; decide) rfl ?_
          refine n_aload_n C dX2_cue_87 rfl ?_
          refine n_get C hX2 vC5 vI5 1 (by decide) t1_64 rfl rfl dX2_cue_88 ?_
          refine n_aload C dX2_cue_91 rfl ?_
          refine n_invV C (c_add hst hLn1 (fun j hj q hq => by
            rw [hI.2.2.1 j (by omega)] at hq
            cases hq
            exact obj3 ((hks (lvQ (by omega))).trans (hM.qi (q := j) (by omega)))) (obj3 p1) (by omega)) ⟨t2_3, t2_6, t1_4, ⟨by decide, by decide⟩, by show _ = some 1; decide +kernel, by decide⟩ t2_4 t2_5 hLn1.1 cJ (by decide) (by omega) (by omega) (Nat.le_of_ble_eq_true rfl) rfl dX2_cue_93 (fun r σ3 h' => ?_) (fun _ _ h => h.elim)
          obtain ⟨rfl, r1, c1, f1, a1, a2, a3, a4, a5, a6⟩ := h'
          have n1 : ∀ {m : Nat}, LV A c m → m ≠ 7 → shA A m ≠ r1 := fun {m} hl hm q => by
            rcases a3 with ⟨t1, t2, t3⟩ | t1
            · exact hm (hI.1 _ _ hl (hl7 t3) (q.trans t1))
            · exact hne2 hl (by rw [q]; exact t1)
          have r1y : r1 ≠ y := fun q => by
            rcases a3 with ⟨t1, t2, t3⟩ | t1
            · exact hM.1.some hw (hl7 t3) (by rw [← t1, q]; exact hy)
            · rw [q, p1] at t1; cases t1
          have y2 : y ≠ shA A 2 := fun q => hM.1.some hw (lv0 (A := A) (c := c) (m := 2) (by decide)) (by rw [← q]; exact hy)
          have y3 : y ≠ shA A 3 := fun q => hM.1.some hw (lv0 (A := A) (c := c) (m := 3) (by decide)) (by rw [← q]; exact hy)
          have hk3 : ∀ {m : Nat}, LV A c m → m ≠ 7 → m ≠ 2 → σ3 (shA A m) = σ (shA A m) := fun {m} hl h7 h2 => (a4 _ (n1 hl h7) (hI.ne hl (lv0 (by decide)) h2)).trans (hks hl)
          have hy3 := (a4 y r1y.symm y2).trans p1
          have hLn2 : ALst g σ3 (shA A 3) (shM A 2) (shA A 8) n6 (shC A 2) (shF A 2) := ⟨(hk3 (lv0 (by decide)) (by decide) (by decide)).trans hLo2.1, hLo2.2.1.imp id (fun q => ⟨q.1, (hk3 (hl8 q.1) (by decide) (by decide)).trans q.2⟩), hLo2.2.2⟩
          have hX3 := (hk3 (lv0 (m := 0) (by decide)) (by decide) (by decide)).trans hM.1.1
          have hin : ∀ k : Nat, k < n6 → (shO A k : Int) < c 6 0 := fun k hk => (hI.2.2.2.1 k (by omega)).2
          refine n_pop C dX2_cue_96 rfl ?_
          refine n_aload_n C dX2_cue_97 rfl ?_
          refine n_aload C dX2_cue_98 rfl ?_
          refine n_invV C (k_insert hst (b := (bn : Int)) hX3 hLn2 (fun k hk => (hI.2.2.2.1 k (by omega)).1) (fun k hk => (hk3 (lvQ (hin k hk)) (by omega) (by omega)).trans (hM.qi (hin k hk))) hy3 (by omega) (by omega) (fun q => (wq q).1) (fun k l h1 h2 => by
            have := hI.2.2.2.2.1 k l h1 (by omega)
            unfold ahQ at this
            omega)) ⟨t2_143, t2_146, t1_1, ⟨by decide, by decide⟩, by show _ = some 1; decide +kernel, by decide⟩ t2_145 tp_7 hX3 vC5 (by decide) (by omega) (by omega) (Nat.le_of_ble_eq_true rfl) rfl dX2_cue_100 (fun r σ4 h' => ?_) (fun _ _ h => h.elim)
          obtain ⟨rfl, k, hk, hlo, hhi, r2, c2, f2, b1, b2, b3, b4, b5, b6, b7⟩ := h'
          have hne3 : ∀ {m : Nat}, LV A c m → m ≠ 7 → m ≠ 2 → σ3 (shA A m) ≠ none := fun hl h7 h2 => by rw [hk3 hl h7 h2]; exact hM.1.some hw hl
          have n2 : ∀ {m : Nat}, LV A c m → m ≠ 8 → m ≠ 7 → m ≠ 2 → shA A m ≠ r2 := fun {m} hl hm h7 h2 q => by
            rcases b3 with ⟨t1, t2, t3⟩ | t1
            · exact hm (hI.1 _ _ hl (hl8 t3) (q.trans t1))
            · exact hne3 hl h7 h2 (by rw [q]; exact t1)
          have r2y : r2 ≠ y := fun q => by
            rcases b3 with ⟨t1, t2, t3⟩ | t1
            · exact hM.1.some hw (hl8 t3) (by rw [← t1, q]; exact hy)
            · rw [q, hy3] at t1; cases t1
          have hr1 : σ3 r1 = some (eO g.2.1 c1 f1) := (a1.2.1.resolve_left (fun q => by omega)).2
          have r21 : r2 ≠ r1 := fun q => by
            rcases b3 with ⟨t1, t2, t3⟩ | t1
            · exact n1 (hl8 t3) (by decide) (t1.symm.trans q)
            · rw [q, hr1] at t1; cases t1
          have r22 : r2 ≠ shA A 2 := fun q => by
            rcases b3 with ⟨t1, t2, t3⟩ | t1
            · exact hI.ne (hl8 t3) (lv0 (m := 2) (by decide)) (by decide) (t1.symm.trans q)
            · rw [q, a1.1] at t1; cases t1
          have r13 : r1 ≠ shA A 3 := (n1 (lv0 (m := 3) (by decide)) (by decide)).symm
          have hk4 : ∀ {m : Nat}, LV A c m → m ≠ 7 → m ≠ 8 → m ≠ 2 → m ≠ 3 → σ4 (shA A m) = σ (shA A m) := fun {m} hl h7 h8 h2 h3 => (b4 _ (n2 hl h8 h7 h2) (hI.ne hl (lv0 (by decide)) h3)).trans (hk3 hl h7 h2)
          have hma := (hk4 (lvM hw hi).1 (by omega) (by omega) (by omega) (by omega)).trans (hM.mi hi)
          have hro := (hk4 (lvM hw hi).2 (by omega) (by omega) (by omega) (by omega)).trans (hM.ro hi)
          have hy4 := (b4 y r2y.symm y3).trans hy3
          refine n_aload C dX2_cue_103 rfl ?_
          refine n_iload_n C dX2_cue_105 rfl ?_
          refine n_aload C dX2_cue_106 rfl ?_
          refine n_invV C (c_setCue hst hma (tk_rg hw i) hro (b := bn) (by omega) (rr := some y) (fun u hu => by cases hu; exact ⟨_, hy4⟩)) ⟨t3_145, t3_148, t1_10, ⟨by decide, by decide⟩, by show _ = some 2; decide +kernel, by decide⟩ t3_146 t3_147 hma vC4 (by decide) (by omega) (by omega) (Nat.le_of_ble_eq_true rfl) rfl dX2_cue_108 (fun r σ5 h' => ?_) (fun _ _ h => h.elim)
          obtain ⟨rfl, d1, d2⟩ := h'
          have k20 : ∀ {m : Nat}, LV A c m → m ≠ 20 + i → shA A m ≠ shA A (20 + i) := fun hl h20 => hI.ne hl (lvM hw hi).2 h20
          have r1r : r1 ≠ shA A (20 + i) := (n1 (lvM hw hi).2 (by omega)).symm
          have r2r : r2 ≠ shA A (20 + i) := (n2 (lvM hw hi).2 (by omega) (by omega) (by omega)).symm
          have yr : y ≠ shA A (20 + i) := fun q => hM.1.some hw (lvM hw hi).2 (by rw [← q]; exact hy)
          have hX5 := (d2 _ (k20 (lv0 (m := 0) (by decide)) (by omega))).trans ((hk4 (lv0 (m := 0) (by decide)) (by decide) (by decide) (by decide) (by decide)).trans hM.1.1)
          have hA1 : ALst g σ5 (shA A 2) (shM A 1 + 1) r1 (n6 + 1) c1 f1 := ⟨((d2 _ (k20 (lv0 (by decide)) (by omega))).trans (b4 _ r22.symm (hI.ne (lv0 (by decide)) (lv0 (by decide)) (by decide)))).trans a1.1, Or.inr ⟨a2, ((d2 _ r1r).trans (b4 _ r21.symm r13)).trans hr1⟩, a1.2.2⟩
          have hA2 : ALst g σ5 (shA A 3) (shM A 2 + 1) r2 (n6 + 1) c2 f2 := ⟨(d2 _ (k20 (lv0 (by decide)) (by omega))).trans b1.1, Or.inr ⟨b2, (d2 _ r2r).trans (b1.2.1.resolve_left (fun q => by omega)).2⟩, b1.2.2⟩
          refine n_aload_n C dX2_cue_111 rfl ?_
          refine n_get C hX5 vC5 vI5 1 (by decide) t1_64 rfl rfl dX2_cue_112 ?_
          refine n_invV C (c_size hst hA1) ⟨t1_188, t1_191, t1_4, ⟨by decide, by decide⟩, by show _ = some 0; decide +kernel, by decide⟩ t1_189 t1_190 hA1.1 cJ (by decide) (by omega) (by omega) (Nat.le_of_ble_eq_true rfl) rfl dX2_cue_115 (fun r σ' h' => ?_) (fun _ _ h => h.elim)
          obtain ⟨rfl, hσ5⟩ := h'
          rw [hσ5]
          refine n_iconst (x := 1) C dX2_cue_118 ?_
          refine n_isub C dX2_cue_119 ?_
          have e1 : ((n6 + 1 : Nat) : Int) - 1 = (n6 : Int) := by omega
          rw [e1]
          have hnn : (c 6 0).toNat = n6 := by omega
          have w11 := (wq n6).2.2.2.2.2.2.2.2 (by omega)
          have v8 : nxCue c (i : Int) bn t v 8 n6 = i := by
            show tu c 8 (c 6 0).toNat (i : Int) 8 n6 = _
            rw [hnn, tu_s]
          have v7 : nxCue c (i : Int) bn t v 7 n6 = bn := by
            show tu (tu c 8 (c 6 0).toNat (i : Int)) 7 (c 6 0).toNat (bn : Int) 7 n6 = _
            rw [hnn, tu_s]
          have v9 : nxCue c (i : Int) bn t v 9 n6 = t := by
            show tu (tu (tu c 8 (c 6 0).toNat (i : Int)) 7 (c 6 0).toNat (bn : Int)) 9 (c 6 0).toNat t 9 n6 = _
            rw [hnn, tu_s]
          have v10 : nxCue c (i : Int) bn t v 10 n6 = v := by
            show tu (tu (tu (tu c 8 (c 6 0).toNat (i : Int)) 7 (c 6 0).toNat (bn : Int)) 9 (c 6 0).toNat t) 10 (c 6 0).toNat v 10 n6 = _
            rw [hnn, tu_s]
          have v11 : nxCue c (i : Int) bn t v 11 n6 = 0 := w11
          have hG := CB.newQ (g := g) (A := A) (c' := nxCue c (i : Int) bn t v) (σ := σ) (σ' := σ5) (D := D) (n := n6) (y := y) (r1 := r1) (r2 := r2) (c1 := c1) (c2 := c2) (i := i) (b := bn) (k := k) hw hI hM.1 hM.2.2 hn6 (by omega) rfl (by unfold nxCue; rw [tu_s]; omega) rfl (by unfold nxCue; rw [tu_rowN (by decide), tu_rowN (by decide), tu_rowN (by decide), tu_rowN (by decide), tu_rowN (by decide)]) (by unfold nxCue; rw [tu_rowN (by decide), tu_rowN (by decide), tu_rowN (by decide), tu_rowN (by decide), tu_rowN (by decide)]) (fun j => ⟨rfl, rfl, rfl, rfl⟩) (fun q hq => by
            have hq2 : q ≠ (c 6 0).toNat := by omega
            refine ⟨?_, ?_, ?_, ?_, rfl⟩
            · show tu (tu c 8 (c 6 0).toNat (i : Int)) 7 (c 6 0).toNat (bn : Int) 7 q = _
              rw [tu_j hq2]
              rfl
            · show tu c 8 (c 6 0).toNat (i : Int) 8 q = _
              rw [tu_j hq2]
            · show tu (tu (tu c 8 (c 6 0).toNat (i : Int)) 7 (c 6 0).toNat (bn : Int)) 9 (c 6 0).toNat t 9 q = _
              rw [tu_j hq2]
              rfl
            · show tu (tu (tu (tu c 8 (c 6 0).toNat (i : Int)) 7 (c 6 0).toNat (bn : Int)) 9 (c 6 0).toNat t) 10 (c 6 0).toNat v 10 q = _
              rw [tu_j hq2]
              rfl) v8 v7 v11 (by rw [v7, v9, v10, v11]; exact (d2 y yr).trans hy4) hA1 a5 a6 hA2 hk b5 b6 b7 hlo hhi hi d1 (fun u h1 h2 h3 h4 h5 h6 => ((((d2 u h6).trans (b4 u h3 h5)).trans (a4 u h2 h4)).trans (p2 u h1)).trans (O1 u h1)) hy (a3.imp (fun q => ⟨q.1, q.2.2⟩) (fun q => ⟨((p2 _ r1y).trans (O1 _ r1y)).symm.trans q, r1y⟩)) (b3.imp (fun q => ⟨q.1, q.2.2⟩) (fun q => ⟨(((a4 _ r21 r22).trans (p2 _ r2y)).trans (O1 _ r2y)).symm.trans q, r2y, r21⟩)) a2 b2
          exact n_ireturn C Rr rfl ⟨_, _, _, rfl, hG.1, hG.2, hcd, hn6.symm⟩ (by omega) (by omega) dX2_cue_120
        · have hcd : cdCue c (i : Int) b t v = 3 := by unfold cdCue; rw [if_pos (by omega), hlp2, if_pos (by omega), if_pos (by omega)]
          exact n_throw C Rr (names := exIA) (text := "there were 24 cues") (by decide) (by decide) (by decide) (by decide) t1_192 t1_9 atIS.1 atIS.2 dX2_cue_62 dX2_cue_65 dX2_cue_66 dX2_cue_68 dX2_cue_71 (Nat.le_of_ble_eq_true rfl) ⟨rfl, Or.inr (Or.inr ⟨rfl, hcd⟩)⟩ (by omega) (by omega)
