theorem WF_outP {c : Tb} (hw : WF c) {a : Int} (h : cdIs c a = 0) : WF (nxOut c a) := by
  unfold cdIs at h
  refine WF_out hw ?_
  split at h <;> omega
set_option maxRecDepth 100000 in
set_option maxHeartbeats 4000000 in
theorem w_wagon {g : Gx} (hst : g.1.stackTraces = false) {a1 : Int} (ha1 : rg a1) {a2 : Int} (ha2 : rg a2) {a3 : Int} (ha3 : rg a3) {a4 : Int} (ha4 : rg a4) {o w x0 : Nat} {ar : Nat → Nat} {M c : Tb} {v : Int64} {σ : Wd} (hJ : LJ g o w x0 ar M c v σ) : CTW g yL_wagon cL_wagon 7 (some .int) [(0, 14, 17, 13), (0, 14, 21, 15)] 9 5 113 [.ref x0, iv a1, iv a2, iv a3, iv a4, .ref w] σ (WP g o w x0 ar M c (cdWagon c a1 a2 a3 a4) (nxWagon c a1 a2 a3 a4) (some (c 0 0))) := by
  obtain ⟨hR, hMW, A, D, f, rfl, hM, hI, hw, ho, hf, hs⟩ := id hJ
  refine CTW.of hst (by decide +kernel) (Nat.le_of_ble_eq_true rfl) (fun Φ C Rr hN => ?_)
  show N Φ 0 0 σ 0 [(0, .ref (shA A 0)), (1, iv a1), (2, iv a2), (3, iv a3), (4, iv a4), (5, .ref w)] []
  refine n_aload C dL_wagon_0 rfl ?_
  refine n_iconst (x := 0) C dL_wagon_2 ?_
  refine n_aload_n C dL_wagon_3 rfl ?_
  refine n_iload_n C dL_wagon_4 rfl ?_
  refine n_iload_n C dL_wagon_5 rfl ?_
  refine n_iload_n C dL_wagon_6 rfl ?_
  refine n_iload C dL_wagon_7 rfl ?_
  refine n_invV C (p_wagon hst ha1 ha2 ha3 ha4 hM hw hI) ⟨w2_3, w2_6, w1_1, ⟨by decide, by decide⟩, by show _ = some 4; decide +kernel, by decide⟩ w2_4 w2_5 hM.1.1 vC5 (by decide) (by omega) (by omega) (Nat.le_of_ble_eq_true rfl) rfl dL_wagon_9 (fun r σ1 h' => ?_) (fun E σ1 hx => ?_)
  · obtain ⟨x, A', D', rfl, hG, hI', hcd, rfl⟩ := h'
    obtain ⟨hJ1, ho1⟩ := LJ.cls hR hMW rfl ho hf hs hG hI' (WF_wagon hw hcd)
    refine n_i2l C dL_wagon_12 ?_
    refine n_last C ho1 (by omega) (by omega) (by omega) dL_wagon_13 ?_
    refine n_goto C 25 dL_wagon_14 (by decide) ?_
    refine n_iconst (x := 0) C dL_wagon_25 ?_
    exact n_ireturnW C Rr rfl (WP.ok hcd (LJ.out hJ1 rfl (if_pos rfl)) (fun z hz => by cases hz; rfl)) (by omega) (by omega) dL_wagon_26
  · obtain ⟨rfl, hx⟩ := hx
    rcases hx with ⟨rfl, hcd⟩ | ⟨rfl, hcd⟩
    · refine n_catch (E := "java/lang/IllegalArgumentException") (name := "java/lang/IllegalArgumentException") [] (0, 14, 17, 13) [(0, 14, 21, 15)] C Rr (fun z hz => absurd hz List.not_mem_nil) ⟨by decide, by decide⟩ (by decide) w2_1 w2_12 (fun q => ?_)
      refine n_astore (lv' := [(6, .ref q), (0, .ref (shA A 0)), (1, iv a1), (2, iv a2), (3, iv a3), (4, iv a4), (5, .ref w)]) C dL_wagon_17 (by rw [hN]; decide) rfl ?_
      refine n_iconst (x := 1) C dL_wagon_19 ?_
      exact n_ireturnW C Rr rfl (WP.bad hcd (by decide) hJ) (by omega) (by omega) dL_wagon_20
    · refine n_catch (E := "java/lang/IllegalStateException") (name := "java/lang/IllegalStateException") [(0, 14, 17, 13)] (0, 14, 21, 15) [] C Rr (fun z hz => by
          rcases List.mem_cons.mp hz with rfl | hz
          · exact ⟨by decide, "java/lang/IllegalArgumentException", w2_1, fun U h => h.1⟩
          exact absurd hz List.not_mem_nil) ⟨by decide, by decide⟩ (by decide) w2_2 w2_84 (fun q => ?_)
      refine n_astore (lv' := [(6, .ref q), (0, .ref (shA A 0)), (1, iv a1), (2, iv a2), (3, iv a3), (4, iv a4), (5, .ref w)]) C dL_wagon_21 (by rw [hN]; decide) rfl ?_
      refine n_iconst (x := 2) C dL_wagon_23 ?_
      exact n_ireturnW C Rr rfl (WP.bad hcd (by decide) hJ) (by omega) (by omega) dL_wagon_24
set_option maxRecDepth 100000 in
set_option maxHeartbeats 4000000 in
theorem w_turntable {g : Gx} (hst : g.1.stackTraces = false) {a1 : Int} (ha1 : rg a1) {a2 : Int} (ha2 : rg a2) {o w x0 : Nat} {ar : Nat → Nat} {M c : Tb} {v : Int64} {σ : Wd} (hJ : LJ g o w x0 ar M c v σ) : CTW g yL_turntable cL_turntable 5 (some .int) [(0, 10, 13, 13), (0, 10, 17, 15)] 9 5 113 [.ref x0, iv a1, iv a2, .ref w] σ (WP g o w x0 ar M c (cdTable c a1 a2) (nxTable c a1 a2) (some (c 0 0))) := by
  obtain ⟨hR, hMW, A, D, f, rfl, hM, hI, hw, ho, hf, hs⟩ := id hJ
  refine CTW.of hst (by decide +kernel) (Nat.le_of_ble_eq_true rfl) (fun Φ C Rr hN => ?_)
  show N Φ 0 0 σ 0 [(0, .ref (shA A 0)), (1, iv a1), (2, iv a2), (3, .ref w)] []
  refine n_aload_n C dL_turntable_0 rfl ?_
  refine n_iconst (x := 0) C dL_turntable_1 ?_
  refine n_aload_n C dL_turntable_2 rfl ?_
  refine n_iload_n C dL_turntable_3 rfl ?_
  refine n_iload_n C dL_turntable_4 rfl ?_
  refine n_invV C (p_turntable hst ha1 ha2 hM hw hI) ⟨w2_188, w2_191, w1_1, ⟨by decide, by decide⟩, by show _ = some 2; decide +kernel, by decide⟩ w2_189 w2_190 hM.1.1 vC5 (by decide) (by omega) (by omega) (Nat.le_of_ble_eq_true rfl) rfl dL_turntable_5 (fun r σ1 h' => ?_) (fun E σ1 hx => ?_)
  · obtain ⟨x, A', D', rfl, hG, hI', hcd, rfl⟩ := h'
    obtain ⟨hJ1, ho1⟩ := LJ.cls hR hMW rfl ho hf hs hG hI' (WF_table hw hcd)
    refine n_i2l C dL_turntable_8 ?_
    refine n_last C ho1 (by omega) (by omega) (by omega) dL_turntable_9 ?_
    refine n_goto C 21 dL_turntable_10 (by decide) ?_
    refine n_iconst (x := 0) C dL_turntable_21 ?_
    exact n_ireturnW C Rr rfl (WP.ok hcd (LJ.out hJ1 rfl (if_pos rfl)) (fun z hz => by cases hz; rfl)) (by omega) (by omega) dL_turntable_22
  · obtain ⟨rfl, hx⟩ := hx
    rcases hx with ⟨rfl, hcd⟩ | ⟨rfl, hcd⟩
    · refine n_catch (E := "java/lang/IllegalArgumentException") (name := "java/lang/IllegalArgumentException") [] (0, 10, 13, 13) [(0, 10, 17, 15)] C Rr (fun z hz => absurd hz List.not_mem_nil) ⟨by decide, by decide⟩ (by decide) w2_1 w2_12 (fun q => ?_)
      refine n_astore (lv' := [(4, .ref q), (0, .ref (shA A 0)), (1, iv a1), (2, iv a2), (3, .ref w)]) C dL_turntable_13 (by rw [hN]; decide) rfl ?_
      refine n_iconst (x := 1) C dL_turntable_15 ?_
      exact n_ireturnW C Rr rfl (WP.bad hcd (by decide) hJ) (by omega) (by omega) dL_turntable_16
    · refine n_catch (E := "java/lang/IllegalStateException") (name := "java/lang/IllegalStateException") [(0, 10, 13, 13)] (0, 10, 17, 15) [] C Rr (fun z hz => by
          rcases List.mem_cons.mp hz with rfl | hz
          · exact ⟨by decide, "java/lang/IllegalArgumentException", w2_1, fun U h => h.1⟩
          exact absurd hz List.not_mem_nil) ⟨by decide, by decide⟩ (by decide) w2_2 w2_84 (fun q => ?_)
      refine n_astore (lv' := [(4, .ref q), (0, .ref (shA A 0)), (1, iv a1), (2, iv a2), (3, .ref w)]) C dL_turntable_17 (by rw [hN]; decide) rfl ?_
      refine n_iconst (x := 2) C dL_turntable_19 ?_
      exact n_ireturnW C Rr rfl (WP.bad hcd (by decide) hJ) (by omega) (by omega) dL_turntable_20
set_option maxRecDepth 100000 in
set_option maxHeartbeats 4000000 in
theorem w_setScore {g : Gx} (hst : g.1.stackTraces = false) {a1 : Int} (ha1 : rg a1) {a2 : Int} (ha2 : rg a2) {o w x0 : Nat} {ar : Nat → Nat} {M c : Tb} {v : Int64} {σ : Wd} (hJ : LJ g o w x0 ar M c v σ) : CTW g yL_setScore cL_setScore 4 (some .int) [(0, 6, 9, 13), (0, 6, 12, 15)] 5 2 12 [.ref x0, iv a1, iv a2] σ (WP g o w x0 ar M c (cdScore c a1 a2) (nxScore c a1 a2) none) := by
  obtain ⟨hR, hMW, A, D, f, rfl, hM, hI, hw, ho, hf, hs⟩ := id hJ
  refine CTW.of hst (by decide +kernel) (Nat.le_of_ble_eq_true rfl) (fun Φ C Rr hN => ?_)
  show N Φ 0 0 σ 0 [(0, .ref (shA A 0)), (1, iv a1), (2, iv a2)] []
  refine n_aload_n C dL_setScore_0 rfl ?_
  refine n_iload_n C dL_setScore_1 rfl ?_
  refine n_iload_n C dL_setScore_2 rfl ?_
  refine n_invV C (p_setScore hst ha1 ha2 hM hw hI) ⟨w2_195, w2_198, w1_1, ⟨by decide, by decide⟩, by show _ = some 2; decide +kernel, by decide⟩ w2_196 w2_197 hM.1.1 vC5 (by decide) (by omega) (by omega) (Nat.le_of_ble_eq_true rfl) rfl dL_setScore_3 (fun r σ1 h' => ?_) (fun E σ1 hx => ?_)
  · obtain ⟨rfl, hB, hI', hcd⟩ := h'
    obtain ⟨hJ1, ho1⟩ := LJ.cls hR hMW rfl ho hf hs (GW.own hB rfl rfl rfl rfl) hI' (WF_score hw hcd)
    refine n_goto C 15 dL_setScore_6 (by decide) ?_
    refine n_iconst (x := 0) C dL_setScore_15 ?_
    exact n_ireturnW C Rr rfl (WP.ok hcd hJ1 (fun z hz => by cases hz)) (by omega) (by omega) dL_setScore_16
  · obtain ⟨rfl, hx⟩ := hx
    rcases hx with ⟨rfl, hcd⟩ | ⟨rfl, hcd⟩
    · refine n_catch (E := "java/lang/IllegalArgumentException") (name := "java/lang/IllegalArgumentException") [] (0, 6, 9, 13) [(0, 6, 12, 15)] C Rr (fun z hz => absurd hz List.not_mem_nil) ⟨by decide, by decide⟩ (by decide) w2_1 w2_12 (fun q => ?_)
      refine n_astore_n (lv' := [(3, .ref q), (0, .ref (shA A 0)), (1, iv a1), (2, iv a2)]) C dL_setScore_9 (by rw [hN]; decide) rfl ?_
      refine n_iconst (x := 1) C dL_setScore_10 ?_
      exact n_ireturnW C Rr rfl (WP.bad hcd (by decide) hJ) (by omega) (by omega) dL_setScore_11
    · refine n_catch (E := "java/lang/IllegalStateException") (name := "java/lang/IllegalStateException") [(0, 6, 9, 13)] (0, 6, 12, 15) [] C Rr (fun z hz => by
          rcases List.mem_cons.mp hz with rfl | hz
          · exact ⟨by decide, "java/lang/IllegalArgumentException", w2_1, fun U h => h.1⟩
          exact absurd hz List.not_mem_nil) ⟨by decide, by decide⟩ (by decide) w2_2 w2_84 (fun q => ?_)
      refine n_astore_n (lv' := [(3, .ref q), (0, .ref (shA A 0)), (1, iv a1), (2, iv a2)]) C dL_setScore_12 (by rw [hN]; decide) rfl ?_
      refine n_iconst (x := 2) C dL_setScore_13 ?_
      exact n_ireturnW C Rr rfl (WP.bad hcd (by decide) hJ) (by omega) (by omega) dL_setScore_14
set_option maxRecDepth 100000 in
set_option maxHeartbeats 4000000 in
theorem w_cue {g : Gx} (hst : g.1.stackTraces = false) {a1 : Int} (ha1 : rg a1) {a2 : Int} (ha2 : rg a2) {a3 : Int} (ha3 : rg a3) {a4 : Int} (ha4 : rg a4) {o w x0 : Nat} {ar : Nat → Nat} {M c : Tb} {v : Int64} {σ : Wd} (hJ : LJ g o w x0 ar M c v σ) : CTW g yL_cue cL_cue 7 (some .int) [(0, 14, 17, 28), (0, 14, 21, 13), (0, 14, 25, 15)] 7 5 146 [.ref x0, iv a1, iv a2, iv a3, iv a4, .ref w] σ (WP g o w x0 ar M c (cdCue c a1 a2 a3 a4) (nxCue c a1 a2 a3 a4) (some (c 6 0))) := by
  obtain ⟨hR, hMW, A, D, f, rfl, hM, hI, hw, ho, hf, hs⟩ := id hJ
  refine CTW.of hst (by decide +kernel) (Nat.le_of_ble_eq_true rfl) (fun Φ C Rr hN => ?_)
  show N Φ 0 0 σ 0 [(0, .ref (shA A 0)), (1, iv a1), (2, iv a2), (3, iv a3), (4, iv a4), (5, .ref w)] []
  refine n_aload C dL_cue_0 rfl ?_
  refine n_iconst (x := 0) C dL_cue_2 ?_
  refine n_aload_n C dL_cue_3 rfl ?_
  refine n_iload_n C dL_cue_4 rfl ?_
  refine n_iload_n C dL_cue_5 rfl ?_
  refine n_iload_n C dL_cue_6 rfl ?_
  refine n_iload C dL_cue_7 rfl ?_
  refine n_invV C (p_cue hst ha1 ha2 ha3 ha4 hM hw hI) ⟨w2_204, w2_207, w1_1, ⟨by decide, by decide⟩, by show _ = some 4; decide +kernel, by decide⟩ w2_205 w2_206 hM.1.1 vC5 (by decide) (by omega) (by omega) (Nat.le_of_ble_eq_true rfl) rfl dL_cue_9 (fun r σ1 h' => ?_) (fun E σ1 hx => ?_)
  · obtain ⟨x, A', D', rfl, hG, hI', hcd, rfl⟩ := h'
    obtain ⟨hJ1, ho1⟩ := LJ.cls hR hMW rfl ho hf hs hG hI' (WF_cue hw hcd)
    refine n_i2l C dL_cue_12 ?_
    refine n_last C ho1 (by omega) (by omega) (by omega) dL_cue_13 ?_
    refine n_goto C 29 dL_cue_14 (by decide) ?_
    refine n_iconst (x := 0) C dL_cue_29 ?_
    exact n_ireturnW C Rr rfl (WP.ok hcd (LJ.out hJ1 rfl (if_pos rfl)) (fun z hz => by cases hz; rfl)) (by omega) (by omega) dL_cue_30
  · obtain ⟨rfl, hx⟩ := hx
    rcases hx with ⟨rfl, hcd⟩ | ⟨rfl, hcd⟩ | ⟨rfl, hcd⟩
    · refine n_catch (E := "java/lang/IndexOutOfBoundsException") (name := "java/lang/IndexOutOfBoundsException") [] (0, 14, 17, 28) [(0, 14, 21, 13), (0, 14, 25, 15)] C Rr (fun z hz => absurd hz List.not_mem_nil) ⟨by decide, by decide⟩ (by decide) w2_203 w2_214 (fun q => ?_)
      refine n_astore (lv' := [(6, .ref q), (0, .ref (shA A 0)), (1, iv a1), (2, iv a2), (3, iv a3), (4, iv a4), (5, .ref w)]) C dL_cue_17 (by rw [hN]; decide) rfl ?_
      refine n_iconst (x := 1) C dL_cue_19 ?_
      exact n_ireturnW C Rr rfl (WP.bad hcd (by decide) hJ) (by omega) (by omega) dL_cue_20
    · refine n_catch (E := "java/lang/IllegalArgumentException") (name := "java/lang/IllegalArgumentException") [(0, 14, 17, 28)] (0, 14, 21, 13) [(0, 14, 25, 15)] C Rr (fun z hz => by
          rcases List.mem_cons.mp hz with rfl | hz
          · exact ⟨by decide, "java/lang/IndexOutOfBoundsException", w2_203, fun U h => h.2.1⟩
          exact absurd hz List.not_mem_nil) ⟨by decide, by decide⟩ (by decide) w2_1 w2_12 (fun q => ?_)
      refine n_astore (lv' := [(6, .ref q), (0, .ref (shA A 0)), (1, iv a1), (2, iv a2), (3, iv a3), (4, iv a4), (5, .ref w)]) C dL_cue_21 (by rw [hN]; decide) rfl ?_
      refine n_iconst (x := 2) C dL_cue_23 ?_
      exact n_ireturnW C Rr rfl (WP.bad hcd (by decide) hJ) (by omega) (by omega) dL_cue_24
    · refine n_catch (E := "java/lang/IllegalStateException") (name := "java/lang/IllegalStateException") [(0, 14, 17, 28), (0, 14, 21, 13)] (0, 14, 25, 15) [] C Rr (fun z hz => by
          rcases List.mem_cons.mp hz with rfl | hz
          · exact ⟨by decide, "java/lang/IndexOutOfBoundsException", w2_203, fun U h => h.2.2⟩
          rcases List.mem_cons.mp hz with rfl | hz
          · exact ⟨by decide, "java/lang/IllegalArgumentException", w2_1, fun U h => h.1⟩
          exact absurd hz List.not_mem_nil) ⟨by decide, by decide⟩ (by decide) w2_2 w2_84 (fun q => ?_)
      refine n_astore (lv' := [(6, .ref q), (0, .ref (shA A 0)), (1, iv a1), (2, iv a2), (3, iv a3), (4, iv a4), (5, .ref w)]) C dL_cue_25 (by rw [hN]; decide) rfl ?_
      refine n_iconst (x := 3) C dL_cue_27 ?_
      exact n_ireturnW C Rr rfl (WP.bad hcd (by decide) hJ) (by omega) (by omega) dL_cue_28
set_option maxRecDepth 100000 in
set_option maxHeartbeats 4000000 in
theorem w_strikeOut {g : Gx} (hst : g.1.stackTraces = false) {a1 : Int} (ha1 : rg a1) {o w x0 : Nat} {ar : Nat → Nat} {M c : Tb} {v : Int64} {σ : Wd} (hJ : LJ g o w x0 ar M c v σ) : CTW g yL_strikeOut cL_strikeOut 4 (some .int) [(0, 9, 12, 28)] 5 1 6 [.ref x0, iv a1, .ref w] σ (WP g o w x0 ar M c (cdIs c a1) (nxOut c a1) (some (c 7 a1.toNat))) := by
  obtain ⟨hR, hMW, A, D, f, rfl, hM, hI, hw, ho, hf, hs⟩ := id hJ
  refine CTW.of hst (by decide +kernel) (Nat.le_of_ble_eq_true rfl) (fun Φ C Rr hN => ?_)
  show N Φ 0 0 σ 0 [(0, .ref (shA A 0)), (1, iv a1), (2, .ref w)] []
  refine n_aload_n C dL_strikeOut_0 rfl ?_
  refine n_iconst (x := 0) C dL_strikeOut_1 ?_
  refine n_aload_n C dL_strikeOut_2 rfl ?_
  refine n_iload_n C dL_strikeOut_3 rfl ?_
  refine n_invV C (p_strikeOut hst ha1 hM hw hI) ⟨w4_39, w4_42, w1_1, ⟨by decide, by decide⟩, by show _ = some 1; decide +kernel, by decide⟩ w4_40 w4_41 hM.1.1 vC5 (by decide) (by omega) (by omega) (Nat.le_of_ble_eq_true rfl) rfl dL_strikeOut_4 (fun r σ1 h' => ?_) (fun E σ1 hx => ?_)
  · obtain ⟨x, e, rfl, hB, hI', hcd, rfl⟩ := h'
    obtain ⟨hJ1, ho1⟩ := LJ.cls hR hMW rfl ho hf hs (GW.own hB rfl rfl rfl rfl) hI' (WF_outP hw hcd)
    refine n_i2l C dL_strikeOut_7 ?_
    refine n_last C ho1 (by omega) (by omega) (by omega) dL_strikeOut_8 ?_
    refine n_goto C 15 dL_strikeOut_9 (by decide) ?_
    refine n_iconst (x := 0) C dL_strikeOut_15 ?_
    exact n_ireturnW C Rr rfl (WP.ok hcd (LJ.out hJ1 rfl (if_pos rfl)) (fun z hz => by cases hz; rfl)) (by omega) (by omega) dL_strikeOut_16
  · obtain ⟨rfl, hx⟩ := hx
    obtain ⟨rfl, hx⟩ := hx
    have hcd := hx
    refine n_catch (E := "java/lang/IndexOutOfBoundsException") (name := "java/lang/IndexOutOfBoundsException") [] (0, 9, 12, 28) [] C Rr (fun z hz => absurd hz List.not_mem_nil) ⟨by decide, by decide⟩ (by decide) w2_203 w2_214 (fun q => ?_)
    refine n_astore_n (lv' := [(3, .ref q), (0, .ref (shA A 0)), (1, iv a1), (2, .ref w)]) C dL_strikeOut_12 (by rw [hN]; decide) rfl ?_
    refine n_iconst (x := 1) C dL_strikeOut_13 ?_
    exact n_ireturnW C Rr rfl (WP.bad hcd (by decide) hJ) (by omega) (by omega) dL_strikeOut_14
set_option maxRecDepth 100000 in
set_option maxHeartbeats 4000000 in
theorem w_setTempo {g : Gx} (hst : g.1.stackTraces = false) {a1 : Int} (ha1 : rg a1) {o w x0 : Nat} {ar : Nat → Nat} {M c : Tb} {v : Int64} {σ : Wd} (hJ : LJ g o w x0 ar M c v σ) : CTW g yL_setTempo cL_setTempo 4 (some .int) [(0, 9, 12, 13)] 5 1 6 [.ref x0, iv a1, .ref w] σ (WP g o w x0 ar M c (cdTempo a1) (nxTempo c a1) (some (c 14 0))) := by
  obtain ⟨hR, hMW, A, D, f, rfl, hM, hI, hw, ho, hf, hs⟩ := id hJ
  refine CTW.of hst (by decide +kernel) (Nat.le_of_ble_eq_true rfl) (fun Φ C Rr hN => ?_)
  show N Φ 0 0 σ 0 [(0, .ref (shA A 0)), (1, iv a1), (2, .ref w)] []
  refine n_aload_n C dL_setTempo_0 rfl ?_
  refine n_iconst (x := 0) C dL_setTempo_1 ?_
  refine n_aload_n C dL_setTempo_2 rfl ?_
  refine n_iload_n C dL_setTempo_3 rfl ?_
  refine n_invV C (p_setTempo hst ha1 hM hw hI) ⟨w4_55, w4_58, w1_1, ⟨by decide, by decide⟩, by show _ = some 1; decide +kernel, by decide⟩ w4_56 w4_57 hM.1.1 vC5 (by decide) (by omega) (by omega) (Nat.le_of_ble_eq_true rfl) rfl dL_setTempo_4 (fun r σ1 h' => ?_) (fun E σ1 hx => ?_)
  · obtain ⟨x, rfl, hB, hI', hcd, rfl⟩ := h'
    obtain ⟨hJ1, ho1⟩ := LJ.cls hR hMW rfl ho hf hs (GW.own hB rfl rfl rfl rfl) hI' (WF_tempo hw hcd)
    refine n_i2l C dL_setTempo_7 ?_
    refine n_last C ho1 (by omega) (by omega) (by omega) dL_setTempo_8 ?_
    refine n_goto C 15 dL_setTempo_9 (by decide) ?_
    refine n_iconst (x := 0) C dL_setTempo_15 ?_
    exact n_ireturnW C Rr rfl (WP.ok hcd (LJ.out hJ1 rfl (if_pos rfl)) (fun z hz => by cases hz; rfl)) (by omega) (by omega) dL_setTempo_16
  · obtain ⟨rfl, hx⟩ := hx
    obtain ⟨rfl, hx⟩ := hx
    have hcd := hx
    refine n_catch (E := "java/lang/IllegalArgumentException") (name := "java/lang/IllegalArgumentException") [] (0, 9, 12, 13) [] C Rr (fun z hz => absurd hz List.not_mem_nil) ⟨by decide, by decide⟩ (by decide) w2_1 w2_12 (fun q => ?_)
    refine n_astore_n (lv' := [(3, .ref q), (0, .ref (shA A 0)), (1, iv a1), (2, .ref w)]) C dL_setTempo_12 (by rw [hN]; decide) rfl ?_
    refine n_iconst (x := 1) C dL_setTempo_13 ?_
    exact n_ireturnW C Rr rfl (WP.bad hcd (by decide) hJ) (by omega) (by omega) dL_setTempo_14
set_option maxRecDepth 100000 in
set_option maxHeartbeats 4000000 in
theorem w_setRules {g : Gx} (hst : g.1.stackTraces = false) {a1 : Int} (ha1 : rg a1) {a2 : Int} (ha2 : rg a2) {o w x0 : Nat} {ar : Nat → Nat} {M c : Tb} {v : Int64} {σ : Wd} (hJ : LJ g o w x0 ar M c v σ) : CTW g yL_setRules cL_setRules 4 (some .int) [(0, 6, 9, 13)] 5 1 6 [.ref x0, iv a1, iv a2] σ (WP g o w x0 ar M c (cdRules a1 a2) (nxRules c a1 a2) none) := by
  obtain ⟨hR, hMW, A, D, f, rfl, hM, hI, hw, ho, hf, hs⟩ := id hJ
  refine CTW.of hst (by decide +kernel) (Nat.le_of_ble_eq_true rfl) (fun Φ C Rr hN => ?_)
  show N Φ 0 0 σ 0 [(0, .ref (shA A 0)), (1, iv a1), (2, iv a2)] []
  refine n_aload_n C dL_setRules_0 rfl ?_
  refine n_iload_n C dL_setRules_1 rfl ?_
  refine n_iload_n C dL_setRules_2 rfl ?_
  refine n_invV C (p_setRules hst ha1 ha2 hM hw hI) ⟨w4_62, w4_65, w1_1, ⟨by decide, by decide⟩, by show _ = some 2; decide +kernel, by decide⟩ w4_63 w4_64 hM.1.1 vC5 (by decide) (by omega) (by omega) (Nat.le_of_ble_eq_true rfl) rfl dL_setRules_3 (fun r σ1 h' => ?_) (fun E σ1 hx => ?_)
  · obtain ⟨rfl, hB, hI', hcd⟩ := h'
    obtain ⟨hJ1, ho1⟩ := LJ.cls hR hMW rfl ho hf hs (GW.own hB rfl rfl rfl rfl) hI' (WF_rules hw hcd)
    refine n_goto C 12 dL_setRules_6 (by decide) ?_
    refine n_iconst (x := 0) C dL_setRules_12 ?_
    exact n_ireturnW C Rr rfl (WP.ok hcd hJ1 (fun z hz => by cases hz)) (by omega) (by omega) dL_setRules_13
  · obtain ⟨rfl, hx⟩ := hx
    obtain ⟨rfl, hx⟩ := hx
    have hcd := hx
    refine n_catch (E := "java/lang/IllegalArgumentException") (name := "java/lang/IllegalArgumentException") [] (0, 6, 9, 13) [] C Rr (fun z hz => absurd hz List.not_mem_nil) ⟨by decide, by decide⟩ (by decide) w2_1 w2_12 (fun q => ?_)
    refine n_astore_n (lv' := [(3, .ref q), (0, .ref (shA A 0)), (1, iv a1), (2, iv a2)]) C dL_setRules_9 (by rw [hN]; decide) rfl ?_
    refine n_iconst (x := 1) C dL_setRules_10 ?_
    exact n_ireturnW C Rr rfl (WP.bad hcd (by decide) hJ) (by omega) (by omega) dL_setRules_11
set_option maxRecDepth 100000 in
set_option maxHeartbeats 4000000 in
theorem w_strike {g : Gx} (hst : g.1.stackTraces = false) {a1 : Int} (ha1 : rg a1) {a2 : Int} (ha2 : a2 = 0 ∨ a2 = 1) {o w x0 : Nat} {ar : Nat → Nat} {M c : Tb} {v : Int64} {σ : Wd} (hJ : LJ g o w x0 ar M c v σ) : CTW g yL_strike cL_strike 5 (some .int) [(0, 17, 20, 13)] 5 1 6 [.ref x0, iv a1, iv a2, .ref w] σ (WP g o w x0 ar M c (cdWork a1) (nxStrike c a1 a2) (some (c 17 a1.toNat))) := by
  obtain ⟨hR, hMW, A, D, f, rfl, hM, hI, hw, ho, hf, hs⟩ := id hJ
  refine CTW.of hst (by decide +kernel) (Nat.le_of_ble_eq_true rfl) (fun Φ C Rr hN => ?_)
  show N Φ 0 0 σ 0 [(0, .ref (shA A 0)), (1, iv a1), (2, iv a2), (3, .ref w)] []
  refine n_aload_n C dL_strike_0 rfl ?_
  refine n_iconst (x := 0) C dL_strike_1 ?_
  refine n_aload_n C dL_strike_2 rfl ?_
  refine n_iload_n C dL_strike_3 rfl ?_
  refine n_iload_n C dL_strike_4 rfl ?_
  refine n_invV C (p_strike hst ha1 ha2 hM hw hI) ⟨w4_69, w4_72, w1_1, ⟨by decide, by decide⟩, by show _ = some 2; decide +kernel, by decide⟩ w4_70 w4_71 hM.1.1 vC5 (by decide) (by omega) (by omega) (Nat.le_of_ble_eq_true rfl) rfl dL_strike_5 (fun r σ1 h' => ?_) (fun E σ1 hx => ?_)
  · obtain ⟨x, rfl, hB, hI', hcd, rfl⟩ := h'
    obtain ⟨hJ1, ho1⟩ := LJ.cls hR hMW rfl ho hf hs (GW.own hB rfl rfl rfl rfl) hI' (WF_strike hw ha2)
    have w17 := (hw.2.2.2.2.2.2.2.2.2 a1.toNat).1
    refine n_if_eq C 15 dL_strike_8 (by decide) (by unfold rg; omega) (fun b8 => ?_) (fun b8 => ?_)
    · refine n_lconst C (Int64.ofNat 0) dL_strike_15 rfl ?_
      refine n_last C ho1 (by omega) (by omega) (by omega) dL_strike_16 ?_
      refine n_goto C 24 dL_strike_17 (by decide) ?_
      refine n_iconst (x := 0) C dL_strike_24 ?_
      exact n_ireturnW C Rr rfl (WP.ok hcd (LJ.out hJ1 rfl (if_pos rfl)) (fun z hz => by cases hz; rw [b8]; decide)) (by omega) (by omega) dL_strike_25
    · refine n_lconst C (Int64.ofNat 1) dL_strike_11 rfl ?_
      refine n_goto C 16 dL_strike_12 (by decide) ?_
      refine n_last C ho1 (by omega) (by omega) (by omega) dL_strike_16 ?_
      refine n_goto C 24 dL_strike_17 (by decide) ?_
      refine n_iconst (x := 0) C dL_strike_24 ?_
      exact n_ireturnW C Rr rfl (WP.ok hcd (LJ.out hJ1 rfl (if_pos rfl)) (fun z hz => by cases hz; rw [(show c 17 a1.toNat = 1 by omega)]; decide)) (by omega) (by omega) dL_strike_25
  · obtain ⟨rfl, hx⟩ := hx
    obtain ⟨rfl, hx⟩ := hx
    have hcd := hx
    refine n_catch (E := "java/lang/IllegalArgumentException") (name := "java/lang/IllegalArgumentException") [] (0, 17, 20, 13) [] C Rr (fun z hz => absurd hz List.not_mem_nil) ⟨by decide, by decide⟩ (by decide) w2_1 w2_12 (fun q => ?_)
    refine n_astore (lv' := [(4, .ref q), (0, .ref (shA A 0)), (1, iv a1), (2, iv a2), (3, .ref w)]) C dL_strike_20 (by rw [hN]; decide) rfl ?_
    refine n_iconst (x := 1) C dL_strike_22 ?_
    exact n_ireturnW C Rr rfl (WP.bad hcd (by decide) hJ) (by omega) (by omega) dL_strike_23
set_option maxRecDepth 100000 in
set_option maxHeartbeats 4000000 in
theorem w_substitute {g : Gx} (hst : g.1.stackTraces = false) {a1 : Int} (ha1 : rg a1) {a2 : Int} (ha2 : rg a2) {o w x0 : Nat} {ar : Nat → Nat} {M c : Tb} {v : Int64} {σ : Wd} (hJ : LJ g o w x0 ar M c v σ) : CTW g yL_substitute cL_substitute 5 (some .int) [(0, 10, 13, 13)] 5 1 6 [.ref x0, iv a1, iv a2, .ref w] σ (WP g o w x0 ar M c (cdSub a1 a2) (nxSub c a1 a2) (some (c 18 a1.toNat))) := by
  obtain ⟨hR, hMW, A, D, f, rfl, hM, hI, hw, ho, hf, hs⟩ := id hJ
  refine CTW.of hst (by decide +kernel) (Nat.le_of_ble_eq_true rfl) (fun Φ C Rr hN => ?_)
  show N Φ 0 0 σ 0 [(0, .ref (shA A 0)), (1, iv a1), (2, iv a2), (3, .ref w)] []
  refine n_aload_n C dL_substitute_0 rfl ?_
  refine n_iconst (x := 0) C dL_substitute_1 ?_
  refine n_aload_n C dL_substitute_2 rfl ?_
  refine n_iload_n C dL_substitute_3 rfl ?_
  refine n_iload_n C dL_substitute_4 rfl ?_
  refine n_invV C (p_substitute hst ha1 ha2 hM hw hI) ⟨w4_76, w4_79, w1_1, ⟨by decide, by decide⟩, by show _ = some 2; decide +kernel, by decide⟩ w4_77 w4_78 hM.1.1 vC5 (by decide) (by omega) (by omega) (Nat.le_of_ble_eq_true rfl) rfl dL_substitute_5 (fun r σ1 h' => ?_) (fun E σ1 hx => ?_)
  · obtain ⟨x, rfl, hB, hI', hcd, rfl⟩ := h'
    obtain ⟨hJ1, ho1⟩ := LJ.cls hR hMW rfl ho hf hs (GW.own hB rfl rfl rfl rfl) hI' (WF_sub hw hcd)
    refine n_i2l C dL_substitute_8 ?_
    refine n_last C ho1 (by omega) (by omega) (by omega) dL_substitute_9 ?_
    refine n_goto C 17 dL_substitute_10 (by decide) ?_
    refine n_iconst (x := 0) C dL_substitute_17 ?_
    exact n_ireturnW C Rr rfl (WP.ok hcd (LJ.out hJ1 rfl (if_pos rfl)) (fun z hz => by cases hz; rfl)) (by omega) (by omega) dL_substitute_18
  · obtain ⟨rfl, hx⟩ := hx
    obtain ⟨rfl, hx⟩ := hx
    have hcd := hx
    refine n_catch (E := "java/lang/IllegalArgumentException") (name := "java/lang/IllegalArgumentException") [] (0, 10, 13, 13) [] C Rr (fun z hz => absurd hz List.not_mem_nil) ⟨by decide, by decide⟩ (by decide) w2_1 w2_12 (fun q => ?_)
    refine n_astore (lv' := [(4, .ref q), (0, .ref (shA A 0)), (1, iv a1), (2, iv a2), (3, .ref w)]) C dL_substitute_13 (by rw [hN]; decide) rfl ?_
    refine n_iconst (x := 1) C dL_substitute_15 ?_
    exact n_ireturnW C Rr rfl (WP.bad hcd (by decide) hJ) (by omega) (by omega) dL_substitute_16
set_option maxRecDepth 100000 in
set_option maxHeartbeats 4000000 in
theorem w_place {g : Gx} (hst : g.1.stackTraces = false) {a1 : Int} (ha1 : rg a1) {a2 : Int} (ha2 : rg a2) {o w x0 : Nat} {ar : Nat → Nat} {M c : Tb} {v : Int64} {σ : Wd} (hJ : LJ g o w x0 ar M c v σ) : CTW g yL_place cL_place 5 (some .int) [(0, 10, 13, 28), (0, 10, 17, 13)] 5 2 12 [.ref x0, iv a1, iv a2, .ref w] σ (WP g o w x0 ar M c (cdPlace c a1 a2) c (some (vlPlace c a1 a2))) := by
  obtain ⟨hR, hMW, A, D, f, rfl, hM, hI, hw, ho, hf, hs⟩ := id hJ
  refine CTW.of hst (by decide +kernel) (Nat.le_of_ble_eq_true rfl) (fun Φ C Rr hN => ?_)
  show N Φ 0 0 σ 0 [(0, .ref (shA A 0)), (1, iv a1), (2, iv a2), (3, .ref w)] []
  refine n_aload_n C dL_place_0 rfl ?_
  refine n_iconst (x := 0) C dL_place_1 ?_
  refine n_aload_n C dL_place_2 rfl ?_
  refine n_iload_n C dL_place_3 rfl ?_
  refine n_iload_n C dL_place_4 rfl ?_
  refine n_invV C (p_place hst ha1 ha2 hM hw hI) ⟨w4_83, w4_86, w1_1, ⟨by decide, by decide⟩, by show _ = some 2; decide +kernel, by decide⟩ w4_84 w4_85 hM.1.1 vC5 (by decide) (by omega) (by omega) (Nat.le_of_ble_eq_true rfl) rfl dL_place_5 (fun r σ1 h' => ?_) (fun E σ1 hx => ?_)
  · obtain ⟨x, D', rfl, hB, hcd, rfl⟩ := h'
    obtain ⟨hJ1, ho1⟩ := LJ.cls hR hMW rfl ho hf hs (GW.own hB rfl rfl rfl rfl) hI hw
    refine n_i2l C dL_place_8 ?_
    refine n_last C ho1 (by omega) (by omega) (by omega) dL_place_9 ?_
    refine n_goto C 21 dL_place_10 (by decide) ?_
    refine n_iconst (x := 0) C dL_place_21 ?_
    exact n_ireturnW C Rr rfl (WP.ok hcd (LJ.out hJ1 rfl (if_pos rfl)) (fun z hz => by cases hz; rfl)) (by omega) (by omega) dL_place_22
  · obtain ⟨rfl, hx⟩ := hx
    rcases hx with ⟨rfl, hcd⟩ | ⟨rfl, hcd⟩
    · refine n_catch (E := "java/lang/IndexOutOfBoundsException") (name := "java/lang/IndexOutOfBoundsException") [] (0, 10, 13, 28) [(0, 10, 17, 13)] C Rr (fun z hz => absurd hz List.not_mem_nil) ⟨by decide, by decide⟩ (by decide) w2_203 w2_214 (fun q => ?_)
      refine n_astore (lv' := [(4, .ref q), (0, .ref (shA A 0)), (1, iv a1), (2, iv a2), (3, .ref w)]) C dL_place_13 (by rw [hN]; decide) rfl ?_
      refine n_iconst (x := 1) C dL_place_15 ?_
      exact n_ireturnW C Rr rfl (WP.bad hcd (by decide) hJ) (by omega) (by omega) dL_place_16
    · refine n_catch (E := "java/lang/IllegalArgumentException") (name := "java/lang/IllegalArgumentException") [(0, 10, 13, 28)] (0, 10, 17, 13) [] C Rr (fun z hz => by
          rcases List.mem_cons.mp hz with rfl | hz
          · exact ⟨by decide, "java/lang/IndexOutOfBoundsException", w2_203, fun U h => h.2.1⟩
          exact absurd hz List.not_mem_nil) ⟨by decide, by decide⟩ (by decide) w2_1 w2_12 (fun q => ?_)
      refine n_astore (lv' := [(4, .ref q), (0, .ref (shA A 0)), (1, iv a1), (2, iv a2), (3, .ref w)]) C dL_place_17 (by rw [hN]; decide) rfl ?_
      refine n_iconst (x := 2) C dL_place_19 ?_
      exact n_ireturnW C Rr rfl (WP.bad hcd (by decide) hJ) (by omega) (by omega) dL_place_20
set_option maxRecDepth 100000 in
set_option maxHeartbeats 4000000 in
theorem w_placeAtBar {g : Gx} (hst : g.1.stackTraces = false) {a1 : Int} (ha1 : rg a1) {a2 : Int} (ha2 : rg a2) {o w x0 : Nat} {ar : Nat → Nat} {M c : Tb} {v : Int64} {σ : Wd} (hJ : LJ g o w x0 ar M c v σ) : CTW g yL_placeAtBar cL_placeAtBar 5 (some .int) [(0, 10, 13, 28), (0, 10, 17, 13)] 5 2 12 [.ref x0, iv a1, iv a2, .ref w] σ (WP g o w x0 ar M c (cdBar c a1 a2) c (some ((tr c (LL c) a1.toNat (a2.toNat * LL c)).1))) := by
  obtain ⟨hR, hMW, A, D, f, rfl, hM, hI, hw, ho, hf, hs⟩ := id hJ
  refine CTW.of hst (by decide +kernel) (Nat.le_of_ble_eq_true rfl) (fun Φ C Rr hN => ?_)
  show N Φ 0 0 σ 0 [(0, .ref (shA A 0)), (1, iv a1), (2, iv a2), (3, .ref w)] []
  refine n_aload_n C dL_placeAtBar_0 rfl ?_
  refine n_iconst (x := 0) C dL_placeAtBar_1 ?_
  refine n_aload_n C dL_placeAtBar_2 rfl ?_
  refine n_iload_n C dL_placeAtBar_3 rfl ?_
  refine n_iload_n C dL_placeAtBar_4 rfl ?_
  refine n_invV C (p_placeAtBar hst ha1 ha2 hM hw hI) ⟨w4_90, w4_93, w1_1, ⟨by decide, by decide⟩, by show _ = some 2; decide +kernel, by decide⟩ w4_91 w4_92 hM.1.1 vC5 (by decide) (by omega) (by omega) (Nat.le_of_ble_eq_true rfl) rfl dL_placeAtBar_5 (fun r σ1 h' => ?_) (fun E σ1 hx => ?_)
  · obtain ⟨x, D', rfl, hB, hcd, rfl⟩ := h'
    obtain ⟨hJ1, ho1⟩ := LJ.cls hR hMW rfl ho hf hs (GW.own hB rfl rfl rfl rfl) hI hw
    refine n_i2l C dL_placeAtBar_8 ?_
    refine n_last C ho1 (by omega) (by omega) (by omega) dL_placeAtBar_9 ?_
    refine n_goto C 21 dL_placeAtBar_10 (by decide) ?_
    refine n_iconst (x := 0) C dL_placeAtBar_21 ?_
    exact n_ireturnW C Rr rfl (WP.ok hcd (LJ.out hJ1 rfl (if_pos rfl)) (fun z hz => by cases hz; rfl)) (by omega) (by omega) dL_placeAtBar_22
  · obtain ⟨rfl, hx⟩ := hx
    rcases hx with ⟨rfl, hcd⟩ | ⟨rfl, hcd⟩
    · refine n_catch (E := "java/lang/IndexOutOfBoundsException") (name := "java/lang/IndexOutOfBoundsException") [] (0, 10, 13, 28) [(0, 10, 17, 13)] C Rr (fun z hz => absurd hz List.not_mem_nil) ⟨by decide, by decide⟩ (by decide) w2_203 w2_214 (fun q => ?_)
      refine n_astore (lv' := [(4, .ref q), (0, .ref (shA A 0)), (1, iv a1), (2, iv a2), (3, .ref w)]) C dL_placeAtBar_13 (by rw [hN]; decide) rfl ?_
      refine n_iconst (x := 1) C dL_placeAtBar_15 ?_
      exact n_ireturnW C Rr rfl (WP.bad hcd (by decide) hJ) (by omega) (by omega) dL_placeAtBar_16
    · refine n_catch (E := "java/lang/IllegalArgumentException") (name := "java/lang/IllegalArgumentException") [(0, 10, 13, 28)] (0, 10, 17, 13) [] C Rr (fun z hz => by
          rcases List.mem_cons.mp hz with rfl | hz
          · exact ⟨by decide, "java/lang/IndexOutOfBoundsException", w2_203, fun U h => h.2.1⟩
          exact absurd hz List.not_mem_nil) ⟨by decide, by decide⟩ (by decide) w2_1 w2_12 (fun q => ?_)
      refine n_astore (lv' := [(4, .ref q), (0, .ref (shA A 0)), (1, iv a1), (2, iv a2), (3, .ref w)]) C dL_placeAtBar_17 (by rw [hN]; decide) rfl ?_
      refine n_iconst (x := 2) C dL_placeAtBar_19 ?_
      exact n_ireturnW C Rr rfl (WP.bad hcd (by decide) hJ) (by omega) (by omega) dL_placeAtBar_20
set_option maxRecDepth 100000 in
set_option maxHeartbeats 4000000 in
theorem w_worker {g : Gx} (hst : g.1.stackTraces = false) {a1 : Int} (ha1 : rg a1) {o w x0 : Nat} {ar : Nat → Nat} {M c : Tb} {v : Int64} {σ : Wd} (hJ : LJ g o w x0 ar M c v σ) : CTW g yL_worker cL_worker 4 (some .int) [(0, 9, 12, 28)] 5 1 6 [.ref x0, iv a1, .ref w] σ (WP g o w x0 ar M c (cdIs c a1) c (some (vlWorker c a1))) := by
  obtain ⟨hR, hMW, A, D, f, rfl, hM, hI, hw, ho, hf, hs⟩ := id hJ
  refine CTW.of hst (by decide +kernel) (Nat.le_of_ble_eq_true rfl) (fun Φ C Rr hN => ?_)
  show N Φ 0 0 σ 0 [(0, .ref (shA A 0)), (1, iv a1), (2, .ref w)] []
  refine n_aload_n C dL_worker_0 rfl ?_
  refine n_iconst (x := 0) C dL_worker_1 ?_
  refine n_aload_n C dL_worker_2 rfl ?_
  refine n_iload_n C dL_worker_3 rfl ?_
  refine n_invV C (p_worker hst ha1 hM hw hI) ⟨w4_97, w4_100, w1_1, ⟨by decide, by decide⟩, by show _ = some 1; decide +kernel, by decide⟩ w4_98 w4_99 hM.1.1 vC5 (by decide) (by omega) (by omega) (Nat.le_of_ble_eq_true rfl) rfl dL_worker_4 (fun r σ1 h' => ?_) (fun E σ1 hx => ?_)
  · obtain ⟨x, D', rfl, hB, hcd, rfl⟩ := h'
    obtain ⟨hJ1, ho1⟩ := LJ.cls hR hMW rfl ho hf hs (GW.own hB rfl rfl rfl rfl) hI hw
    refine n_i2l C dL_worker_7 ?_
    refine n_last C ho1 (by omega) (by omega) (by omega) dL_worker_8 ?_
    refine n_goto C 15 dL_worker_9 (by decide) ?_
    refine n_iconst (x := 0) C dL_worker_15 ?_
    exact n_ireturnW C Rr rfl (WP.ok hcd (LJ.out hJ1 rfl (if_pos rfl)) (fun z hz => by cases hz; rfl)) (by omega) (by omega) dL_worker_16
  · obtain ⟨rfl, hx⟩ := hx
    obtain ⟨rfl, hx⟩ := hx
    have hcd := hx
    refine n_catch (E := "java/lang/IndexOutOfBoundsException") (name := "java/lang/IndexOutOfBoundsException") [] (0, 9, 12, 28) [] C Rr (fun z hz => absurd hz List.not_mem_nil) ⟨by decide, by decide⟩ (by decide) w2_203 w2_214 (fun q => ?_)
    refine n_astore_n (lv' := [(3, .ref q), (0, .ref (shA A 0)), (1, iv a1), (2, .ref w)]) C dL_worker_12 (by rw [hN]; decide) rfl ?_
    refine n_iconst (x := 1) C dL_worker_13 ?_
    exact n_ireturnW C Rr rfl (WP.bad hcd (by decide) hJ) (by omega) (by omega) dL_worker_14
set_option maxRecDepth 100000 in
set_option maxHeartbeats 4000000 in
theorem w_takes {g : Gx} (hst : g.1.stackTraces = false) {a1 : Int} (ha1 : rg a1) {o w x0 : Nat} {ar : Nat → Nat} {M c : Tb} {v : Int64} {σ : Wd} (hJ : LJ g o w x0 ar M c v σ) : CTW g yL_takes cL_takes 4 (some .int) [(0, 9, 12, 28)] 6 1 6 [.ref x0, iv a1, .ref w] σ (WP g o w x0 ar M c (cdIs c a1) c (some (vlTakes c a1))) := by
  obtain ⟨hR, hMW, A, D, f, rfl, hM, hI, hw, ho, hf, hs⟩ := id hJ
  refine CTW.of hst (by decide +kernel) (Nat.le_of_ble_eq_true rfl) (fun Φ C Rr hN => ?_)
  show N Φ 0 0 σ 0 [(0, .ref (shA A 0)), (1, iv a1), (2, .ref w)] []
  refine n_aload_n C dL_takes_0 rfl ?_
  refine n_iconst (x := 0) C dL_takes_1 ?_
  refine n_aload_n C dL_takes_2 rfl ?_
  refine n_iload_n C dL_takes_3 rfl ?_
  refine n_invV C (p_takes hst ha1 hM hw hI) ⟨w4_104, w4_107, w1_1, ⟨by decide, by decide⟩, by show _ = some 1; decide +kernel, by decide⟩ w4_105 w4_106 hM.1.1 vC5 (by decide) (by omega) (by omega) (Nat.le_of_ble_eq_true rfl) rfl dL_takes_4 (fun r σ1 h' => ?_) (fun E σ1 hx => ?_)
  · obtain ⟨x, D', rfl, hB, hcd, rfl⟩ := h'
    obtain ⟨hJ1, ho1⟩ := LJ.cls hR hMW rfl ho hf hs (GW.own hB rfl rfl rfl rfl) hI hw
    refine n_i2l C dL_takes_7 ?_
    refine n_last C ho1 (by omega) (by omega) (by omega) dL_takes_8 ?_
    refine n_goto C 15 dL_takes_9 (by decide) ?_
    refine n_iconst (x := 0) C dL_takes_15 ?_
    exact n_ireturnW C Rr rfl (WP.ok hcd (LJ.out hJ1 rfl (if_pos rfl)) (fun z hz => by cases hz; rfl)) (by omega) (by omega) dL_takes_16
  · obtain ⟨rfl, hx⟩ := hx
    obtain ⟨rfl, hx⟩ := hx
    have hcd := hx
    refine n_catch (E := "java/lang/IndexOutOfBoundsException") (name := "java/lang/IndexOutOfBoundsException") [] (0, 9, 12, 28) [] C Rr (fun z hz => absurd hz List.not_mem_nil) ⟨by decide, by decide⟩ (by decide) w2_203 w2_214 (fun q => ?_)
    refine n_astore_n (lv' := [(3, .ref q), (0, .ref (shA A 0)), (1, iv a1), (2, .ref w)]) C dL_takes_12 (by rw [hN]; decide) rfl ?_
    refine n_iconst (x := 1) C dL_takes_13 ?_
    exact n_ireturnW C Rr rfl (WP.bad hcd (by decide) hJ) (by omega) (by omega) dL_takes_14
set_option maxRecDepth 100000 in
set_option maxHeartbeats 4000000 in
theorem w_clashes {g : Gx} (hst : g.1.stackTraces = false) {a1 : Int} (ha1 : rg a1) {o w x0 : Nat} {ar : Nat → Nat} {M c : Tb} {v : Int64} {σ : Wd} (hJ : LJ g o w x0 ar M c v σ) : CTW g yL_clashes cL_clashes 4 (some .int) [(0, 9, 12, 13)] 6 1 6 [.ref x0, iv a1, .ref w] σ (WP g o w x0 ar M c (cdWork a1) c (some (vlClashes c a1))) := by
  obtain ⟨hR, hMW, A, D, f, rfl, hM, hI, hw, ho, hf, hs⟩ := id hJ
  refine CTW.of hst (by decide +kernel) (Nat.le_of_ble_eq_true rfl) (fun Φ C Rr hN => ?_)
  show N Φ 0 0 σ 0 [(0, .ref (shA A 0)), (1, iv a1), (2, .ref w)] []
  refine n_aload_n C dL_clashes_0 rfl ?_
  refine n_iconst (x := 0) C dL_clashes_1 ?_
  refine n_aload_n C dL_clashes_2 rfl ?_
  refine n_iload_n C dL_clashes_3 rfl ?_
  refine n_invV C (p_clashes hst ha1 hM hw hI) ⟨w4_111, w4_114, w1_1, ⟨by decide, by decide⟩, by show _ = some 1; decide +kernel, by decide⟩ w4_112 w4_113 hM.1.1 vC5 (by decide) (by omega) (by omega) (Nat.le_of_ble_eq_true rfl) rfl dL_clashes_4 (fun r σ1 h' => ?_) (fun E σ1 hx => ?_)
  · obtain ⟨x, D', rfl, hB, hcd, rfl⟩ := h'
    obtain ⟨hJ1, ho1⟩ := LJ.cls hR hMW rfl ho hf hs (GW.own hB rfl rfl rfl rfl) hI hw
    refine n_i2l C dL_clashes_7 ?_
    refine n_last C ho1 (by omega) (by omega) (by omega) dL_clashes_8 ?_
    refine n_goto C 15 dL_clashes_9 (by decide) ?_
    refine n_iconst (x := 0) C dL_clashes_15 ?_
    exact n_ireturnW C Rr rfl (WP.ok hcd (LJ.out hJ1 rfl (if_pos rfl)) (fun z hz => by cases hz; rfl)) (by omega) (by omega) dL_clashes_16
  · obtain ⟨rfl, hx⟩ := hx
    obtain ⟨rfl, hx⟩ := hx
    have hcd := hx
    refine n_catch (E := "java/lang/IllegalArgumentException") (name := "java/lang/IllegalArgumentException") [] (0, 9, 12, 13) [] C Rr (fun z hz => absurd hz List.not_mem_nil) ⟨by decide, by decide⟩ (by decide) w2_1 w2_12 (fun q => ?_)
    refine n_astore_n (lv' := [(3, .ref q), (0, .ref (shA A 0)), (1, iv a1), (2, .ref w)]) C dL_clashes_12 (by rw [hN]; decide) rfl ?_
    refine n_iconst (x := 1) C dL_clashes_13 ?_
    exact n_ireturnW C Rr rfl (WP.bad hcd (by decide) hJ) (by omega) (by omega) dL_clashes_14
set_option maxRecDepth 100000 in
set_option maxHeartbeats 4000000 in
theorem w_overtime {g : Gx} (hst : g.1.stackTraces = false) {a1 : Int} (ha1 : rg a1) {o w x0 : Nat} {ar : Nat → Nat} {M c : Tb} {v : Int64} {σ : Wd} (hJ : LJ g o w x0 ar M c v σ) : CTW g yL_overtime cL_overtime 4 (some .int) [(0, 9, 12, 13)] 6 1 6 [.ref x0, iv a1, .ref w] σ (WP g o w x0 ar M c (cdWork a1) c (some (vlOver c a1))) := by
  obtain ⟨hR, hMW, A, D, f, rfl, hM, hI, hw, ho, hf, hs⟩ := id hJ
  refine CTW.of hst (by decide +kernel) (Nat.le_of_ble_eq_true rfl) (fun Φ C Rr hN => ?_)
  show N Φ 0 0 σ 0 [(0, .ref (shA A 0)), (1, iv a1), (2, .ref w)] []
  refine n_aload_n C dL_overtime_0 rfl ?_
  refine n_iconst (x := 0) C dL_overtime_1 ?_
  refine n_aload_n C dL_overtime_2 rfl ?_
  refine n_iload_n C dL_overtime_3 rfl ?_
  refine n_invV C (p_overtime hst ha1 hM hw hI) ⟨w4_118, w4_121, w1_1, ⟨by decide, by decide⟩, by show _ = some 1; decide +kernel, by decide⟩ w4_119 w4_120 hM.1.1 vC5 (by decide) (by omega) (by omega) (Nat.le_of_ble_eq_true rfl) rfl dL_overtime_4 (fun r σ1 h' => ?_) (fun E σ1 hx => ?_)
  · obtain ⟨x, D', rfl, hB, hcd, rfl⟩ := h'
    obtain ⟨hJ1, ho1⟩ := LJ.cls hR hMW rfl ho hf hs (GW.own hB rfl rfl rfl rfl) hI hw
    refine n_i2l C dL_overtime_7 ?_
    refine n_last C ho1 (by omega) (by omega) (by omega) dL_overtime_8 ?_
    refine n_goto C 15 dL_overtime_9 (by decide) ?_
    refine n_iconst (x := 0) C dL_overtime_15 ?_
    exact n_ireturnW C Rr rfl (WP.ok hcd (LJ.out hJ1 rfl (if_pos rfl)) (fun z hz => by cases hz; rfl)) (by omega) (by omega) dL_overtime_16
  · obtain ⟨rfl, hx⟩ := hx
    obtain ⟨rfl, hx⟩ := hx
    have hcd := hx
    refine n_catch (E := "java/lang/IllegalArgumentException") (name := "java/lang/IllegalArgumentException") [] (0, 9, 12, 13) [] C Rr (fun z hz => absurd hz List.not_mem_nil) ⟨by decide, by decide⟩ (by decide) w2_1 w2_12 (fun q => ?_)
    refine n_astore_n (lv' := [(3, .ref q), (0, .ref (shA A 0)), (1, iv a1), (2, .ref w)]) C dL_overtime_12 (by rw [hN]; decide) rfl ?_
    refine n_iconst (x := 1) C dL_overtime_13 ?_
    exact n_ireturnW C Rr rfl (WP.bad hcd (by decide) hJ) (by omega) (by omega) dL_overtime_14
