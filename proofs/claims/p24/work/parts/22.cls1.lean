set_option maxRecDepth 100000 in
set_option maxHeartbeats 4000000 in
theorem c_turns {g : Gx} (hst : g.1.stackTraces = false) {a rw : Nat} {tk fi wi sp pl : Int} {rn : Option Nat} {σ : Wd} (hA : σ a = some (.inr (4, [iv tk, iv fi, iv wi, iv sp, .ref rw, iv pl, va_rf rn]))) (htk : -1 ≤ tk ∧ tk ≤ 2)  : CT g yX1_turns cX1_turns 1 (some .boolean) 0 0 0 [.ref a] σ (fun r σ' => ∃ x : Int, r = some (iv x) ∧ σ' = σ ∧ ((x = 1 ∧ tk = -1) ∨ (x = 0 ∧ ¬ (tk = -1)))) (fun _ _ => False) := by
  refine CT.of hst (by decide +kernel) (Nat.le_of_ble_eq_true rfl) (fun Φ C Rr hY hN => ?_)
  show N Φ 0 0 σ 0 [(0, .ref a)] []
  refine n_aload_n C dX1_turns_0 rfl ?_
  refine n_get C hA vC4 vI4 0 (by decide) t1_216 rfl rfl dX1_turns_1 ?_
  refine n_iconst (x := (-1)) C dX1_turns_4 ?_
  refine n_icmp_ne C 12 dX1_turns_5 (by decide) (by unfold rg; omega) (by unfold rg; omega) (fun b5 => ?_) (fun b5 => ?_)
  · refine n_iconst (x := 0) C dX1_turns_12 ?_
    exact n_ireturn C Rr (nar_bv (by first | decide | omega)) ⟨_, rfl, rfl, by omega⟩ (by omega) (by omega) dX1_turns_13
  · refine n_iconst (x := 1) C dX1_turns_8 ?_
    refine n_goto C 13 dX1_turns_9 (by decide) ?_
    exact n_ireturn C Rr (nar_bv (by first | decide | omega)) ⟨_, rfl, rfl, by omega⟩ (by omega) (by omega) dX1_turns_13
set_option maxRecDepth 100000 in
set_option maxHeartbeats 4000000 in
theorem c_lastPlace {g : Gx} (hst : g.1.stackTraces = false) {a rw : Nat} {tk fi wi sp pl : Int} {rn : Option Nat} {σ : Wd} (hA : σ a = some (.inr (4, [iv tk, iv fi, iv wi, iv sp, .ref rw, iv pl, va_rf rn]))) (htk : -1 ≤ tk ∧ tk ≤ 2)  : CT g yX1_lastPlace cX1_lastPlace 1 (some .int) 1 0 0 [.ref a] σ (fun r σ' => r = some (iv (if tk = -1 then 359 else 200)) ∧ σ' = σ) (fun _ _ => False) := by
  refine CT.of hst (by decide +kernel) (Nat.le_of_ble_eq_true rfl) (fun Φ C Rr hY hN => ?_)
  show N Φ 0 0 σ 0 [(0, .ref a)] []
  refine n_aload_n C dX1_lastPlace_0 rfl ?_
  refine n_invV C (c_turns hst hA htk) ⟨t2_105, t2_108, t1_10, ⟨by decide, by decide⟩, by show _ = some 0; decide +kernel, by decide⟩ t2_106 t2_107 hA vC4 (by decide) (by omega) (by omega) (Nat.le_of_ble_eq_true rfl) rfl dX1_lastPlace_1 (fun r σ' h' => ?_) (fun _ _ h => h.elim)
  obtain ⟨x, rfl, hσ, hx⟩ := h'
  rw [hσ]
  refine n_if_eq C 13 dX1_lastPlace_4 (by decide) (by unfold rg; omega) (fun b4 => ?_) (fun b4 => ?_)
  · refine n_sipush (x := 200) C dX1_lastPlace_13 (by decide) ?_
    exact n_ireturn C Rr rfl ⟨by rw [if_neg (by omega)], rfl⟩ (by omega) (by omega) dX1_lastPlace_16
  · refine n_sipush (x := 359) C dX1_lastPlace_7 (by decide) ?_
    refine n_goto C 16 dX1_lastPlace_10 (by decide) ?_
    exact n_ireturn C Rr rfl ⟨by rw [if_pos (by omega)], rfl⟩ (by omega) (by omega) dX1_lastPlace_16
set_option maxRecDepth 100000 in
set_option maxHeartbeats 4000000 in
theorem c_rewind {g : Gx} (hst : g.1.stackTraces = false) {a rw : Nat} {tk fi wi sp pl : Int} {rn : Option Nat} {σ : Wd} (hA : σ a = some (.inr (4, [iv tk, iv fi, iv wi, iv sp, .ref rw, iv pl, va_rf rn]))) (htk : -1 ≤ tk ∧ tk ≤ 2)  : CT g yX1_rewind cX1_rewind 1 none 0 0 0 [.ref a] σ (fun r σ' => r = none ∧ σ' a = some (.inr (4, [iv tk, iv fi, iv wi, iv sp, .ref rw, iv fi, .null])) ∧ ∀ q, q ≠ a → σ' q = σ q) (fun _ _ => False) := by
  refine CT.of hst (by decide +kernel) (Nat.le_of_ble_eq_true rfl) (fun Φ C Rr hY hN => ?_)
  show N Φ 0 0 σ 0 [(0, .ref a)] []
  refine n_aload_n C dX1_rewind_0 rfl ?_
  refine n_aload_n C dX1_rewind_1 rfl ?_
  refine n_get C hA vC4 vI4 1 (by decide) t1_217 rfl rfl dX1_rewind_2 ?_
  refine n_put C hA vC4 vI4 tyX1 tyX1_ok nmX1 5 (by decide) t1_221 rfl rfl rfl rfl (show (5 : Nat) < 7 by decide) dX1_rewind_5 ?_
  refine wab (e := (.inr (4, [iv tk, iv fi, iv wi, iv sp, .ref rw, iv fi, va_rf rn]))) (fun σ0 H0 O0 => ?_)
  refine n_aload_n C dX1_rewind_8 rfl ?_
  refine n_null C dX1_rewind_9 ?_
  refine n_put C H0 vC4 vI4 tyX1 tyX1_ok nmX1 6 (by decide) t1_223 rfl rfl rfl rfl (show (6 : Nat) < 7 by decide) dX1_rewind_10 ?_
  refine wab (e := (.inr (4, [iv tk, iv fi, iv wi, iv sp, .ref rw, iv fi, .null]))) (fun σ1 H1 O1 => ?_)
  exact n_return C Rr ⟨rfl, H1, fun q hq => ((O1 q hq).trans (O0 q hq))⟩ (by omega) (by omega) dX1_rewind_13
set_option maxRecDepth 100000 in
set_option maxHeartbeats 4000000 in
theorem c_setCue {g : Gx} (hst : g.1.stackTraces = false) {a rw : Nat} {tk fi wi sp pl : Int} {rn : Option Nat} {σ : Wd} (hA : σ a = some (.inr (4, [iv tk, iv fi, iv wi, iv sp, .ref rw, iv pl, va_rf rn]))) (htk : -1 ≤ tk ∧ tk ≤ 2) {f : Nat → Option Nat} (hR : σ rw = some (eC g.2.1 30 f)) {b : Nat} (hb : b < 30) {rr : Option Nat} (hr : ∀ y, rr = some y → ∃ fs, σ y = some (.inr (3, fs)))  : CT g yX1_setCueOfBar cX1_setCueOfBar 3 none 0 0 0 [.ref a, iv (b : Int), va_rf rr] σ (fun r σ' => r = none ∧ σ' rw = some (eC g.2.1 30 (va_up f b rr)) ∧ ∀ q, q ≠ rw → σ' q = σ q) (fun _ _ => False) := by
  refine CT.of hst (by decide +kernel) (by cases rr <;> exact Nat.le_of_ble_eq_true rfl) (fun Φ C Rr hY hN => ?_)
  show N Φ 0 0 σ 0 [(0, .ref a), (1, iv (b : Int)), (2, va_rf rr)] []
  refine n_iload_n C dX1_setCueOfBar_0 rfl ?_
  refine n_if_lt C 20 dX1_setCueOfBar_1 (by decide) (by unfold rg; omega) (fun b1 => ?_) (fun b1 => ?_)
  · exfalso; omega
  · refine n_iload_n C dX1_setCueOfBar_4 rfl ?_
    refine n_aload_n C dX1_setCueOfBar_5 rfl ?_
    refine n_get C hA vC4 vI4 4 (by decide) t1_220 rfl rfl dX1_setCueOfBar_6 ?_
    refine n_alenC C hR dX1_setCueOfBar_9 ?_
    refine n_icmp_ge C 20 dX1_setCueOfBar_10 (by decide) (by unfold rg; omega) (by unfold rg; omega) (fun b10 => ?_) (fun b10 => ?_)
    · exfalso; omega
    · refine n_aload_n C dX1_setCueOfBar_13 rfl ?_
      refine n_get C hA vC4 vI4 4 (by decide) t1_220 rfl rfl dX1_setCueOfBar_14 ?_
      refine n_iload_n C dX1_setCueOfBar_17 rfl ?_
      refine n_aload_nO C dX1_setCueOfBar_18 rfl ?_
      refine n_aastC C hR hr (by omega) (by omega) (by omega) dX1_setCueOfBar_19 ?_
      rw [Int.toNat_natCast]
      refine wab (fun σ1 H1 O1 => ?_)
      exact n_return C Rr ⟨rfl, H1, O1⟩ (by omega) (by omega) dX1_setCueOfBar_20
set_option maxRecDepth 100000 in
set_option maxHeartbeats 4000000 in
theorem c_startBar {g : Gx} (hst : g.1.stackTraces = false) {a rw : Nat} {tk fi wi sp pl : Int} {rn : Option Nat} {σ : Wd} (hA : σ a = some (.inr (4, [iv tk, iv fi, iv wi, iv sp, .ref rw, iv pl, va_rf rn]))) (htk : -1 ≤ tk ∧ tk ≤ 2) {f : Nat → Option Nat} (hR : σ rw = some (eC g.2.1 30 f)) {b : Nat} (hb : b < 30)  : CT g yX1_startBar cX1_startBar 2 none 0 0 0 [.ref a, iv (b : Int)] σ (fun r σ' => r = none ∧ σ' a = some (.inr (4, [iv tk, iv fi, iv wi, iv sp, .ref rw, iv pl, (va_rf (match f b with | none => rn | some z => some z))])) ∧ ∀ q, q ≠ a → σ' q = σ q) (fun _ _ => False) := by
  refine CT.of hst (by decide +kernel) (Nat.le_of_ble_eq_true rfl) (fun Φ C Rr hY hN => ?_)
  show N Φ 0 0 σ 0 [(0, .ref a), (1, iv (b : Int))] []
  refine n_iload_n C dX1_startBar_0 rfl ?_
  refine n_if_lt C 32 dX1_startBar_1 (by decide) (by unfold rg; omega) (fun b1 => ?_) (fun b1 => ?_)
  · exfalso; omega
  · refine n_iload_n C dX1_startBar_4 rfl ?_
    refine n_aload_n C dX1_startBar_5 rfl ?_
    refine n_get C hA vC4 vI4 4 (by decide) t1_220 rfl rfl dX1_startBar_6 ?_
    refine n_alenC C hR dX1_startBar_9 ?_
    refine n_icmp_ge C 32 dX1_startBar_10 (by decide) (by unfold rg; omega) (by unfold rg; omega) (fun b10 => ?_) (fun b10 => ?_)
    · exfalso; omega
    · refine n_aload_n C dX1_startBar_13 rfl ?_
      refine n_get C hA vC4 vI4 4 (by decide) t1_220 rfl rfl dX1_startBar_14 ?_
      refine n_iload_n C dX1_startBar_17 rfl ?_
      refine n_aaldC C hR (by omega) (by omega) (by omega) dX1_startBar_18 ?_
      rw [Int.toNat_natCast]
      refine n_ifnull C 32 dX1_startBar_19 (by decide) (fun b19 => ?_) (fun a19 b19 => ?_)
      · exact n_return C Rr ⟨rfl, by rw [b19]; exact hA, fun _ _ => rfl⟩ (by omega) (by omega) dX1_startBar_32
      · have hfb := b19
        refine n_aload_n C dX1_startBar_22 rfl ?_
        refine n_aload_n C dX1_startBar_23 rfl ?_
        refine n_get C hA vC4 vI4 4 (by decide) t1_220 rfl rfl dX1_startBar_24 ?_
        refine n_iload_n C dX1_startBar_27 rfl ?_
        refine n_aaldC C hR (by omega) (by omega) (by omega) dX1_startBar_28 ?_
        rw [Int.toNat_natCast, hfb]
        refine n_put C hA vC4 vI4 tyX1 tyX1_ok nmX1 6 (by decide) t1_223 rfl rfl rfl rfl (show (6 : Nat) < 7 by decide) dX1_startBar_29 ?_
        refine wab (e := (.inr (4, [iv tk, iv fi, iv wi, iv sp, .ref rw, iv pl, .ref a19]))) (fun σ0 H0 O0 => ?_)
        have hR_0 := (O0 rw (fun z => by rw [z, hA] at hR; cases hR)).trans hR
        exact n_return C Rr ⟨rfl, by rw [hfb]; exact H0, fun q hq => (O0 q hq)⟩ (by omega) (by omega) dX1_startBar_32
set_option maxRecDepth 100000 in
set_option maxHeartbeats 4000000 in
theorem c_way {g : Gx} (hst : g.1.stackTraces = false) {a rw : Nat} {tk fi wi sp pl : Int} {rn : Option Nat} {σ : Wd} (hA : σ a = some (.inr (4, [iv tk, iv fi, iv wi, iv sp, .ref rw, iv pl, va_rf rn]))) (htk : -1 ≤ tk ∧ tk ≤ 2) {aim : Int} (hQ : ∀ q, rn = some q → ∃ v0 v1 v3 v4 v5, σ q = some (.inr (3, [v0, v1, iv aim, v3, v4, v5]))) (hpl : 0 ≤ pl ∧ pl ≤ 359) (haim : 0 ≤ aim ∧ aim ≤ 359)  : CT g yX1_wayToTarget cX1_wayToTarget 3 (some .int) 1 0 0 [.ref a] σ (fun r σ' => r = some (iv (wyO rn tk pl aim)) ∧ σ' = σ) (fun _ _ => False) := by
  refine CT.of hst (by decide +kernel) (Nat.le_of_ble_eq_true rfl) (fun Φ C Rr hY hN => ?_)
  show N Φ 0 0 σ 0 [(0, .ref a)] []
  refine n_aload_n C dX1_wayToTarget_0 rfl ?_
  refine n_get C hA vC4 vI4 6 (by decide) t1_223 rfl rfl dX1_wayToTarget_1 ?_
  refine n_ifnonnull C 9 dX1_wayToTarget_4 (by decide) (fun a4 b4 => ?_) (fun b4 => ?_)
  · subst b4
    obtain ⟨v0, v1, v3, v4, v5, hq⟩ := hQ _ rfl
    refine n_aload_n C dX1_wayToTarget_9 rfl ?_
    refine n_get C hA vC4 vI4 6 (by decide) t1_223 rfl rfl dX1_wayToTarget_10 ?_
    refine n_get C hq vC3 vI3 2 (by decide) t2_124 rfl rfl dX1_wayToTarget_13 ?_
    refine n_aload_n C dX1_wayToTarget_16 rfl ?_
    refine n_get C hA vC4 vI4 5 (by decide) t1_221 rfl rfl dX1_wayToTarget_17 ?_
    refine n_isub C dX1_wayToTarget_20 ?_
    refine n_istore_n (lv' := [(1, iv (aim - pl)), (0, .ref a)]) C dX1_wayToTarget_21 (by rw [hN]; decide) rfl ?_
    refine n_aload_n C dX1_wayToTarget_22 rfl ?_
    refine n_invV C (c_turns hst hA htk) ⟨t2_105, t2_108, t1_10, ⟨by decide, by decide⟩, by show _ = some 0; decide +kernel, by decide⟩ t2_106 t2_107 hA vC4 (by decide) (by omega) (by omega) (Nat.le_of_ble_eq_true rfl) rfl dX1_wayToTarget_23 (fun r σ' h' => ?_) (fun _ _ h => h.elim)
    obtain ⟨x, rfl, hσ, hx⟩ := h'
    rw [hσ]
    refine n_if_ne C 31 dX1_wayToTarget_26 (by decide) (by unfold rg; omega) (fun b26 => ?_) (fun b26 => ?_)
    · refine n_iload_n C dX1_wayToTarget_31 rfl ?_
      refine n_sipush (x := 360) C dX1_wayToTarget_32 (by decide) ?_
      refine n_invS C (c_floorMod hst (by omega)) ⟨t3_227, t3_229, t1_12, ⟨by decide, by decide⟩, by show _ = some 2; decide +kernel, by decide⟩ t3_228 (by decide) (by omega) (by omega) (Nat.le_of_ble_eq_true rfl) rfl dX1_wayToTarget_35 (fun r σ' h' => ?_) (fun _ _ h => h.elim)
      obtain ⟨rfl, hσ⟩ := h'
      rw [hσ]
      refine n_istore_n (lv' := [(2, iv ((aim - pl) % 360)), (1, iv (aim - pl)), (0, .ref a)]) C dX1_wayToTarget_38 (by rw [hN]; decide) rfl ?_
      refine n_iconst (x := 2) C dX1_wayToTarget_39 ?_
      refine n_iload_n C dX1_wayToTarget_40 rfl ?_
      refine n_imul C dX1_wayToTarget_41 ?_
      refine n_sipush (x := 360) C dX1_wayToTarget_42 (by decide) ?_
      refine n_icmp_gt C 52 dX1_wayToTarget_45 (by decide) (by unfold rg; omega) (by unfold rg; omega) (fun b45 => ?_) (fun b45 => ?_)
      · refine n_iload_n C dX1_wayToTarget_52 rfl ?_
        refine n_sipush (x := 360) C dX1_wayToTarget_53 (by decide) ?_
        refine n_isub C dX1_wayToTarget_56 ?_
        exact n_ireturn C Rr rfl ⟨by unfold wyO wayV; rw [if_pos (by omega), if_pos (by omega)], rfl⟩ (by omega) (by omega) dX1_wayToTarget_57
      · refine n_iload_n C dX1_wayToTarget_48 rfl ?_
        refine n_goto C 57 dX1_wayToTarget_49 (by decide) ?_
        exact n_ireturn C Rr rfl ⟨by unfold wyO wayV; rw [if_pos (by omega), if_neg (by omega)], rfl⟩ (by omega) (by omega) dX1_wayToTarget_57
    · refine n_iload_n C dX1_wayToTarget_29 rfl ?_
      exact n_ireturn C Rr rfl ⟨by unfold wyO wayV; rw [if_neg (by omega)], rfl⟩ (by omega) (by omega) dX1_wayToTarget_30
  · refine n_iconst (x := 0) C dX1_wayToTarget_7 ?_
    exact n_ireturn C Rr rfl ⟨by rw [b4]; rfl, rfl⟩ (by omega) (by omega) dX1_wayToTarget_8
set_option maxRecDepth 100000 in
set_option maxHeartbeats 4000000 in
theorem c_ticks {g : Gx} (hst : g.1.stackTraces = false) {a rw : Nat} {tk fi wi sp pl : Int} {rn : Option Nat} {σ : Wd} (hA : σ a = some (.inr (4, [iv tk, iv fi, iv wi, iv sp, .ref rw, iv pl, va_rf rn]))) (htk : -1 ≤ tk ∧ tk ≤ 2) {aim : Int} (hQ : ∀ q, rn = some q → ∃ v0 v1 v3 v4 v5, σ q = some (.inr (3, [v0, v1, iv aim, v3, v4, v5]))) (hpl : 0 ≤ pl ∧ pl ≤ 359) (haim : 0 ≤ aim ∧ aim ≤ 359) (hsp : 1 ≤ sp ∧ sp ≤ 10)  : CT g yX1_ticksToTarget cX1_ticksToTarget 1 (some .int) 2 0 0 [.ref a] σ (fun r σ' => r = some (iv (tkV sp (wyO rn tk pl aim))) ∧ σ' = σ) (fun _ _ => False) := by
  refine CT.of hst (by decide +kernel) (Nat.le_of_ble_eq_true rfl) (fun Φ C Rr hY hN => ?_)
  show N Φ 0 0 σ 0 [(0, .ref a)] []
  have hwy := wyO_rg (rn := rn) (tk := tk) hpl haim
  refine n_aload_n C dX1_ticksToTarget_0 rfl ?_
  refine n_get C hA vC4 vI4 3 (by decide) t1_219 rfl rfl dX1_ticksToTarget_1 ?_
  refine n_iconst (x := 1) C dX1_ticksToTarget_4 ?_
  refine n_icmp_ge C 12 dX1_ticksToTarget_5 (by decide) (by unfold rg; omega) (by unfold rg; omega) (fun b5 => ?_) (fun b5 => ?_)
  · refine n_aload_n C dX1_ticksToTarget_12 rfl ?_
    refine n_invV C (c_way hst hA htk hQ hpl haim) ⟨t3_223, t3_226, t1_10, ⟨by decide, by decide⟩, by show _ = some 0; decide +kernel, by decide⟩ t3_224 t3_225 hA vC4 (by decide) (by omega) (by omega) (Nat.le_of_ble_eq_true rfl) rfl dX1_ticksToTarget_13 (fun r σ' h' => ?_) (fun _ _ h => h.elim)
    obtain ⟨rfl, hσ⟩ := h'
    rw [hσ]
    refine n_abs C (by unfold rg; omega) t4_41 t4_42 t1_12 t4_43 (Nat.le_of_ble_eq_true rfl) (by omega) (by omega) dX1_ticksToTarget_16 ?_
    have hab : 0 ≤ (if 0 ≤ wyO rn tk pl aim then wyO rn tk pl aim else -(wyO rn tk pl aim)) ∧ (if 0 ≤ wyO rn tk pl aim then wyO rn tk pl aim else -(wyO rn tk pl aim)) ≤ 359 := by split <;> omega
    refine n_aload_n C dX1_ticksToTarget_19 rfl ?_
    refine n_get C hA vC4 vI4 3 (by decide) t1_219 rfl rfl dX1_ticksToTarget_20 ?_
    refine n_iadd C dX1_ticksToTarget_23 ?_
    refine n_iconst (x := 1) C dX1_ticksToTarget_24 ?_
    refine n_isub C dX1_ticksToTarget_25 ?_
    refine n_aload_n C dX1_ticksToTarget_26 rfl ?_
    refine n_get C hA vC4 vI4 3 (by decide) t1_219 rfl rfl dX1_ticksToTarget_27 ?_
    refine n_idivP C dX1_ticksToTarget_30 (by unfold rg; omega) (by unfold rg; omega) (by omega) (by omega) ?_
    exact n_ireturn C Rr rfl ⟨rfl, rfl⟩ (by omega) (by omega) dX1_ticksToTarget_31
  · exfalso; omega
set_option maxRecDepth 100000 in
set_option maxHeartbeats 4000000 in
theorem c_go {g : Gx} (hst : g.1.stackTraces = false) {a rw : Nat} {tk fi wi sp pl : Int} {rn : Option Nat} {σ : Wd} (hA : σ a = some (.inr (4, [iv tk, iv fi, iv wi, iv sp, .ref rw, iv pl, va_rf rn]))) (htk : -1 ≤ tk ∧ tk ≤ 2) {aim : Int} (hQ : ∀ q, rn = some q → ∃ v0 v1 v3 v4 v5, σ q = some (.inr (3, [v0, v1, iv aim, v3, v4, v5]))) (hpl : 0 ≤ pl ∧ pl ≤ 359) (haim : 0 ≤ aim ∧ aim ≤ 359) {L : Int} (hL : 0 ≤ sp * L ∧ sp * L ≤ 800)  : CT g yX1_go cX1_go 4 (some .boolean) 2 0 0 [.ref a, iv L] σ (fun r σ' => ∃ x : Int, r = some (iv x) ∧ ((x = 1 ∧ stV (sp * L) (wyO rn tk pl aim) ≠ 0) ∨ (x = 0 ∧ stV (sp * L) (wyO rn tk pl aim) = 0)) ∧ σ' a = some (.inr (4, [iv tk, iv fi, iv wi, iv sp, .ref rw, iv (goV tk pl (stV (sp * L) (wyO rn tk pl aim))), (va_rf rn)])) ∧ ∀ q, q ≠ a → σ' q = σ q) (fun _ _ => False) := by
  refine CT.of hst (by decide +kernel) (Nat.le_of_ble_eq_true rfl) (fun Φ C Rr hY hN => ?_)
  show N Φ 0 0 σ 0 [(0, .ref a), (1, iv L)] []
  have hwy := wyO_rg (rn := rn) (tk := tk) hpl haim
  refine n_aload_n C dX1_go_0 rfl ?_
  refine n_get C hA vC4 vI4 3 (by decide) t1_219 rfl rfl dX1_go_1 ?_
  refine n_iload_n C dX1_go_4 rfl ?_
  refine n_imul C dX1_go_5 ?_
  refine n_istore_n (lv' := [(2, iv (sp * L)), (0, .ref a), (1, iv L)]) C dX1_go_6 (by rw [hN]; decide) rfl ?_
  refine n_iload_n C dX1_go_7 rfl ?_
  refine n_ineg C dX1_go_8 ?_
  refine n_iload_n C dX1_go_9 rfl ?_
  refine n_aload_n C dX1_go_10 rfl ?_
  refine n_invV C (c_way hst hA htk hQ hpl haim) ⟨t3_223, t3_226, t1_10, ⟨by decide, by decide⟩, by show _ = some 0; decide +kernel, by decide⟩ t3_224 t3_225 hA vC4 (by decide) (by omega) (by omega) (Nat.le_of_ble_eq_true rfl) rfl dX1_go_11 (fun r σ' h' => ?_) (fun _ _ h => h.elim)
  obtain ⟨rfl, hσ⟩ := h'
  rw [hσ]
  refine n_min C (by unfold rg; omega) (by unfold rg; omega) t3_230 t2_52 t1_12 t2_53 (Nat.le_of_ble_eq_true rfl) (by omega) (by omega) dX1_go_14 ?_
  refine n_max C (by unfold rg; omega) (by unfold rg; omega) t3_231 t2_23 t1_12 t2_24 (Nat.le_of_ble_eq_true rfl) (by omega) (by omega) dX1_go_17 ?_
  have hsv : -800 ≤ stV (sp * L) (wyO rn tk pl aim) ∧ stV (sp * L) (wyO rn tk pl aim) ≤ 800 ∧ -359 ≤ stV (sp * L) (wyO rn tk pl aim) ∧ stV (sp * L) (wyO rn tk pl aim) ≤ 359 := by unfold stV; omega
  rw [show max (-(sp * L)) (min (sp * L) (wyO rn tk pl aim)) = stV (sp * L) (wyO rn tk pl aim) from rfl]
  obtain ⟨s, hs0⟩ : ∃ s : Int, stV (sp * L) (wyO rn tk pl aim) = s := ⟨_, rfl⟩
  rw [hs0] at hsv ⊢
  refine n_istore_n (lv' := [(3, iv s), (2, iv (sp * L)), (0, .ref a), (1, iv L)]) C dX1_go_20 (by rw [hN]; decide) rfl ?_
  refine n_aload_n C dX1_go_21 rfl ?_
  refine n_dup C dX1_go_22 rfl ?_
  refine n_get C hA vC4 vI4 5 (by decide) t1_221 rfl rfl dX1_go_23 ?_
  refine n_iload_n C dX1_go_26 rfl ?_
  refine n_iadd C dX1_go_27 ?_
  refine n_put C hA vC4 vI4 tyX1 tyX1_ok nmX1 5 (by decide) t1_221 rfl rfl rfl rfl (show (5 : Nat) < 7 by decide) dX1_go_28 ?_
  refine wab (e := (.inr (4, [iv tk, iv fi, iv wi, iv sp, .ref rw, iv (pl + s), va_rf rn]))) (fun σ0 H0 O0 => ?_)
  refine n_aload_n C dX1_go_31 rfl ?_
  refine n_invV C (c_turns hst H0 htk) ⟨t2_105, t2_108, t1_10, ⟨by decide, by decide⟩, by show _ = some 0; decide +kernel, by decide⟩ t2_106 t2_107 H0 vC4 (by decide) (by omega) (by omega) (Nat.le_of_ble_eq_true rfl) rfl dX1_go_32 (fun r σ' h' => ?_) (fun _ _ h => h.elim)
  obtain ⟨x, rfl, hσ, hx⟩ := h'
  rw [hσ]
  refine n_if_eq C 52 dX1_go_35 (by decide) (by unfold rg; omega) (fun b35 => ?_) (fun b35 => ?_)
  · refine n_iload_n C dX1_go_52 rfl ?_
    refine n_if_eq C 60 dX1_go_53 (by decide) (by unfold rg; omega) (fun b53 => ?_) (fun b53 => ?_)
    · refine n_iconst (x := 0) C dX1_go_60 ?_
      exact n_ireturn C Rr (nar_bv (by first | decide | omega)) ⟨_, rfl, by omega, by unfold goV; rw [if_neg (by omega), hs0]; exact H0, fun q hq => (O0 q hq)⟩ (by omega) (by omega) dX1_go_61
    · refine n_iconst (x := 1) C dX1_go_56 ?_
      refine n_goto C 61 dX1_go_57 (by decide) ?_
      exact n_ireturn C Rr (nar_bv (by first | decide | omega)) ⟨_, rfl, by omega, by unfold goV; rw [if_neg (by omega), hs0]; exact H0, fun q hq => (O0 q hq)⟩ (by omega) (by omega) dX1_go_61
  · refine n_aload_n C dX1_go_38 rfl ?_
    refine n_aload_n C dX1_go_39 rfl ?_
    refine n_get C H0 vC4 vI4 5 (by decide) t1_221 rfl rfl dX1_go_40 ?_
    refine n_sipush (x := 360) C dX1_go_43 (by decide) ?_
    refine n_invS C (c_floorMod hst (by omega)) ⟨t3_227, t3_229, t1_12, ⟨by decide, by decide⟩, by show _ = some 2; decide +kernel, by decide⟩ t3_228 (by decide) (by omega) (by omega) (Nat.le_of_ble_eq_true rfl) rfl dX1_go_46 (fun r σ' h' => ?_) (fun _ _ h => h.elim)
    obtain ⟨rfl, hσ⟩ := h'
    rw [hσ]
    refine n_put C H0 vC4 vI4 tyX1 tyX1_ok nmX1 5 (by decide) t1_221 rfl rfl rfl rfl (show (5 : Nat) < 7 by decide) dX1_go_49 ?_
    refine wab (e := (.inr (4, [iv tk, iv fi, iv wi, iv sp, .ref rw, iv ((pl + s) % 360), va_rf rn]))) (fun σ1 H1 O1 => ?_)
    refine n_iload_n C dX1_go_52 rfl ?_
    refine n_if_eq C 60 dX1_go_53 (by decide) (by unfold rg; omega) (fun b53 => ?_) (fun b53 => ?_)
    · refine n_iconst (x := 0) C dX1_go_60 ?_
      exact n_ireturn C Rr (nar_bv (by first | decide | omega)) ⟨_, rfl, by omega, by unfold goV; rw [if_pos (by omega), hs0]; exact H1, fun q hq => ((O1 q hq).trans (O0 q hq))⟩ (by omega) (by omega) dX1_go_61
    · refine n_iconst (x := 1) C dX1_go_56 ?_
      refine n_goto C 61 dX1_go_57 (by decide) ?_
      exact n_ireturn C Rr (nar_bv (by first | decide | omega)) ⟨_, rfl, by omega, by unfold goV; rw [if_pos (by omega), hs0]; exact H1, fun q hq => ((O1 q hq).trans (O0 q hq))⟩ (by omega) (by omega) dX1_go_61
set_option maxRecDepth 100000 in
set_option maxHeartbeats 4000000 in
theorem c_wtb {g : Gx} (hst : g.1.stackTraces = false) {a rw : Nat} {tk fi wi sp pl : Int} {rn : Option Nat} {σ : Wd} (hA : σ a = some (.inr (4, [iv tk, iv fi, iv wi, iv sp, .ref rw, iv pl, va_rf rn]))) (htk : -1 ≤ tk ∧ tk ≤ 2) {aim : Int} (hQ : ∀ q, rn = some q → ∃ v0 v1 v3 v4 v5, σ q = some (.inr (3, [v0, v1, iv aim, v3, v4, v5]))) (hpl : 0 ≤ pl ∧ pl ≤ 359) (haim : 0 ≤ aim ∧ aim ≤ 359) (hsp : 1 ≤ sp ∧ sp ≤ 10) {L : Int} (hL : 0 ≤ sp * L ∧ sp * L ≤ 800) (hL2 : 0 ≤ L ∧ L ≤ 80) {w0 w1 w3 w4 : Value} {wk : Int} (hW4 : ∀ q, rn = some q → σ q = some (.inr (3, [w0, w1, iv aim, w3, w4, iv wk])))  : CT g yX1_workThroughBar cX1_workThroughBar 2 none 3 0 0 [.ref a, iv L] σ (fun r σ' => r = none ∧ σ' a = some (.inr (4, [iv tk, iv fi, iv wi, iv sp, .ref rw, iv (goV tk pl (stV (sp * L) (wyO rn tk pl aim))), va_rf rn])) ∧ (∀ q, q ≠ a → rn ≠ some q → σ' q = σ q) ∧ ∀ q, rn = some q → σ' q = some (.inr (3, [w0, w1, iv aim, w3, w4, iv (wk + min L (tkV sp (wyO rn tk pl aim)))]))) (fun _ _ => False) := by
  refine CT.of hst (by decide +kernel) (Nat.le_of_ble_eq_true rfl) (fun Φ C Rr hY hN => ?_)
  show N Φ 0 0 σ 0 [(0, .ref a), (1, iv L)] []
  have hwy := wyO_rg (rn := rn) (tk := tk) hpl haim
  have J27 : ∀ (k : Nat) (σ1 : Wd), k = 0 → σ1 a = some (.inr (4, [iv tk, iv fi, iv wi, iv sp, .ref rw, iv pl, va_rf rn])) → (∀ q, rn = some q → ∃ v0 v1 v3 v4 v5, σ1 q = some (.inr (3, [v0, v1, iv aim, v3, v4, v5]))) → (∀ q, rn ≠ some q → σ1 q = σ q) → (∀ q, rn = some q → σ1 q = some (.inr (3, [w0, w1, iv aim, w3, w4, iv (wk + min L (tkV sp (wyO rn tk pl aim)))]))) → N Φ 0 0 σ1 27 [(0, .ref a), (1, iv L)] [] := by
    intro k σ1 hk hA hQ hO hW
    refine n_aload_n C dX1_workThroughBar_27 rfl ?_
    refine n_iload_n C dX1_workThroughBar_28 rfl ?_
    refine n_invV C (c_go hst hA htk hQ hpl haim hL) ⟨t4_44, t3_222, t1_10, ⟨by decide, by decide⟩, by show _ = some 1; decide +kernel, by decide⟩ t3_220 t3_221 hA vC4 (by decide) (by omega) (by omega) (Nat.le_of_ble_eq_true rfl) rfl dX1_workThroughBar_29 (fun r σ2 h' => ?_) (fun _ _ h => h.elim)
    obtain ⟨x, rfl, hx, p1, p2⟩ := h'
    refine n_pop C dX1_workThroughBar_32 rfl ?_
    exact n_return C Rr ⟨rfl, p1, fun q hq h2 => (p2 q hq).trans (hO q h2), fun q hq => (p2 q (fun z => by have h9 := hW q hq; rw [z, hA] at h9; cases h9)).trans (hW q hq)⟩ (by omega) (by omega) dX1_workThroughBar_33
  refine n_aload_n C dX1_workThroughBar_0 rfl ?_
  refine n_get C hA vC4 vI4 6 (by decide) t1_223 rfl rfl dX1_workThroughBar_1 ?_
  refine n_ifnull C 27 dX1_workThroughBar_4 (by decide) (fun b4 => ?_) (fun a4 b4 => ?_)
  · exact J27 0 σ rfl hA hQ (fun _ _ => rfl) (fun q h => by rw [b4] at h; cases h)
  · have hq0 := hW4 _ b4
    have hA' := hA
    rw [b4] at hA'
    refine n_aload_n C dX1_workThroughBar_7 rfl ?_
    refine n_get C hA' vC4 vI4 6 (by decide) t1_223 rfl rfl dX1_workThroughBar_8 ?_
    refine n_dup C dX1_workThroughBar_11 rfl ?_
    refine n_get C hq0 vC3 vI3 5 (by decide) t2_128 rfl rfl dX1_workThroughBar_12 ?_
    refine n_iload_n C dX1_workThroughBar_15 rfl ?_
    refine n_aload_n C dX1_workThroughBar_16 rfl ?_
    refine n_invV C (c_ticks hst hA htk hQ hpl haim hsp) ⟨t4_37, t4_40, t1_10, ⟨by decide, by decide⟩, by show _ = some 0; decide +kernel, by decide⟩ t4_38 t4_39 hA vC4 (by decide) (by omega) (by omega) (Nat.le_of_ble_eq_true rfl) rfl dX1_workThroughBar_17 (fun r σ' h' => ?_) (fun _ _ h => h.elim)
    obtain ⟨rfl, hσ⟩ := h'
    rw [hσ]
    have htv : 0 ≤ tkV sp (wyO rn tk pl aim) ∧ tkV sp (wyO rn tk pl aim) ≤ 400 := by
      unfold tkV
      refine ⟨Int.ediv_nonneg (by split <;> omega) (by omega), Int.le_trans (Int.ediv_le_self _ (by split <;> omega)) (by split <;> omega)⟩
    refine n_min C (by unfold rg; omega) (by unfold rg; omega) t3_230 t2_52 t1_12 t2_53 (Nat.le_of_ble_eq_true rfl) (by omega) (by omega) dX1_workThroughBar_20 ?_
    refine n_iadd C dX1_workThroughBar_23 ?_
    refine n_put C hq0 vC3 vI3 tyX0 tyX0_ok nmX0 5 (by decide) t2_128 rfl rfl rfl rfl (show (5 : Nat) < 6 by decide) dX1_workThroughBar_24 ?_
    refine wab (e := (.inr (3, [w0, w1, iv aim, w3, w4, iv (wk + (min L (tkV sp (wyO rn tk pl aim))))]))) (fun σ0 H0 O0 => ?_)
    have hA'_0 := (O0 a (fun z => by rw [z, hq0] at hA'; cases hA')).trans hA'
    refine J27 0 _ rfl (by rw [b4]; exact hA'_0) (fun q h => ?_) (fun q h => O0 q (fun z => h (by rw [z]; exact b4))) (fun q h => ?_)
    · rw [b4] at h; cases h; exact ⟨_, _, _, _, _, H0⟩
    · rw [b4] at h; cases h; exact H0
set_option maxRecDepth 100000 in
set_option maxHeartbeats 4000000 in
theorem c_meets {g : Gx} (hst : g.1.stackTraces = false) {a rw : Nat} {tk fi wi sp pl : Int} {rn : Option Nat} {σ : Wd} (hA : σ a = some (.inr (4, [iv tk, iv fi, iv wi, iv sp, .ref rw, iv pl, va_rf rn]))) (htk : -1 ≤ tk ∧ tk ≤ 2) {z rw' : Nat} {tk' fi' wi' sp' pl' : Int} {rn' : Option Nat} (hB : σ z = some (.inr (4, [iv tk', iv fi', iv wi', iv sp', .ref rw', iv pl', va_rf rn']))) (htk' : -1 ≤ tk' ∧ tk' ≤ 2) (hpl : 0 ≤ pl ∧ pl ≤ 359) (hpl' : 0 ≤ pl' ∧ pl' ≤ 359) (hwi : 0 ≤ wi ∧ wi ≤ 20) (hwi' : 0 ≤ wi' ∧ wi' ≤ 20)  : CT g yX1_meets cX1_meets 2 (some .boolean) 1 0 0 [.ref a, .ref z] σ (fun r σ' => ∃ x : Int, r = some (iv x) ∧ σ' = σ ∧ ((x = 1 ∧ tk ≠ -1 ∧ tk = tk' ∧ 2 * (if 0 ≤ (pl - pl') then (pl - pl') else -(pl - pl')) < wi + wi') ∨ (x = 0 ∧ ¬ (tk ≠ -1 ∧ tk = tk' ∧ 2 * (if 0 ≤ (pl - pl') then (pl - pl') else -(pl - pl')) < wi + wi')))) (fun _ _ => False) := by
  refine CT.of hst (by decide +kernel) (Nat.le_of_ble_eq_true rfl) (fun Φ C Rr hY hN => ?_)
  show N Φ 0 0 σ 0 [(0, .ref a), (1, .ref z)] []
  refine n_aload_n C dX1_meets_0 rfl ?_
  refine n_invV C (c_turns hst hA htk) ⟨t2_105, t2_108, t1_10, ⟨by decide, by decide⟩, by show _ = some 0; decide +kernel, by decide⟩ t2_106 t2_107 hA vC4 (by decide) (by omega) (by omega) (Nat.le_of_ble_eq_true rfl) rfl dX1_meets_1 (fun r σ' h' => ?_) (fun _ _ h => h.elim)
  obtain ⟨x, rfl, hσ, hx⟩ := h'
  rw [hσ]
  refine n_if_ne C 48 dX1_meets_4 (by decide) (by unfold rg; omega) (fun b4 => ?_) (fun b4 => ?_)
  · refine n_iconst (x := 0) C dX1_meets_48 ?_
    exact n_ireturn C Rr (nar_bv (by first | decide | omega)) ⟨_, rfl, rfl, by omega⟩ (by omega) (by omega) dX1_meets_49
  · refine n_aload_n C dX1_meets_7 rfl ?_
    refine n_get C hA vC4 vI4 0 (by decide) t1_216 rfl rfl dX1_meets_8 ?_
    refine n_aload_n C dX1_meets_11 rfl ?_
    refine n_get C hB vC4 vI4 0 (by decide) t1_216 rfl rfl dX1_meets_12 ?_
    refine n_icmp_ne C 48 dX1_meets_15 (by decide) (by unfold rg; omega) (by unfold rg; omega) (fun b15 => ?_) (fun b15 => ?_)
    · refine n_iconst (x := 0) C dX1_meets_48 ?_
      exact n_ireturn C Rr (nar_bv (by first | decide | omega)) ⟨_, rfl, rfl, by omega⟩ (by omega) (by omega) dX1_meets_49
    · refine n_iconst (x := 2) C dX1_meets_18 ?_
      refine n_aload_n C dX1_meets_19 rfl ?_
      refine n_get C hA vC4 vI4 5 (by decide) t1_221 rfl rfl dX1_meets_20 ?_
      refine n_aload_n C dX1_meets_23 rfl ?_
      refine n_get C hB vC4 vI4 5 (by decide) t1_221 rfl rfl dX1_meets_24 ?_
      refine n_isub C dX1_meets_27 ?_
      refine n_abs C (by unfold rg; omega) t4_41 t4_42 t1_12 t4_43 (Nat.le_of_ble_eq_true rfl) (by omega) (by omega) dX1_meets_28 ?_
      have hab : 0 ≤ (if 0 ≤ (pl - pl') then (pl - pl') else -(pl - pl')) ∧ (if 0 ≤ (pl - pl') then (pl - pl') else -(pl - pl')) ≤ 359 := by split <;> omega
      refine n_imul C dX1_meets_31 ?_
      refine n_aload_n C dX1_meets_32 rfl ?_
      refine n_get C hA vC4 vI4 2 (by decide) t1_218 rfl rfl dX1_meets_33 ?_
      refine n_aload_n C dX1_meets_36 rfl ?_
      refine n_get C hB vC4 vI4 2 (by decide) t1_218 rfl rfl dX1_meets_37 ?_
      refine n_iadd C dX1_meets_40 ?_
      refine n_icmp_ge C 48 dX1_meets_41 (by decide) (by unfold rg; omega) (by unfold rg; omega) (fun b41 => ?_) (fun b41 => ?_)
      · refine n_iconst (x := 0) C dX1_meets_48 ?_
        exact n_ireturn C Rr (nar_bv (by first | decide | omega)) ⟨_, rfl, rfl, by omega⟩ (by omega) (by omega) dX1_meets_49
      · refine n_iconst (x := 1) C dX1_meets_44 ?_
        refine n_goto C 49 dX1_meets_45 (by decide) ?_
        exact n_ireturn C Rr (nar_bv (by first | decide | omega)) ⟨_, rfl, rfl, by omega⟩ (by omega) (by omega) dX1_meets_49
