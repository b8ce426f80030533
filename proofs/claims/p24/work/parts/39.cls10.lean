set_option maxRecDepth 100000 in
set_option maxHeartbeats 4000000 in
theorem c_cueInit {g : Gx} (hst : g.1.stackTraces = false) {y z : Nat} {a b e : Int} {σ : Wd} (hy : σ y = some (.inr (3, [.null, iv 0, iv 0, iv 0, iv 0, iv 0])))  : CT g yX0_init cX0_init 5 none 0 0 0 [.ref y, .ref z, iv a, iv b, iv e] σ (fun r σ' => r = none ∧ σ' y = some (.inr (3, [.ref z, iv a, iv b, iv e, iv 0, iv 0])) ∧ ∀ q, q ≠ y → σ' q = σ q) (fun _ _ => False) := by
  refine CT.of hst (by decide +kernel) (Nat.le_of_ble_eq_true rfl) (fun Φ C Rr hY hN => ?_)
  show N Φ 0 0 σ 0 [(0, .ref y), (1, .ref z), (2, iv a), (3, iv b), (4, iv e)] []
  refine n_aload_n C dX0_init_0 rfl ?_
  refine n_objInit C t2_118 t1_35 t1_36 (Nat.le_of_ble_eq_true rfl) dX0_init_1 ?_
  refine n_aload_n C dX0_init_4 rfl ?_
  refine n_aload_n C dX0_init_5 rfl ?_
  refine n_putF C hY hy vC3 vI3 tyX0 tyX0_ok nmX0 0 (by decide) t2_119 rfl rfl rfl rfl rfl (show (0 : Nat) < 6 by decide) dX0_init_6 ?_
  refine wab (e := (.inr (3, [.ref z, iv 0, iv 0, iv 0, iv 0, iv 0]))) (fun σ0 H0 O0 => ?_)
  refine n_aload_n C dX0_init_9 rfl ?_
  refine n_iload_n C dX0_init_10 rfl ?_
  refine n_putF C hY H0 vC3 vI3 tyX0 tyX0_ok nmX0 1 (by decide) t2_121 rfl rfl rfl rfl rfl (show (1 : Nat) < 6 by decide) dX0_init_11 ?_
  refine wab (e := (.inr (3, [.ref z, iv a, iv 0, iv 0, iv 0, iv 0]))) (fun σ1 H1 O1 => ?_)
  refine n_aload_n C dX0_init_14 rfl ?_
  refine n_iload_n C dX0_init_15 rfl ?_
  refine n_putF C hY H1 vC3 vI3 tyX0 tyX0_ok nmX0 2 (by decide) t2_123 rfl rfl rfl rfl rfl (show (2 : Nat) < 6 by decide) dX0_init_16 ?_
  refine wab (e := (.inr (3, [.ref z, iv a, iv b, iv 0, iv 0, iv 0]))) (fun σ2 H2 O2 => ?_)
  refine n_aload_n C dX0_init_19 rfl ?_
  refine n_iload C dX0_init_20 rfl ?_
  refine n_putF C hY H2 vC3 vI3 tyX0 tyX0_ok nmX0 3 (by decide) t2_125 rfl rfl rfl rfl rfl (show (3 : Nat) < 6 by decide) dX0_init_22 ?_
  refine wab (e := (.inr (3, [.ref z, iv a, iv b, iv e, iv 0, iv 0]))) (fun σ3 H3 O3 => ?_)
  exact n_return C Rr ⟨rfl, H3, fun q hq => ((O3 q hq).trans ((O2 q hq).trans ((O1 q hq).trans (O0 q hq))))⟩ (by omega) (by omega) dX0_init_25
set_option maxRecDepth 100000 in
set_option maxHeartbeats 4000000 in
theorem c_macInit {g : Gx} (hst : g.1.stackTraces = false) {y : Nat} {a b e v : Int} {σ : Wd} (hy : σ y = some (.inr (4, [iv 0, iv 0, iv 0, iv 0, .null, iv 0, .null])))  : CT g yX1_init cX1_init 5 none 0 1 30 [.ref y, iv a, iv b, iv e, iv v] σ (fun r σ' => r = none ∧ ∃ z : Nat, σ z = none ∧ σ' y = some (.inr (4, [iv a, iv b, iv e, iv v, .ref z, iv 0, .null])) ∧ σ' z = some (eC g.2.1 30 (fun _ => none)) ∧ ∀ q, q ≠ y → q ≠ z → σ' q = σ q) (fun _ _ => False) := by
  refine CT.of hst (by decide +kernel) (Nat.le_of_ble_eq_true rfl) (fun Φ C Rr hY hN => ?_)
  show N Φ 0 0 σ 0 [(0, .ref y), (1, iv a), (2, iv b), (3, iv e), (4, iv v)] []
  refine n_aload_n C dX1_init_0 rfl ?_
  refine n_objInit C t1_213 t1_35 t1_36 (Nat.le_of_ble_eq_true rfl) dX1_init_1 ?_
  refine n_aload_n C dX1_init_4 rfl ?_
  refine n_bipush (x := 30) C dX1_init_5 (by decide) ?_
  refine n_newC C (M := 30) (by omega) t1_214 (by omega) (by omega) dX1_init_7 (fun z hz => ?_)
  refine wab (fun σa HZ OZ => ?_)
  have hyz : y ≠ z := fun q => by rw [q, hz] at hy; cases hy
  have hy2 := (OZ y hyz).trans hy
  refine n_putF C hY hy2 vC4 vI4 tyX1 tyX1_ok nmX1 4 (by decide) t1_220 rfl rfl rfl rfl rfl (show (4 : Nat) < 7 by decide) dX1_init_10 ?_
  refine wab (e := (.inr (4, [iv 0, iv 0, iv 0, iv 0, .ref z, iv 0, .null]))) (fun σ0 H0 O0 => ?_)
  refine n_aload_n C dX1_init_13 rfl ?_
  refine n_iload_n C dX1_init_14 rfl ?_
  refine n_putF C hY H0 vC4 vI4 tyX1 tyX1_ok nmX1 0 (by decide) t1_216 rfl rfl rfl rfl rfl (show (0 : Nat) < 7 by decide) dX1_init_15 ?_
  refine wab (e := (.inr (4, [iv a, iv 0, iv 0, iv 0, .ref z, iv 0, .null]))) (fun σ1 H1 O1 => ?_)
  refine n_aload_n C dX1_init_18 rfl ?_
  refine n_iload_n C dX1_init_19 rfl ?_
  refine n_putF C hY H1 vC4 vI4 tyX1 tyX1_ok nmX1 1 (by decide) t1_217 rfl rfl rfl rfl rfl (show (1 : Nat) < 7 by decide) dX1_init_20 ?_
  refine wab (e := (.inr (4, [iv a, iv b, iv 0, iv 0, .ref z, iv 0, .null]))) (fun σ2 H2 O2 => ?_)
  refine n_aload_n C dX1_init_23 rfl ?_
  refine n_iload_n C dX1_init_24 rfl ?_
  refine n_putF C hY H2 vC4 vI4 tyX1 tyX1_ok nmX1 2 (by decide) t1_218 rfl rfl rfl rfl rfl (show (2 : Nat) < 7 by decide) dX1_init_25 ?_
  refine wab (e := (.inr (4, [iv a, iv b, iv e, iv 0, .ref z, iv 0, .null]))) (fun σ3 H3 O3 => ?_)
  refine n_aload_n C dX1_init_28 rfl ?_
  refine n_iload C dX1_init_29 rfl ?_
  refine n_putF C hY H3 vC4 vI4 tyX1 tyX1_ok nmX1 3 (by decide) t1_219 rfl rfl rfl rfl rfl (show (3 : Nat) < 7 by decide) dX1_init_31 ?_
  refine wab (e := (.inr (4, [iv a, iv b, iv e, iv v, .ref z, iv 0, .null]))) (fun σ4 H4 O4 => ?_)
  exact n_return C Rr ⟨rfl, z, hz, H4, (((O4 z hyz.symm).trans ((O3 z hyz.symm).trans ((O2 z hyz.symm).trans ((O1 z hyz.symm).trans (O0 z hyz.symm)))))).trans HZ, fun q h1 h2 => (((O4 q h1).trans ((O3 q h1).trans ((O2 q h1).trans ((O1 q h1).trans (O0 q h1)))))).trans (OZ q h2)⟩ (by omega) (by omega) dX1_init_34
set_option maxRecDepth 100000 in
set_option maxHeartbeats 4000000 in
theorem k_addM {g : Gx} (hst : g.1.stackTraces = false) {A : ShT} {c : Tb} {σ : Wd} {mo : Int} {row m cap y : Nat} {f : Nat → Option Nat} (hX : σ (shA A 0) = some (.inr (5, ctO A c))) (hL : ALst g σ (shA A 1) mo row m cap f) (hel : ∀ i, i < m → ∀ q, f i = some q → obj σ q) (hy : obj σ y) (hm : m < 30) (hxr : shA A 0 ≠ shA A 1) (hxrow : 1 ≤ cap → shA A 0 ≠ row)  : CT g yX2_add cX2_add 2 (some .int) 6 1 64 [.ref (shA A 0), .ref y] σ (fun r σ' => r = some (iv m) ∧ ∃ (row' cap' : Nat) (f' : Nat → Option Nat), ALst g σ' (shA A 1) (mo + 1) row' (m + 1) cap' f' ∧ 1 ≤ cap' ∧ ((row' = row ∧ cap' = cap ∧ 1 ≤ cap) ∨ σ row' = none) ∧ (∀ q, q ≠ row' → q ≠ shA A 1 → σ' q = σ q) ∧ (∀ j, j < m → f' j = f j) ∧ f' m = some y) (fun _ _ => False) := by
  refine CT.of hst (by decide +kernel) (Nat.le_of_ble_eq_true rfl) (fun Φ C Rr hY hN => ?_)
  show N Φ 0 0 σ 0 [(0, .ref (shA A 0)), (1, .ref y)] []
  refine n_aload_n C dX2_add_0 rfl ?_
  refine n_get C hX vC5 vI5 0 (by decide) t1_63 rfl rfl dX2_add_1 ?_
  refine n_aload_n C dX2_add_4 rfl ?_
  refine n_invV C (c_add hst hL hel hy hm) ⟨t2_3, t2_6, t1_4, ⟨by decide, by decide⟩, by show _ = some 1; decide +kernel, by decide⟩ t2_4 t2_5 hL.1 cJ (by decide) (by omega) (by omega) (Nat.le_of_ble_eq_true rfl) rfl dX2_add_5 (fun r σ1 h' => ?_) (fun _ _ h => h.elim)
  obtain ⟨rfl, row', cap', f', p1, p2, p3, p4, p5⟩ := h'
  have hX2 : σ1 (shA A 0) = some (.inr (5, ctO A c)) := (p4 _ (fun z => by
    rcases p3 with ⟨q1, q2, q3⟩ | q1
    · exact hxrow q3 (z.trans q1)
    · rw [← z, hX] at q1; cases q1) hxr).trans hX
  refine n_pop C dX2_add_8 rfl ?_
  refine n_aload_n C dX2_add_9 rfl ?_
  refine n_get C hX2 vC5 vI5 0 (by decide) t1_63 rfl rfl dX2_add_10 ?_
  refine n_invV C (c_size hst p1) ⟨t1_188, t1_191, t1_4, ⟨by decide, by decide⟩, by show _ = some 0; decide +kernel, by decide⟩ t1_189 t1_190 p1.1 cJ (by decide) (by omega) (by omega) (Nat.le_of_ble_eq_true rfl) rfl dX2_add_13 (fun r σ' h' => ?_) (fun _ _ h => h.elim)
  obtain ⟨rfl, hσ⟩ := h'
  rw [hσ]
  refine n_iconst (x := 1) C dX2_add_16 ?_
  refine n_isub C dX2_add_17 ?_
  have e1 : ((m + 1 : Nat) : Int) - 1 = (m : Int) := by omega
  rw [e1]
  exact n_ireturn C Rr rfl ⟨rfl, row', cap', f', p1, p2, p3, p4, p5⟩ (by omega) (by omega) dX2_add_18
