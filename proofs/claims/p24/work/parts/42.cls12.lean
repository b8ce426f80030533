set_option maxRecDepth 100000 in
set_option maxHeartbeats 4000000 in
theorem k_insert {g : Gx} (hst : g.1.stackTraces = false) {A : ShT} {c D : Tb} {σ : Wd} {mo : Int} {row m cap y mac : Nat} {f : Nat → Option Nat} {b v2 v3 v4 v5 : Int} (hX : σ (shA A 0) = some (.inr (5, ctO A c))) (hL : ALst g σ (shA A 3) mo row m cap f) (hf : ∀ k : Nat, k < m → f k = some (shA A (30 + shO A k))) (hQ : ∀ k : Nat, k < m → σ (shA A (30 + shO A k)) = some (.inr (3, ctC A c D (shO A k)))) (hy : σ y = some (.inr (3, [.ref mac, iv b, iv v2, iv v3, iv v4, iv v5]))) (hm : m < 24) (hb : 0 ≤ b ∧ b < 30) (h7 : ∀ q : Nat, 0 ≤ c 7 q ∧ c 7 q < 30) (hso : ∀ k l : Nat, k < l → l < m → c 7 (shO A k) ≤ c 7 (shO A l))  : CT g yX2_insertByBar cX2_insertByBar 3 none 5 1 64 [.ref (shA A 0), .ref y] σ (fun r σ' => r = none ∧ ∃ k : Nat, k ≤ m ∧ (∀ l : Nat, l < k → c 7 (shO A l) ≤ b) ∧ (∀ l : Nat, k ≤ l → l < m → b < c 7 (shO A l)) ∧ ∃ (row' cap' : Nat) (f' : Nat → Option Nat), ALst g σ' (shA A 3) (mo + 1) row' (m + 1) cap' f' ∧ 1 ≤ cap' ∧ ((row' = row ∧ cap' = cap ∧ 1 ≤ cap) ∨ σ row' = none) ∧ (∀ q, q ≠ row' → q ≠ shA A 3 → σ' q = σ q) ∧ (∀ j, j < k → f' j = f j) ∧ f' k = some y ∧ ∀ j, k < j → j ≤ m → f' j = f (j - 1)) (fun _ _ => False) := by
  refine CT.of hst (by decide +kernel) (Nat.le_of_ble_eq_true rfl) (fun Φ C Rr hY hN => ?_)
  show N Φ 0 0 σ 0 [(0, .ref (shA A 0)), (1, .ref y)] []
  refine n_aload_n C dX2_insertByBar_0 rfl ?_
  refine n_get C hX vC5 vI5 2 (by decide) t1_65 rfl rfl dX2_insertByBar_1 ?_
  refine n_invV C (c_size hst hL) ⟨t1_188, t1_191, t1_4, ⟨by decide, by decide⟩, by show _ = some 0; decide +kernel, by decide⟩ t1_189 t1_190 hL.1 cJ (by decide) (by omega) (by omega) (Nat.le_of_ble_eq_true rfl) rfl dX2_insertByBar_4 (fun r σ' h' => ?_) (fun _ _ h => h.elim)
  obtain ⟨rfl, hσ⟩ := h'
  rw [hσ]
  refine n_istore_n (lv' := [(2, iv (m : Int)), (0, .ref (shA A 0)), (1, .ref y)]) C dX2_insertByBar_7 (by rw [hN]; decide) rfl ?_
  have LP : ∀ (fu : Nat) (k : Nat) (hk : k ≤ m) (hge : ∀ l : Nat, k ≤ l → l < m → b < c 7 (shO A l)) (hf1 : k < fu), N Φ 0 0 σ 8 [(2, iv (k : Int)), (0, .ref (shA A 0)), (1, .ref y)] [] := by
    intro fu
    induction fu with
    | zero =>
      intro k hk hge hf1
      omega
    | succ fu ih =>
      intro k hk hge hf1
      refine n_iload_n C dX2_insertByBar_8 rfl ?_
      refine n_if_le C 41 dX2_insertByBar_9 (by decide) (by unfold rg; omega) (fun b9 => ?_) (fun b9 => ?_)
      · refine n_aload_n C dX2_insertByBar_41 rfl ?_
        refine n_get C hX vC5 vI5 2 (by decide) t1_65 rfl rfl dX2_insertByBar_42 ?_
        refine n_iload_n C dX2_insertByBar_45 rfl ?_
        refine n_aload_n C dX2_insertByBar_46 rfl ?_
        refine n_invV C (c_addAt hst hL (i := k) (fun j hj q hq => by
          rw [hf j hj] at hq
          cases hq
          exact obj3 (hQ j hj)) (obj3 hy) (by omega) (by omega)) ⟨t2_147, t2_150, t1_4, ⟨by decide, by decide⟩, by show _ = some 2; decide +kernel, by decide⟩ t2_148 t2_149 hL.1 cJ (by decide) (by omega) (by omega) (Nat.le_of_ble_eq_true rfl) rfl dX2_insertByBar_47 (fun r σ1 h' => ?_) (fun _ _ h => h.elim)
        obtain ⟨rfl, row', cap', f', p1, p2, p3, p4, p5⟩ := h'
        exact n_return C Rr ⟨rfl, k, hk, fun l hl => by omega, hge, row', cap', f', p1, p2, p3, p4, p5⟩ (by omega) (by omega) dX2_insertByBar_50
      · obtain ⟨p, rfl⟩ : ∃ p : Nat, k = p + 1 := ⟨k - 1, by omega⟩
        have e1 : ((p + 1 : Nat) : Int) - 1 = (p : Int) := by omega
        have w7 := h7 (shO A p)
        refine n_aload_n C dX2_insertByBar_12 rfl ?_
        refine n_get C hX vC5 vI5 2 (by decide) t1_65 rfl rfl dX2_insertByBar_13 ?_
        refine n_iload_n C dX2_insertByBar_16 rfl ?_
        refine n_iconst (x := 1) C dX2_insertByBar_17 ?_
        refine n_isub C dX2_insertByBar_18 ?_
        rw [e1]
        refine n_invV C (c_get hst hL (i := p) (by omega) (hf p (by omega))) ⟨t2_87, t2_90, t1_4, ⟨by decide, by decide⟩, by show _ = some 1; decide +kernel, by decide⟩ t2_88 t2_89 hL.1 cJ (by decide) (by omega) (by omega) (Nat.le_of_ble_eq_true rfl) rfl dX2_insertByBar_19 (fun r σ' h' => ?_) (fun _ _ h => h.elim)
        obtain ⟨rfl, hσ⟩ := h'
        rw [hσ]
        refine n_cast C (hQ p (by omega)) vC3 t2_113 dX2_insertByBar_22 ?_
        refine n_get C (hQ p (by omega)) vC3 vI3 1 (by decide) t2_122 rfl rfl dX2_insertByBar_25 ?_
        refine n_aload_n C dX2_insertByBar_28 rfl ?_
        refine n_get C hy vC3 vI3 1 (by decide) t2_122 rfl rfl dX2_insertByBar_29 ?_
        refine n_icmp_le C 41 dX2_insertByBar_32 (by decide) (by unfold rg; omega) (by unfold rg; omega) (fun b32 => ?_) (fun b32 => ?_)
        · refine n_aload_n C dX2_insertByBar_41 rfl ?_
          refine n_get C hX vC5 vI5 2 (by decide) t1_65 rfl rfl dX2_insertByBar_42 ?_
          refine n_iload_n C dX2_insertByBar_45 rfl ?_
          refine n_aload_n C dX2_insertByBar_46 rfl ?_
          refine n_invV C (c_addAt hst hL (i := p + 1) (fun j hj q hq => by
            rw [hf j hj] at hq
            cases hq
            exact obj3 (hQ j hj)) (obj3 hy) (by omega) (by omega)) ⟨t2_147, t2_150, t1_4, ⟨by decide, by decide⟩, by show _ = some 2; decide +kernel, by decide⟩ t2_148 t2_149 hL.1 cJ (by decide) (by omega) (by omega) (Nat.le_of_ble_eq_true rfl) rfl dX2_insertByBar_47 (fun r σ1 h' => ?_) (fun _ _ h => h.elim)
          obtain ⟨rfl, row', cap', f', p1, p2, p3, p4, p5⟩ := h'
          exact n_return C Rr ⟨rfl, p + 1, hk, fun l hl => by
            by_cases t : l = p
            · rw [t]; omega
            · have := hso l p (by omega) (by omega); omega, hge, row', cap', f', p1, p2, p3, p4, p5⟩ (by omega) (by omega) dX2_insertByBar_50
        · refine n_iinc (lv' := [(2, iv (((p + 1 : Nat) : Int) + (-1))), (0, .ref (shA A 0)), (1, .ref y)]) C dX2_insertByBar_35 rfl (by rw [hN]; decide) rfl ?_
          refine n_goto C 8 dX2_insertByBar_38 (by decide) ?_
          have e2 : ((p + 1 : Nat) : Int) + -1 = (p : Int) := by omega
          rw [e2]
          exact ih p (by omega) (fun l h1 h2 => by
            by_cases t : l = p
            · rw [t]; omega
            · exact hge l (by omega) h2) (by omega)
  exact LP 25 m (Nat.le_refl m) (fun l h1 h2 => by omega) (by omega)
