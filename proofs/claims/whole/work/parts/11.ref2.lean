set_option maxRecDepth 100000 in
set_option maxHeartbeats 4000000 in
theorem c_bar {g : Gx} (hst : g.1.stackTraces = false) {o : Nat} {ar : Nat → Nat} {β : Wd} {M c : Tb} (I : RI o ar) {σ : Wd} (hM : MW g.2.1 o ar β M σ) (hc : cut M = c) (hw : WF c) : CT g yX3_bar cX3_bar 1 (some .int) 1 0 0 [.ref o] σ (fun r σ' => ∃ M', r = some (iv (lenB c (c 14 0))) ∧ MW g.2.1 o ar β M' σ' ∧ cut M' = c ∧ M' 26 0 = 0) (fun _ _ => False) := by
  refine CT.of hst (by decide +kernel) (Nat.le_of_ble_eq_true rfl) (fun Φ C Rr hY hN => ?_)
  show N Φ 0 0 σ 0 [(0, .ref o)] []
  obtain ⟨w0, w6, w12, w13, w14, w15, w16, wm, wq, ww⟩ := id hw
  refine n_aload_n C dX3_bar_0 rfl ?_
  refine n_iconst (x := 0) C dX3_bar_1 ?_
  refine r_put C I hM 26 (by decide) rfl w4_154 rfl rfl rfl rfl dX3_bar_2 (fun σ hM => ?_)
  replace hc : cut (tu M 26 0 0) = c := (cut_tu (by decide)).trans hc
  refine n_aload_n C dX3_bar_5 rfl ?_
  refine n_aload_n C dX3_bar_6 rfl ?_
  refine r_getc C hM hc 14 (by decide) w4_142 rfl rfl dX3_bar_7 ?_
  refine n_invV C (c_lengthBy hst (by omega) I hM hc hw) ⟨w5_32, w5_35, w1_5, ⟨by decide, by decide⟩, by show _ = some 1; decide +kernel, by decide⟩ w5_34 wp_27 hM.1 (show vwCl[6]? = some ("OperaMachinesModel", TX3, 27) from rfl) (by decide) (by omega) (by omega) (Nat.le_of_ble_eq_true rfl) rfl dX3_bar_10 (fun r σ' h => ?_) (fun _ _ h => h.elim)
  obtain ⟨rfl, rfl⟩ := h
  exact n_ireturn C Rr rfl ⟨_, rfl, hM, hc, rfl⟩ (by omega) (by omega) dX3_bar_13
set_option maxRecDepth 100000 in
set_option maxHeartbeats 4000000 in
theorem c_end {g : Gx} (hst : g.1.stackTraces = false) {o : Nat} {ar : Nat → Nat} {β : Wd} {M c : Tb} (I : RI o ar) {σ : Wd} (hM : MW g.2.1 o ar β M σ) (hc : cut M = c) (hw : WF c) : CT g yX3_end cX3_end 1 (some .int) 1 0 0 [.ref o] σ (fun r σ' => ∃ M', r = some (iv (c 12 0 * lenB c (c 14 0))) ∧ MW g.2.1 o ar β M' σ' ∧ cut M' = c ∧ M' 26 0 = 0) (fun _ _ => False) := by
  refine CT.of hst (by decide +kernel) (Nat.le_of_ble_eq_true rfl) (fun Φ C Rr hY hN => ?_)
  show N Φ 0 0 σ 0 [(0, .ref o)] []
  obtain ⟨w0, w6, w12, w13, w14, w15, w16, wm, wq, ww⟩ := id hw
  refine n_aload_n C dX3_end_0 rfl ?_
  refine n_iconst (x := 0) C dX3_end_1 ?_
  refine r_put C I hM 26 (by decide) rfl w4_154 rfl rfl rfl rfl dX3_end_2 (fun σ hM => ?_)
  replace hc : cut (tu M 26 0 0) = c := (cut_tu (by decide)).trans hc
  refine n_aload_n C dX3_end_5 rfl ?_
  refine r_getc C hM hc 12 (by decide) w4_140 rfl rfl dX3_end_6 ?_
  refine n_aload_n C dX3_end_9 rfl ?_
  refine n_aload_n C dX3_end_10 rfl ?_
  refine r_getc C hM hc 14 (by decide) w4_142 rfl rfl dX3_end_11 ?_
  refine n_invV C (c_lengthBy hst (by omega) I hM hc hw) ⟨w5_32, w5_35, w1_5, ⟨by decide, by decide⟩, by show _ = some 1; decide +kernel, by decide⟩ w5_34 wp_27 hM.1 (show vwCl[6]? = some ("OperaMachinesModel", TX3, 27) from rfl) (by decide) (by omega) (by omega) (Nat.le_of_ble_eq_true rfl) rfl dX3_end_14 (fun r σ' h => ?_) (fun _ _ h => h.elim)
  obtain ⟨rfl, rfl⟩ := h
  refine n_imul C dX3_end_17 ?_
  exact n_ireturn C Rr rfl ⟨_, rfl, hM, hc, rfl⟩ (by omega) (by omega) dX3_end_18
set_option maxRecDepth 100000 in
set_option maxHeartbeats 4000000 in
theorem c_effect {g : Gx} (hst : g.1.stackTraces = false) {i b : Int} (hi : 0 ≤ i ∧ i < 6) (hb : 0 ≤ b ∧ b ≤ 30) {o : Nat} {ar : Nat → Nat} {β : Wd} {M c : Tb} (I : RI o ar) {σ : Wd} (hM : MW g.2.1 o ar β M σ) (hc : cut M = c) (hw : WF c) : CT g yX3_effect cX3_effect 5 (some .int) 0 0 0 [.ref o, iv i, iv b] σ (fun r σ' => r = some (iv (eff c i b)) ∧ σ' = σ) (fun _ _ => False) := by
  refine CT.of hst (by decide +kernel) (Nat.le_of_ble_eq_true rfl) (fun Φ C Rr hY hN => ?_)
  show N Φ 0 0 σ 0 [(0, .ref o), (1, iv i), (2, iv b)] []
  obtain ⟨w0, w6, w12, w13, w14, w15, w16, wm, wq, ww⟩ := id hw
  refine n_iconst (x := (-1)) C dX3_effect_0 ?_
  refine n_istore_n (lv' := [(3, iv (-1)), (0, .ref o), (1, iv i), (2, iv b)]) C dX3_effect_1 (by rw [hN]; decide) rfl ?_
  refine n_iconst (x := 0) C dX3_effect_2 ?_
  refine n_istore (lv' := [(4, iv 0), (3, iv (-1)), (0, .ref o), (1, iv i), (2, iv b)]) C dX3_effect_3 (by rw [hN]; decide) rfl ?_
  have LP : ∀ (fu : Nat) (k : Nat) (f : Int) (hf : f = effN c i b k) (h1 : k ≤ c 6 0) (h2 : c 6 0 + 1 ≤ k + fu), N Φ 0 0 σ 5 [(4, iv (k : Int)), (3, iv f), (0, .ref o), (1, iv i), (2, iv b)] [] := by
    intro fu
    induction fu with
    | zero =>
      intro k f hf h1 h2
      omega
    | succ fu ih =>
      intro k f hf h1 h2
      refine n_iload C dX3_effect_5 rfl ?_
      refine n_aload_n C dX3_effect_7 rfl ?_
      refine r_getc C hM hc 6 (by decide) w4_134 rfl rfl dX3_effect_8 ?_
      refine n_icmp_ge C 59 dX3_effect_11 (by decide) (by unfold rg; omega) (by unfold rg; omega) (fun b11 => ?_) (fun b11 => ?_)
      · refine n_iload_n C dX3_effect_59 rfl ?_
        exact n_ireturn C Rr rfl ⟨by rw [hf]; unfold eff; rw [show (c 6 0).toNat = k by omega], rfl⟩ (by omega) (by omega) dX3_effect_60
      · have w1 := wq k
        have w2 := eff_rg c i b k (by omega)
        refine n_aload_n C dX3_effect_14 rfl ?_
        refine r_get C hM 11 (by decide) w4_139 rfl rfl dX3_effect_15 ?_
        refine n_iload C dX3_effect_18 rfl ?_
        refine r_zaldc C hM hc 11 (by decide) rfl rfl k rfl (show _ < 24 by omega) dX3_effect_20 ?_
        refine n_if_ne C 51 dX3_effect_21 (by decide) (by unfold rg; omega) (fun b21 => ?_) (fun b21 => ?_)
        · refine n_iload_n C dX3_effect_51 rfl ?_
          refine n_istore_n (lv' := [(3, iv f), (4, iv (k : Int)), (0, .ref o), (1, iv i), (2, iv b)]) C dX3_effect_52 (by rw [hN]; decide) rfl ?_
          refine n_iinc (lv' := [(4, iv ((k : Int) + 1)), (3, iv f), (0, .ref o), (1, iv i), (2, iv b)]) C dX3_effect_53 rfl (by rw [hN]; decide) rfl ?_
          refine n_goto C 5 dX3_effect_56 (by decide) ?_
          exact ih (k + 1) _ (by unfold effN; rw [if_neg (by omega)]; exact hf) (by omega) (by omega)
        · refine n_aload_n C dX3_effect_24 rfl ?_
          refine r_get C hM 8 (by decide) w4_136 rfl rfl dX3_effect_25 ?_
          refine n_iload C dX3_effect_28 rfl ?_
          refine r_ialdc C hM hc 8 (by decide) rfl rfl k rfl (show _ < 24 by omega) dX3_effect_30 ?_
          refine n_iload_n C dX3_effect_31 rfl ?_
          refine n_icmp_ne C 51 dX3_effect_32 (by decide) (by unfold rg; omega) (by unfold rg; omega) (fun b32 => ?_) (fun b32 => ?_)
          · refine n_iload_n C dX3_effect_51 rfl ?_
            refine n_istore_n (lv' := [(3, iv f), (4, iv (k : Int)), (0, .ref o), (1, iv i), (2, iv b)]) C dX3_effect_52 (by rw [hN]; decide) rfl ?_
            refine n_iinc (lv' := [(4, iv ((k : Int) + 1)), (3, iv f), (0, .ref o), (1, iv i), (2, iv b)]) C dX3_effect_53 rfl (by rw [hN]; decide) rfl ?_
            refine n_goto C 5 dX3_effect_56 (by decide) ?_
            exact ih (k + 1) _ (by unfold effN; rw [if_neg (by omega)]; exact hf) (by omega) (by omega)
          · refine n_aload_n C dX3_effect_35 rfl ?_
            refine r_get C hM 7 (by decide) w4_135 rfl rfl dX3_effect_36 ?_
            refine n_iload C dX3_effect_39 rfl ?_
            refine r_ialdc C hM hc 7 (by decide) rfl rfl k rfl (show _ < 24 by omega) dX3_effect_41 ?_
            refine n_iload_n C dX3_effect_42 rfl ?_
            refine n_icmp_ne C 51 dX3_effect_43 (by decide) (by unfold rg; omega) (by unfold rg; omega) (fun b43 => ?_) (fun b43 => ?_)
            · refine n_iload_n C dX3_effect_51 rfl ?_
              refine n_istore_n (lv' := [(3, iv f), (4, iv (k : Int)), (0, .ref o), (1, iv i), (2, iv b)]) C dX3_effect_52 (by rw [hN]; decide) rfl ?_
              refine n_iinc (lv' := [(4, iv ((k : Int) + 1)), (3, iv f), (0, .ref o), (1, iv i), (2, iv b)]) C dX3_effect_53 rfl (by rw [hN]; decide) rfl ?_
              refine n_goto C 5 dX3_effect_56 (by decide) ?_
              exact ih (k + 1) _ (by unfold effN; rw [if_neg (by omega)]; exact hf) (by omega) (by omega)
            · refine n_iload C dX3_effect_46 rfl ?_
              refine n_goto C 52 dX3_effect_48 (by decide) ?_
              refine n_istore_n (lv' := [(3, iv (k : Int)), (4, iv (k : Int)), (0, .ref o), (1, iv i), (2, iv b)]) C dX3_effect_52 (by rw [hN]; decide) rfl ?_
              refine n_iinc (lv' := [(4, iv ((k : Int) + 1)), (3, iv (k : Int)), (0, .ref o), (1, iv i), (2, iv b)]) C dX3_effect_53 rfl (by rw [hN]; decide) rfl ?_
              refine n_goto C 5 dX3_effect_56 (by decide) ?_
              exact ih (k + 1) _ (by unfold effN; rw [if_pos ⟨by omega, by omega, by omega⟩]) (by omega) (by omega)
  exact LP 25 0 _ rfl (by omega) (by omega)
set_option maxRecDepth 100000 in
set_option maxHeartbeats 4000000 in
theorem c_sets {g : Gx} (hst : g.1.stackTraces = false) {o : Nat} {ar : Nat → Nat} {β : Wd} {M c : Tb} (I : RI o ar) {σ : Wd} (hM : MW g.2.1 o ar β M σ) (hc : cut M = c) (hw : WF c) : CT g yX3_sets cX3_sets 2 none 0 0 0 [.ref o] σ (fun r σ' => ∃ M', r = none ∧ MW g.2.1 o ar β M' σ' ∧ cut M' = c ∧ (∀ j : Nat, j < c 0 0 → M' 19 j = c 5 j ∧ M' 20 j = c 5 j ∧ M' 21 j = -1) ∧ M' 26 0 = M 26 0) (fun _ _ => False) := by
  refine CT.of hst (by decide +kernel) (Nat.le_of_ble_eq_true rfl) (fun Φ C Rr hY hN => ?_)
  show N Φ 0 0 σ 0 [(0, .ref o)] []
  obtain ⟨w0, w6, w12, w13, w14, w15, w16, wm, wq, ww⟩ := id hw
  refine n_iconst (x := 0) C dX3_sets_0 ?_
  refine n_istore_n (lv' := [(1, iv 0), (0, .ref o)]) C dX3_sets_1 (by rw [hN]; decide) rfl ?_
  have LP : ∀ (fu : Nat) (k : Nat) (σ : Wd) (M1 : Tb) (hM : MW g.2.1 o ar β M1 σ) (hc : cut M1 = c) (h1 : k ≤ c 0 0) (h2 : c 0 0 + 1 ≤ k + fu) (h3 : (∀ j : Nat, j < k → M1 19 j = c 5 j ∧ M1 20 j = c 5 j ∧ M1 21 j = -1) ∧ M1 26 0 = M 26 0), N Φ 0 0 σ 2 [(1, iv (k : Int)), (0, .ref o)] [] := by
    intro fu
    induction fu with
    | zero =>
      intro k σ M1 hM hc h1 h2 h3
      omega
    | succ fu ih =>
      intro k σ M1 hM hc h1 h2 h3
      refine n_iload_n C dX3_sets_2 rfl ?_
      refine n_aload_n C dX3_sets_3 rfl ?_
      refine r_getc C hM hc 0 (by decide) w4_128 rfl rfl dX3_sets_4 ?_
      refine n_icmp_ge C 47 dX3_sets_7 (by decide) (by unfold rg; omega) (by unfold rg; omega) (fun b7 => ?_) (fun b7 => ?_)
      · exact n_return C Rr ⟨_, rfl, hM, hc, fun j hj => h3.1 j (by omega), h3.2⟩ (by omega) (by omega) dX3_sets_47
      · have w1 := wm k
        refine n_aload_n C dX3_sets_10 rfl ?_
        refine r_get C hM 19 (by decide) w4_147 rfl rfl dX3_sets_11 ?_
        refine n_iload_n C dX3_sets_14 rfl ?_
        refine n_aload_n C dX3_sets_15 rfl ?_
        refine r_get C hM 5 (by decide) w4_133 rfl rfl dX3_sets_16 ?_
        refine n_iload_n C dX3_sets_19 rfl ?_
        refine r_ialdc C hM hc 5 (by decide) rfl rfl k rfl (show _ < 6 by omega) dX3_sets_20 ?_
        refine r_iast C I hM 19 rfl rfl k rfl (show _ < 6 by omega) dX3_sets_21 (fun σ hM => ?_)
        replace hc : cut (tu M1 19 k (c 5 k)) = c := (cut_tu (by decide)).trans hc
        refine n_aload_n C dX3_sets_22 rfl ?_
        refine r_get C hM 20 (by decide) w4_148 rfl rfl dX3_sets_23 ?_
        refine n_iload_n C dX3_sets_26 rfl ?_
        refine n_aload_n C dX3_sets_27 rfl ?_
        refine r_get C hM 5 (by decide) w4_133 rfl rfl dX3_sets_28 ?_
        refine n_iload_n C dX3_sets_31 rfl ?_
        refine r_ialdc C hM hc 5 (by decide) rfl rfl k rfl (show _ < 6 by omega) dX3_sets_32 ?_
        refine r_iast C I hM 20 rfl rfl k rfl (show _ < 6 by omega) dX3_sets_33 (fun σ hM => ?_)
        replace hc : cut (tu (tu M1 19 k (c 5 k)) 20 k (c 5 k)) = c := (cut_tu (by decide)).trans hc
        refine n_aload_n C dX3_sets_34 rfl ?_
        refine r_get C hM 21 (by decide) w4_149 rfl rfl dX3_sets_35 ?_
        refine n_iload_n C dX3_sets_38 rfl ?_
        refine n_iconst (x := (-1)) C dX3_sets_39 ?_
        refine r_iast C I hM 21 rfl rfl k rfl (show _ < 6 by omega) dX3_sets_40 (fun σ hM => ?_)
        replace hc : cut (tu (tu (tu M1 19 k (c 5 k)) 20 k (c 5 k)) 21 k (-1)) = c := (cut_tu (by decide)).trans hc
        refine n_iinc (lv' := [(1, iv ((k : Int) + 1)), (0, .ref o)]) C dX3_sets_41 rfl (by rw [hN]; decide) rfl ?_
        refine n_goto C 2 dX3_sets_44 (by decide) ?_
        refine ih (k + 1) _ _ hM hc (by omega) (by omega) ⟨fun j hj => ?_, by rw [tu_k (by decide), tu_k (by decide), tu_k (by decide)]; exact h3.2⟩
        by_cases q : j = k
        · subst q
          exact ⟨by rw [tu_k (by decide), tu_k (by decide), tu_s], by rw [tu_k (by decide), tu_s], by rw [tu_s]⟩
        · have q2 := h3.1 j (by omega)
          exact ⟨by rw [tu_k (by decide), tu_k (by decide), tu_j q]; exact q2.1, by rw [tu_k (by decide), tu_j q, tu_k (by decide)]; exact q2.2.1, by rw [tu_j q, tu_k (by decide), tu_k (by decide)]; exact q2.2.2⟩
  exact LP 7 0 _ _ hM hc (by omega) (by omega) ⟨fun j hj => absurd hj (Nat.not_lt_zero j), rfl⟩
set_option maxRecDepth 100000 in
set_option maxHeartbeats 4000000 in
theorem c_moves {g : Gx} (hst : g.1.stackTraces = false) {o : Nat} {ar : Nat → Nat} {β : Wd} {M c : Tb} (I : RI o ar) {σ : Wd} (hM : MW g.2.1 o ar β M σ) (hc : cut M = c) (hw : WF c) {i : Nat} (hi : i < 6) (h19 : 0 ≤ M 19 i ∧ M 19 i ≤ 359) (h20 : 0 ≤ M 20 i ∧ M 20 i ≤ 359) : CT g yX3_moves cX3_moves 4 none 0 0 0 [.ref o, iv (i : Int)] σ (fun r σ' => ∃ M', r = none ∧ MW g.2.1 o ar β M' σ' ∧ cut M' = c ∧ M' = tu M 19 i (mv (c 1 i) (c 4 i) (M 19 i) (M 20 i))) (fun _ _ => False) := by
  refine CT.of hst (by decide +kernel) (Nat.le_of_ble_eq_true rfl) (fun Φ C Rr hY hN => ?_)
  show N Φ 0 0 σ 0 [(0, .ref o), (1, iv (i : Int))] []
  obtain ⟨w0, w6, w12, w13, w14, w15, w16, wm, wq, ww⟩ := id hw
  have w1 := wm i
  refine n_aload_n C dX3_moves_0 rfl ?_
  refine r_get C hM 20 (by decide) w4_148 rfl rfl dX3_moves_1 ?_
  refine n_iload_n C dX3_moves_4 rfl ?_
  refine r_iald C hM 20 rfl rfl i rfl (show _ < 6 by omega) dX3_moves_5 ?_
  refine n_aload_n C dX3_moves_6 rfl ?_
  refine r_get C hM 19 (by decide) w4_147 rfl rfl dX3_moves_7 ?_
  refine n_iload_n C dX3_moves_10 rfl ?_
  refine r_iald C hM 19 rfl rfl i rfl (show _ < 6 by omega) dX3_moves_11 ?_
  refine n_isub C dX3_moves_12 ?_
  refine n_istore_n (lv' := [(2, iv ((M 20 i) - (M 19 i))), (0, .ref o), (1, iv (i : Int))]) C dX3_moves_13 (by rw [hN]; decide) rfl ?_
  refine n_aload_n C dX3_moves_14 rfl ?_
  refine r_get C hM 1 (by decide) w4_129 rfl rfl dX3_moves_15 ?_
  refine n_iload_n C dX3_moves_18 rfl ?_
  refine r_zaldc C hM hc 1 (by decide) rfl rfl i rfl (show _ < 6 by omega) dX3_moves_19 ?_
  have J54 : ∀ (f1 : Int) (e1 : f1 = (if c 1 i = 0 then M 20 i - M 19 i else (let h := if M 20 i - M 19 i < 0 then M 20 i - M 19 i + 360 else M 20 i - M 19 i; if 180 < h then h - 360 else h))), N Φ 0 0 σ 54 [(0, .ref o), (1, iv (i : Int)), (2, iv f1)] [] := by
    intro f1 e1
    have b1 : -359 ≤ f1 ∧ f1 ≤ 359 := by rw [e1]; simp only []; split <;> (try split) <;> (try split) <;> omega
    have J82 : ∀ (f2 : Int) (e2 : f2 = if c 4 i < f1 then c 4 i else if f1 < -c 4 i then -c 4 i else f1), N Φ 0 0 σ 82 [(0, .ref o), (1, iv (i : Int)), (3, iv (c 4 i))] [iv f2] := by
      intro f2 e2
      have b2 : -10 ≤ f2 ∧ f2 ≤ 10 := by omega
      refine n_istore_n (lv' := [(2, iv f2), (0, .ref o), (1, iv (i : Int)), (3, iv (c 4 i))]) C dX3_moves_82 (by rw [hN]; decide) rfl ?_
      refine n_aload_n C dX3_moves_83 rfl ?_
      refine r_get C hM 19 (by decide) w4_147 rfl rfl dX3_moves_84 ?_
      refine n_iload_n C dX3_moves_87 rfl ?_
      refine n_dup2 C dX3_moves_88 rfl rfl ?_
      refine r_iald C hM 19 rfl rfl i rfl (show _ < 6 by omega) dX3_moves_89 ?_
      refine n_iload_n C dX3_moves_90 rfl ?_
      refine n_iadd C dX3_moves_91 ?_
      refine r_iast C I hM 19 rfl rfl i rfl (show _ < 6 by omega) dX3_moves_92 (fun σ hM => ?_)
      replace hc : cut (tu M 19 i ((M 19 i) + f2)) = c := (cut_tu (by decide)).trans hc
      refine n_aload_n C dX3_moves_93 rfl ?_
      refine r_get C hM 1 (by decide) w4_129 rfl rfl dX3_moves_94 ?_
      refine n_iload_n C dX3_moves_97 rfl ?_
      refine r_zaldc C hM hc 1 (by decide) rfl rfl i rfl (show _ < 6 by omega) dX3_moves_98 ?_
      refine n_if_eq C 122 dX3_moves_99 (by decide) (by unfold rg; omega) (fun b99 => ?_) (fun b99 => ?_)
      · exact n_return C Rr ⟨_, rfl, hM, hc, by unfold mv; simp only []; rw [← e1, ← e2, if_pos (by omega)]⟩ (by omega) (by omega) dX3_moves_122
      · refine n_aload_n C dX3_moves_102 rfl ?_
        refine r_get C hM 19 (by decide) w4_147 rfl rfl dX3_moves_103 ?_
        refine n_iload_n C dX3_moves_106 rfl ?_
        refine n_aload_n C dX3_moves_107 rfl ?_
        refine r_get C hM 19 (by decide) w4_147 rfl rfl dX3_moves_108 ?_
        refine n_iload_n C dX3_moves_111 rfl ?_
        refine r_iald C hM 19 rfl rfl i rfl (show _ < 6 by omega) dX3_moves_112 ?_
        rw [tu_s]
        refine n_sipush (x := 360) C dX3_moves_113 (by decide) ?_
        refine n_iadd C dX3_moves_116 ?_
        refine n_sipush (x := 360) C dX3_moves_117 (by decide) ?_
        refine n_iremP C dX3_moves_120 (by unfold rg; omega) (by unfold rg; omega) (by omega) (by omega) ?_
        refine r_iast C I hM 19 rfl rfl i rfl (show _ < 6 by omega) dX3_moves_121 (fun σ hM => ?_)
        replace hc : cut (tu (tu M 19 i ((M 19 i) + f2)) 19 i (((M 19 i + f2) + 360) % 360)) = c := (cut_tu (by decide)).trans hc
        rw [tu_tu] at hM hc
        exact n_return C Rr ⟨_, rfl, hM, hc, by unfold mv; simp only []; rw [← e1, ← e2, if_neg (by omega)]⟩ (by omega) (by omega) dX3_moves_122
    refine n_aload_n C dX3_moves_54 rfl ?_
    refine r_get C hM 4 (by decide) w4_132 rfl rfl dX3_moves_55 ?_
    refine n_iload_n C dX3_moves_58 rfl ?_
    refine r_ialdc C hM hc 4 (by decide) rfl rfl i rfl (show _ < 6 by omega) dX3_moves_59 ?_
    refine n_istore_n (lv' := [(3, iv (c 4 i)), (0, .ref o), (1, iv (i : Int)), (2, iv f1)]) C dX3_moves_60 (by rw [hN]; decide) rfl ?_
    refine n_iload_n C dX3_moves_61 rfl ?_
    refine n_iload_n C dX3_moves_62 rfl ?_
    refine n_icmp_le C 70 dX3_moves_63 (by decide) (by unfold rg; omega) (by unfold rg; omega) (fun b63 => ?_) (fun b63 => ?_)
    · refine n_iload_n C dX3_moves_70 rfl ?_
      refine n_iload_n C dX3_moves_71 rfl ?_
      refine n_ineg C dX3_moves_72 ?_
      refine n_icmp_ge C 81 dX3_moves_73 (by decide) (by unfold rg; omega) (by unfold rg; omega) (fun b73 => ?_) (fun b73 => ?_)
      · refine n_iload_n C dX3_moves_81 rfl ?_
        refine n_keep (lv' := [(0, .ref o), (1, iv (i : Int)), (3, iv (c 4 i))]) [0, 1, 3] rfl ?_
        exact J82 _ (by rw [if_neg (by omega), if_neg (by omega)])
      · refine n_iload_n C dX3_moves_76 rfl ?_
        refine n_ineg C dX3_moves_77 ?_
        refine n_goto C 82 dX3_moves_78 (by decide) ?_
        refine n_keep (lv' := [(0, .ref o), (1, iv (i : Int)), (3, iv (c 4 i))]) [0, 1, 3] rfl ?_
        exact J82 _ (by rw [if_neg (by omega), if_pos (by omega)])
    · refine n_iload_n C dX3_moves_66 rfl ?_
      refine n_goto C 82 dX3_moves_67 (by decide) ?_
      refine n_keep (lv' := [(0, .ref o), (1, iv (i : Int)), (3, iv (c 4 i))]) [0, 1, 3] rfl ?_
      exact J82 _ (by rw [if_pos (by omega)])
  refine n_if_eq C 54 dX3_moves_20 (by decide) (by unfold rg; omega) (fun b20 => ?_) (fun b20 => ?_)
  · refine n_keep (lv' := [(0, .ref o), (1, iv (i : Int)), (2, iv ((M 20 i) - (M 19 i)))]) [0, 1, 2] rfl ?_
    exact J54 _ (by rw [if_pos (by omega)])
  · refine n_iload_n C dX3_moves_23 rfl ?_
    refine n_if_ge C 35 dX3_moves_24 (by decide) (by unfold rg; omega) (fun b24 => ?_) (fun b24 => ?_)
    · refine n_iload_n C dX3_moves_35 rfl ?_
      refine n_istore_n (lv' := [(2, iv ((M 20 i) - (M 19 i))), (0, .ref o), (1, iv (i : Int))]) C dX3_moves_36 (by rw [hN]; decide) rfl ?_
      refine n_iload_n C dX3_moves_37 rfl ?_
      refine n_sipush (x := 180) C dX3_moves_38 (by decide) ?_
      refine n_icmp_le C 52 dX3_moves_41 (by decide) (by unfold rg; omega) (by unfold rg; omega) (fun b41 => ?_) (fun b41 => ?_)
      · refine n_iload_n C dX3_moves_52 rfl ?_
        refine n_istore_n (lv' := [(2, iv ((M 20 i) - (M 19 i))), (0, .ref o), (1, iv (i : Int))]) C dX3_moves_53 (by rw [hN]; decide) rfl ?_
        refine n_keep (lv' := [(0, .ref o), (1, iv (i : Int)), (2, iv ((M 20 i) - (M 19 i)))]) [0, 1, 2] rfl ?_
        exact J54 _ (by simp only []; (repeat' split) <;> omega)
      · refine n_iload_n C dX3_moves_44 rfl ?_
        refine n_sipush (x := 360) C dX3_moves_45 (by decide) ?_
        refine n_isub C dX3_moves_48 ?_
        refine n_goto C 53 dX3_moves_49 (by decide) ?_
        refine n_istore_n (lv' := [(2, iv (((M 20 i) - (M 19 i)) - 360)), (0, .ref o), (1, iv (i : Int))]) C dX3_moves_53 (by rw [hN]; decide) rfl ?_
        refine n_keep (lv' := [(0, .ref o), (1, iv (i : Int)), (2, iv (((M 20 i) - (M 19 i)) - 360))]) [0, 1, 2] rfl ?_
        exact J54 _ (by simp only []; (repeat' split) <;> omega)
    · refine n_iload_n C dX3_moves_27 rfl ?_
      refine n_sipush (x := 360) C dX3_moves_28 (by decide) ?_
      refine n_iadd C dX3_moves_31 ?_
      refine n_goto C 36 dX3_moves_32 (by decide) ?_
      refine n_istore_n (lv' := [(2, iv (((M 20 i) - (M 19 i)) + 360)), (0, .ref o), (1, iv (i : Int))]) C dX3_moves_36 (by rw [hN]; decide) rfl ?_
      refine n_iload_n C dX3_moves_37 rfl ?_
      refine n_sipush (x := 180) C dX3_moves_38 (by decide) ?_
      refine n_icmp_le C 52 dX3_moves_41 (by decide) (by unfold rg; omega) (by unfold rg; omega) (fun b41 => ?_) (fun b41 => ?_)
      · refine n_iload_n C dX3_moves_52 rfl ?_
        refine n_istore_n (lv' := [(2, iv (((M 20 i) - (M 19 i)) + 360)), (0, .ref o), (1, iv (i : Int))]) C dX3_moves_53 (by rw [hN]; decide) rfl ?_
        refine n_keep (lv' := [(0, .ref o), (1, iv (i : Int)), (2, iv (((M 20 i) - (M 19 i)) + 360))]) [0, 1, 2] rfl ?_
        exact J54 _ (by simp only []; (repeat' split) <;> omega)
      · refine n_iload_n C dX3_moves_44 rfl ?_
        refine n_sipush (x := 360) C dX3_moves_45 (by decide) ?_
        refine n_isub C dX3_moves_48 ?_
        refine n_goto C 53 dX3_moves_49 (by decide) ?_
        refine n_istore_n (lv' := [(2, iv ((((M 20 i) - (M 19 i)) + 360) - 360)), (0, .ref o), (1, iv (i : Int))]) C dX3_moves_53 (by rw [hN]; decide) rfl ?_
        refine n_keep (lv' := [(0, .ref o), (1, iv (i : Int)), (2, iv ((((M 20 i) - (M 19 i)) + 360) - 360))]) [0, 1, 2] rfl ?_
        exact J54 _ (by simp only []; (repeat' split) <;> omega)
