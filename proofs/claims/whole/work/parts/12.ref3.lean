section RS2
theorem mv_rg {tb sp a m : Int} (ha : 0 ≤ a ∧ a ≤ 359) (hm : 0 ≤ m ∧ m ≤ 359) (hs : 0 ≤ sp ∧ sp ≤ 10) : 0 ≤ mv tb sp a m ∧ mv tb sp a m ≤ 359 := by
  unfold mv
  simp only []
  by_cases h : tb = 0
  · simp only [if_pos h]
    (repeat' split) <;> omega
  · simp only [if_neg h]
    omega
theorem aim_rg {c : Tb} (hw : WF c) {i : Nat} {r : Int} : 0 ≤ aimOf c i r ∧ aimOf c i r ≤ 359 := by
  obtain ⟨-, -, -, -, -, -, -, wm, wq, -⟩ := hw
  unfold aimOf
  split
  · exact (wm i).2.2.2.2.2.2.1
  · exact (wq r.toNat).2.2.2.2.1
theorem tr_s (c : Tb) (L i t : Nat) : tr c L i (t + 1) = (mv (c 1 i) (c 4 i) (tr c L i t).1 (aimOf c i (if (if t % L = 0 then eff c i (t / L : Nat) else -1) = -1 then (tr c L i t).2 else (if t % L = 0 then eff c i (t / L : Nat) else -1))), if (if t % L = 0 then eff c i (t / L : Nat) else -1) = -1 then (tr c L i t).2 else (if t % L = 0 then eff c i (t / L : Nat) else -1)) := rfl
theorem tr_rg {c : Tb} (hw : WF c) (L i : Nat) : ∀ t : Nat, 0 ≤ (tr c L i t).1 ∧ (tr c L i t).1 ≤ 359
  | 0 => (hw.2.2.2.2.2.2.2.1 i).2.2.2.2.2.2.1
  | t + 1 => by
    rw [tr_s]
    exact mv_rg (tr_rg hw L i t) (aim_rg hw) (hw.2.2.2.2.2.2.2.1 i).2.2.2.2.1
theorem aim_n {c : Tb} {i : Nat} {e r : Int} (h : e = -1) : aimOf c i (if e = -1 then r else e) = aimOf c i r := by rw [if_pos h]
theorem aim_y {c : Tb} {i : Nat} {e r : Int} (h : e ≠ -1) : aimOf c i (if e = -1 then r else e) = c 9 e.toNat := by
  rw [if_neg h]
  exact if_neg h
/-- codes (0: it goes, else the place in the throws clause) and answers -/
def LL (c : Tb) : Nat := (lenB c (c 14 0)).toNat
def cdPlace (c : Tb) (a t : Int) : Int := if 0 ≤ a ∧ a < c 0 0 then (if 0 ≤ t ∧ t ≤ c 12 0 * lenB c (c 14 0) then 0 else 2) else 1
def cdBar (c : Tb) (a b : Int) : Int := if 0 ≤ a ∧ a < c 0 0 then (if 0 ≤ b ∧ b ≤ c 12 0 then 0 else 2) else 1
def vlPlace (c : Tb) (a t : Int) : Int := (tr c (LL c) a.toNat t.toNat).1
end RS2
set_option maxRecDepth 100000 in
set_option maxHeartbeats 4000000 in
theorem c_placeAt {g : Gx} (hst : g.1.stackTraces = false) {o : Nat} {ar : Nat → Nat} {β : Wd} {M c : Tb} (I : RI o ar) {σ : Wd} (hM : MW g.2.1 o ar β M σ) (hc : cut M = c) (hw : WF c) {i t : Nat} (hi : i < 6) (hi2 : i < c 0 0) (ht : t ≤ c 12 0 * lenB c (c 14 0)) (ht2 : c 12 0 * lenB c (c 14 0) ≤ 2400) : CT g yX3_placeAt cX3_placeAt 6 (some .int) 3 0 0 [.ref o, iv (i : Int), iv (t : Int)] σ (fun r σ' => ∃ M', r = some (iv (tr c (LL c) i t).1) ∧ MW g.2.1 o ar β M' σ' ∧ cut M' = c ∧ M' 26 0 = M 26 0) (fun _ _ => False) := by
  refine CT.of hst (by decide +kernel) (Nat.le_of_ble_eq_true rfl) (fun Φ C Rr hY hN => ?_)
  show N Φ 0 0 σ 0 [(0, .ref o), (1, iv (i : Int)), (2, iv (t : Int))] []
  obtain ⟨w0, w6, w12, w13, w14, w15, w16, wm, wq, ww⟩ := id hw
  obtain ⟨L, hL⟩ : ∃ L : Nat, lenB c (c 14 0) = L := ⟨(lenB c (c 14 0)).toNat, by have := lenB_rg hw (T := c 14 0) (by omega); omega⟩
  have hLr := lenB_rg hw (T := c 14 0) (by omega)
  rw [hL] at hLr ht ht2
  have hLL : LL c = L := by unfold LL; rw [hL, Int.toNat_natCast]
  refine n_aload_n C dX3_placeAt_0 rfl ?_
  refine n_aload_n C dX3_placeAt_1 rfl ?_
  refine r_getc C hM hc 14 (by decide) w4_142 rfl rfl dX3_placeAt_2 ?_
  refine n_invV C (c_lengthBy hst (by omega) I hM hc hw) ⟨w5_32, w5_35, w1_5, ⟨by decide, by decide⟩, by show _ = some 1; decide +kernel, by decide⟩ w5_34 wp_27 hM.1 (show vwCl[6]? = some ("OperaMachinesModel", TX3, 27) from rfl) (by decide) (by omega) (by omega) (Nat.le_of_ble_eq_true rfl) rfl dX3_placeAt_5 (fun r σ' h => ?_) (fun _ _ h => h.elim)
  obtain ⟨rfl, rfl⟩ := h
  rw [hL]
  refine n_istore_n (lv' := [(3, iv (L : Int)), (0, .ref o), (1, iv (i : Int)), (2, iv (t : Int))]) C dX3_placeAt_8 (by rw [hN]; decide) rfl ?_
  refine n_aload_n C dX3_placeAt_9 rfl ?_
  refine n_invV C (c_sets hst I hM hc hw) ⟨w5_48, w5_51, w1_5, ⟨by decide, by decide⟩, by show _ = some 0; decide +kernel, by decide⟩ w5_50 wp_29 hM.1 (show vwCl[6]? = some ("OperaMachinesModel", TX3, 27) from rfl) (by decide) (by omega) (by omega) (Nat.le_of_ble_eq_true rfl) rfl dX3_placeAt_10 (fun r σ h => ?_) (fun _ _ h => h.elim)
  obtain ⟨M1, rfl, hM, hc, hz, h26⟩ := h
  refine n_iconst (x := 0) C dX3_placeAt_13 ?_
  refine n_istore (lv' := [(4, iv 0), (3, iv (L : Int)), (0, .ref o), (1, iv (i : Int)), (2, iv (t : Int))]) C dX3_placeAt_14 (by rw [hN]; decide) rfl ?_
  have LP : ∀ (fu : Nat) (τ : Nat) (σ : Wd) (M1 : Tb) (hM : MW g.2.1 o ar β M1 σ) (hc : cut M1 = c) (h1 : τ ≤ t) (h2 : t + 1 ≤ τ + fu) (h19 : M1 19 i = (tr c L i τ).1) (h20 : M1 20 i = aimOf c i (tr c L i τ).2) (h26 : M1 26 0 = M 26 0), N Φ 0 0 σ 16 [(4, iv (τ : Int)), (3, iv (L : Int)), (0, .ref o), (1, iv (i : Int)), (2, iv (t : Int))] [] := by
    intro fu
    induction fu with
    | zero =>
      intro τ σ M1 hM hc h1 h2 h19 h20 h26
      omega
    | succ fu ih =>
      intro τ σ M1 hM hc h1 h2 h19 h20 h26
      have w1 := wm i
      have q0 := tr_rg hw L i τ
      have q1 := aim_rg hw (i := i) (r := (tr c L i τ).2)
      refine n_iload C dX3_placeAt_16 rfl ?_
      refine n_iload_n C dX3_placeAt_18 rfl ?_
      refine n_icmp_ge C 83 dX3_placeAt_19 (by decide) (by unfold rg; omega) (by unfold rg; omega) (fun b19 => ?_) (fun b19 => ?_)
      · have e1 : τ = t := by omega
        subst e1
        refine n_aload_n C dX3_placeAt_83 rfl ?_
        refine r_get C hM 19 (by decide) w4_147 rfl rfl dX3_placeAt_84 ?_
        refine n_iload_n C dX3_placeAt_87 rfl ?_
        refine r_iald C hM 19 rfl rfl i rfl (show _ < 6 by omega) dX3_placeAt_88 ?_
        exact n_ireturn C Rr rfl ⟨_, by rw [h19, hLL], hM, hc, h26⟩ (by omega) (by omega) dX3_placeAt_89
      · have hdv : τ / L < 30 := by
          have z : τ < 30 * L := by
            have : c 12 0 * (L : Int) ≤ 30 * (L : Int) := Int.mul_le_mul_of_nonneg_right (by omega) (by omega)
            omega
          exact Nat.div_lt_of_lt_mul (by rw [Nat.mul_comm]; exact z)
        have hdI : (0 : Int) ≤ ((τ / L : Nat) : Int) ∧ ((τ / L : Nat) : Int) ≤ 30 := ⟨Int.natCast_nonneg _, Int.ofNat_le.mpr (Nat.le_of_lt hdv)⟩
        have J42 : ∀ (e : Int) (e1 : e = if τ % L = 0 then eff c i (τ / L : Nat) else -1), N Φ 0 0 σ 42 [(4, iv (τ : Int)), (3, iv (L : Int)), (0, .ref o), (1, iv (i : Int)), (2, iv (t : Int))] [iv e] := by
          intro e e1
          have e2 : -1 ≤ e ∧ e < 24 := by
            rw [e1]
            split
            · have := eff_rg c i (τ / L : Nat) (c 6 0).toNat (by omega)
              unfold eff; omega
            · omega
          refine n_istore (lv' := [(5, iv e), (4, iv (τ : Int)), (3, iv (L : Int)), (0, .ref o), (1, iv (i : Int)), (2, iv (t : Int))]) C dX3_placeAt_42 (by rw [hN]; decide) rfl ?_
          refine n_aload_n C dX3_placeAt_44 rfl ?_
          refine r_get C hM 20 (by decide) w4_148 rfl rfl dX3_placeAt_45 ?_
          refine n_iload_n C dX3_placeAt_48 rfl ?_
          refine n_iload C dX3_placeAt_49 rfl ?_
          refine n_iconst (x := (-1)) C dX3_placeAt_51 ?_
          refine n_icmp_ne C 64 dX3_placeAt_52 (by decide) (by unfold rg; omega) (by unfold rg; omega) (fun b52 => ?_) (fun b52 => ?_)
          · refine n_aload_n C dX3_placeAt_64 rfl ?_
            refine r_get C hM 9 (by decide) w4_137 rfl rfl dX3_placeAt_65 ?_
            refine n_iload C dX3_placeAt_68 rfl ?_
            refine r_ialdc C hM hc 9 (by decide) rfl rfl ((e).toNat) (by omega) (show _ < 24 by omega) dX3_placeAt_70 ?_
            refine r_iast C I hM 20 rfl rfl i rfl (show _ < 6 by omega) dX3_placeAt_71 (fun σ hM => ?_)
            replace hc : cut (tu M1 20 i (c 9 ((e).toNat))) = c := (cut_tu (by decide)).trans hc
            refine n_aload_n C dX3_placeAt_72 rfl ?_
            refine n_iload_n C dX3_placeAt_73 rfl ?_
            refine n_invV C (c_moves hst I hM hc hw hi (by rw [tu_k (by decide)]; omega) (by rw [tu_s]; exact (wq e.toNat).2.2.2.2.1)) ⟨w5_56, w5_59, w1_5, ⟨by decide, by decide⟩, by show _ = some 1; decide +kernel, by decide⟩ w5_58 wp_31 hM.1 (show vwCl[6]? = some ("OperaMachinesModel", TX3, 27) from rfl) (by decide) (by omega) (by omega) (Nat.le_of_ble_eq_true rfl) rfl dX3_placeAt_74 (fun r σ h => ?_) (fun _ _ h => h.elim)
            obtain ⟨M3, rfl, hM, hc, rfl⟩ := h
            rw [tu_s, tu_k (show (19 : Nat) ≠ 20 by decide)] at hM hc
            refine n_iinc (lv' := [(4, iv ((τ : Int) + 1)), (5, iv e), (3, iv (L : Int)), (0, .ref o), (1, iv (i : Int)), (2, iv (t : Int))]) C dX3_placeAt_77 rfl (by rw [hN]; decide) rfl ?_
            refine n_goto C 16 dX3_placeAt_80 (by decide) ?_
            refine n_keep (lv' := [(4, iv ((τ : Int) + 1)), (3, iv (L : Int)), (0, .ref o), (1, iv (i : Int)), (2, iv (t : Int))]) [4, 3, 0, 1, 2] rfl ?_
            refine ih (τ + 1) _ _ hM hc (by omega) (by omega) ?_ ?_ (by rw [tu_k (by decide), tu_k (by decide)]; exact h26)
            · rw [tu_s, tr_s, ← e1, aim_y (by omega), h19]
            · rw [tu_k (by decide), tu_s, tr_s, ← e1]
              show _ = aimOf c i (if e = -1 then _ else e)
              rw [aim_y (by omega)]
          · refine n_aload_n C dX3_placeAt_55 rfl ?_
            refine r_get C hM 20 (by decide) w4_148 rfl rfl dX3_placeAt_56 ?_
            refine n_iload_n C dX3_placeAt_59 rfl ?_
            refine r_iald C hM 20 rfl rfl i rfl (show _ < 6 by omega) dX3_placeAt_60 ?_
            refine n_goto C 71 dX3_placeAt_61 (by decide) ?_
            refine r_iast C I hM 20 rfl rfl i rfl (show _ < 6 by omega) dX3_placeAt_71 (fun σ hM => ?_)
            replace hc : cut (tu M1 20 i (M1 20 i)) = c := (cut_tu (by decide)).trans hc
            refine n_aload_n C dX3_placeAt_72 rfl ?_
            refine n_iload_n C dX3_placeAt_73 rfl ?_
            refine n_invV C (c_moves hst I hM hc hw hi (by rw [tu_k (by decide)]; omega) (by rw [tu_s]; omega)) ⟨w5_56, w5_59, w1_5, ⟨by decide, by decide⟩, by show _ = some 1; decide +kernel, by decide⟩ w5_58 wp_31 hM.1 (show vwCl[6]? = some ("OperaMachinesModel", TX3, 27) from rfl) (by decide) (by omega) (by omega) (Nat.le_of_ble_eq_true rfl) rfl dX3_placeAt_74 (fun r σ h => ?_) (fun _ _ h => h.elim)
            obtain ⟨M3, rfl, hM, hc, rfl⟩ := h
            rw [tu_s, tu_k (show (19 : Nat) ≠ 20 by decide)] at hM hc
            refine n_iinc (lv' := [(4, iv ((τ : Int) + 1)), (5, iv e), (3, iv (L : Int)), (0, .ref o), (1, iv (i : Int)), (2, iv (t : Int))]) C dX3_placeAt_77 rfl (by rw [hN]; decide) rfl ?_
            refine n_goto C 16 dX3_placeAt_80 (by decide) ?_
            refine n_keep (lv' := [(4, iv ((τ : Int) + 1)), (3, iv (L : Int)), (0, .ref o), (1, iv (i : Int)), (2, iv (t : Int))]) [4, 3, 0, 1, 2] rfl ?_
            refine ih (τ + 1) _ _ hM hc (by omega) (by omega) ?_ ?_ (by rw [tu_k (by decide), tu_k (by decide)]; exact h26)
            · rw [tu_s, tr_s, ← e1, aim_n (by omega), h19, h20]
            · rw [tu_k (by decide), tu_s, tr_s, ← e1]
              show _ = aimOf c i (if e = -1 then _ else e)
              rw [aim_n (by omega), h20]
        refine n_iload C dX3_placeAt_22 rfl ?_
        refine n_iload_n C dX3_placeAt_24 rfl ?_
        refine n_iremP C dX3_placeAt_25 (by unfold rg; omega) (by unfold rg; omega) (by omega) (by omega) ?_
        have hm0 : ((τ : Int) % (L : Int)) = ((τ % L : Nat) : Int) := rfl
        have hm1 : τ % L < L := Nat.mod_lt _ (by omega)
        rw [hm0]
        refine n_if_ne C 41 dX3_placeAt_26 (by decide) (by unfold rg; omega) (fun b26 => ?_) (fun b26 => ?_)
        · have hm : ¬ τ % L = 0 := by omega
          refine n_iconst (x := (-1)) C dX3_placeAt_41 ?_
          exact J42 _ (by rw [if_neg hm])
        · have hm : τ % L = 0 := by omega
          refine n_aload_n C dX3_placeAt_29 rfl ?_
          refine n_iload_n C dX3_placeAt_30 rfl ?_
          refine n_iload C dX3_placeAt_31 rfl ?_
          refine n_iload_n C dX3_placeAt_33 rfl ?_
          refine n_idivP C dX3_placeAt_34 (by unfold rg; omega) (by unfold rg; omega) (by omega) (by omega) ?_
          refine n_invV C (c_effect (b := ((τ / L : Nat) : Int)) hst (by omega) hdI I hM hc hw) ⟨w5_52, w5_55, w1_5, ⟨by decide, by decide⟩, by show _ = some 2; decide +kernel, by decide⟩ w5_54 wp_30 hM.1 (show vwCl[6]? = some ("OperaMachinesModel", TX3, 27) from rfl) (by decide) (by omega) (by omega) (Nat.le_of_ble_eq_true rfl) rfl dX3_placeAt_35 (fun r σ' h => ?_) (fun _ _ h => h.elim)
          obtain ⟨rfl, rfl⟩ := h
          refine n_goto C 42 dX3_placeAt_38 (by decide) ?_
          exact J42 _ (by rw [if_pos hm])
  exact LP (t + 1) 0 _ _ hM hc (by omega) (by omega) (hz i (by omega)).1 (by rw [(hz i (by omega)).2.1]; rfl) h26
