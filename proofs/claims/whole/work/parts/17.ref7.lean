section RS7
/-- what a play leaves: meeting, pair, and of each cue how long it was worked on -/
def PL (c : Tb) (L : Nat) (M : Tb) : Prop := M 24 0 = (mtP c L ((c 12 0).toNat * L + 1)).1 ∧ M 25 0 = (mtP c L ((c 12 0).toNat * L + 1)).2 ∧
  (∀ q : Nat, (q : Int) < c 6 0 → M 23 q = M 22 q + cnt c L q ((c 12 0).toNat * L) ∧ (cnt c L q ((c 12 0).toNat * L) ≠ 0 → M 22 q = c 7 q * L)) ∧
  (∀ q : Nat, q < 24 → (0 ≤ M 22 q ∧ M 22 q ≤ 2400) ∧ (0 ≤ M 23 q ∧ M 23 q ≤ 2400))
theorem mtP_rg {c : Tb} (L : Nat) (h0 : c 0 0 ≤ 6) : ∀ t : Nat, (-1 ≤ (mtP c L t).1 ∧ (mtP c L t).1 ≤ t) ∧ -1 ≤ (mtP c L t).2 ∧ (mtP c L t).2 ≤ 100
  | 0 => by unfold mtP; omega
  | t + 1 => by
    have h := mtP_rg L h0 t
    have h2 := lpK_rg (c := c) (P := fun k => (tr c L k t).1) h0 h.2 (c 0 0).toNat (by omega)
    unfold mtP
    refine ⟨?_, h2⟩
    show -1 ≤ (if _ then _ else _) ∧ (if _ then _ else _) ≤ _
    split <;> omega
end RS7
set_option maxRecDepth 100000 in
set_option maxHeartbeats 4000000 in
theorem c_plays {g : Gx} (hst : g.1.stackTraces = false) {o : Nat} {ar : Nat → Nat} {β : Wd} {M c : Tb} (I : RI o ar) {σ : Wd} (hM : MW g.2.1 o ar β M σ) (hc : cut M = c) (hw : WF c) {T : Int} (hT : 50 ≤ T ∧ T ≤ 200) : CT g yX3_plays cX3_plays 6 none 3 0 0 [.ref o, iv T] σ (fun r σ' => ∃ M', r = none ∧ MW g.2.1 o ar β M' σ' ∧ cut M' = c ∧ M' 26 0 = M 26 0 ∧ PL c (lenB c T).toNat M') (fun _ _ => False) := by
  refine CT.of hst (by decide +kernel) (Nat.le_of_ble_eq_true rfl) (fun Φ C Rr hY hN => ?_)
  show N Φ 0 0 σ 0 [(0, .ref o), (1, iv T)] []
  obtain ⟨w0, w6, w12, w13, w14, w15, w16, wm, wq, ww⟩ := id hw
  have hLr := lenB_rg hw (T := T) (by omega)
  obtain ⟨L, hL⟩ : ∃ L : Nat, lenB c T = L := ⟨(lenB c T).toNat, by omega⟩
  have hLt : (lenB c T).toNat = L := by omega
  rw [hLt] at Rr
  rw [hL] at hLr
  obtain ⟨B, hB⟩ : ∃ B : Nat, c 12 0 = B := ⟨(c 12 0).toNat, by omega⟩
  have hBt : (c 12 0).toNat = B := by omega
  obtain ⟨E, hE⟩ : ∃ E : Nat, B * L = E := ⟨_, rfl⟩
  have hEI : c 12 0 * (L : Int) = (E : Int) := by rw [hB, ← Int.natCast_mul, hE]
  have hE2 : E ≤ 2400 := by
    have z1 : c 12 0 * (L : Int) ≤ 30 * (L : Int) := Int.mul_le_mul_of_nonneg_right (by omega) (by omega)
    omega
  have hPLE : (c 12 0).toNat * L = E := by rw [hBt, hE]
  refine n_aload_n C dX3_plays_0 rfl ?_
  refine n_iload_n C dX3_plays_1 rfl ?_
  refine n_invV C (c_lengthBy hst hT I hM hc hw) ⟨w5_32, w5_35, w1_5, ⟨by decide, by decide⟩, by show _ = some 1; decide +kernel, by decide⟩ w5_34 wp_27 hM.1 (show vwCl[6]? = some ("OperaMachinesModel", TX3, 27) from rfl) (by decide) (by omega) (by omega) (Nat.le_of_ble_eq_true rfl) rfl dX3_plays_2 (fun r σ' h => ?_) (fun _ _ h => h.elim)
  obtain ⟨rfl, rfl⟩ := h
  rw [hL]
  refine n_istore_n (lv' := [(2, iv (L : Int)), (0, .ref o), (1, iv T)]) C dX3_plays_5 (by rw [hN]; decide) rfl ?_
  refine n_aload_n C dX3_plays_6 rfl ?_
  refine r_getc C hM hc 12 (by decide) w4_140 rfl rfl dX3_plays_7 ?_
  refine n_iload_n C dX3_plays_10 rfl ?_
  refine n_imul C dX3_plays_11 ?_
  rw [hEI]
  refine n_istore_n (lv' := [(3, iv (E : Int)), (2, iv (L : Int)), (0, .ref o), (1, iv T)]) C dX3_plays_12 (by rw [hN]; decide) rfl ?_
  refine n_aload_n C dX3_plays_13 rfl ?_
  refine n_invV C (c_sets hst I hM hc hw) ⟨w5_48, w5_51, w1_5, ⟨by decide, by decide⟩, by show _ = some 0; decide +kernel, by decide⟩ w5_50 wp_29 hM.1 (show vwCl[6]? = some ("OperaMachinesModel", TX3, 27) from rfl) (by decide) (by omega) (by omega) (Nat.le_of_ble_eq_true rfl) rfl dX3_plays_14 (fun r σ h => ?_) (fun _ _ h => h.elim)
  obtain ⟨M1, rfl, hM, hc, hz, h26⟩ := h
  refine n_aload_n C dX3_plays_17 rfl ?_
  refine n_iconst (x := (-1)) C dX3_plays_18 ?_
  refine r_put C I hM 24 (by decide) rfl w4_152 rfl rfl rfl rfl dX3_plays_19 (fun σ hM => ?_)
  replace hc : cut (tu M1 24 0 (-1)) = c := (cut_tu (by decide)).trans hc
  refine n_aload_n C dX3_plays_22 rfl ?_
  refine n_iconst (x := (-1)) C dX3_plays_23 ?_
  refine r_put C I hM 25 (by decide) rfl w4_153 rfl rfl rfl rfl dX3_plays_24 (fun σ hM => ?_)
  replace hc : cut (tu (tu M1 24 0 (-1)) 25 0 (-1)) = c := (cut_tu (by decide)).trans hc
  refine n_iconst (x := 0) C dX3_plays_27 ?_
  refine n_istore (lv' := [(4, iv 0), (3, iv (E : Int)), (2, iv (L : Int)), (0, .ref o), (1, iv T)]) C dX3_plays_28 (by rw [hN]; decide) rfl ?_
  have LP : ∀ (fu : Nat) (k : Nat) (σ : Wd) (M1 : Tb) (hM : MW g.2.1 o ar β M1 σ) (hc : cut M1 = c) (hz : ∀ j : Nat, j < c 0 0 → M1 19 j = c 5 j ∧ M1 20 j = c 5 j ∧ M1 21 j = -1) (h24 : M1 24 0 = -1) (h25 : M1 25 0 = -1) (h26 : M1 26 0 = M 26 0) (h0 : ∀ q : Nat, q < k → M1 22 q = 0 ∧ M1 23 q = 0) (h1 : k ≤ 24) (h2 : 25 ≤ k + fu), N Φ 0 0 σ 30 [(4, iv (k : Int)), (3, iv (E : Int)), (2, iv (L : Int)), (0, .ref o), (1, iv T)] [] := by
    intro fu
    induction fu with
    | zero =>
      intro k σ M1 hM hc hz h24 h25 h26 h0 h1 h2
      omega
    | succ fu ih =>
      intro k σ M1 hM hc hz h24 h25 h26 h0 h1 h2
      refine n_iload C dX3_plays_30 rfl ?_
      refine n_bipush (x := 24) C dX3_plays_32 (by decide) ?_
      refine n_icmp_ge C 59 dX3_plays_34 (by decide) (by unfold rg; omega) (by unfold rg; omega) (fun b34 => ?_) (fun b34 => ?_)
      · refine n_iconst (x := 0) C dX3_plays_59 ?_
        refine n_istore (lv' := [(4, iv 0), (3, iv (E : Int)), (2, iv (L : Int)), (0, .ref o), (1, iv T)]) C dX3_plays_60 (by rw [hN]; decide) rfl ?_
        refine n_keep (lv' := [(4, iv 0), (3, iv (E : Int)), (2, iv (L : Int)), (0, .ref o), (1, iv T)]) [4, 3, 2, 0, 1] rfl ?_
        have LP2 : ∀ (fuX : Nat) (τ : Nat) (σ : Wd) (M1 : Tb) (hM : MW g.2.1 o ar β M1 σ) (hc : cut M1 = c) (hG : ∀ k : Nat, (k : Int) < c 0 0 → GK c L τ (tr c L k τ).2 M1 k) (h24 : M1 24 0 = (mtP c L τ).1) (h25 : M1 25 0 = (mtP c L τ).2) (h26 : M1 26 0 = M 26 0) (hb : ∀ q : Nat, q < 24 → (0 ≤ M1 22 q ∧ M1 22 q ≤ τ) ∧ (0 ≤ M1 23 q ∧ M1 23 q ≤ τ)) (h1 : τ ≤ E) (h2 : E + 1 ≤ τ + fuX), N Φ 0 0 σ 62 [(4, iv (τ : Int)), (3, iv (E : Int)), (2, iv (L : Int)), (0, .ref o), (1, iv T)] [] := by
          intro fuX
          induction fuX with
          | zero =>
            intro τ σ M1 hM hc hG h24 h25 h26 hb h1 h2
            omega
          | succ fuX ih2 =>
            intro τ σ M1 hM hc hG h24 h25 h26 hb h1 h2
            have mr := mtP_rg (c := c) L w0.2 τ
            refine n_iload C dX3_plays_62 rfl ?_
            refine n_iload_n C dX3_plays_64 rfl ?_
            refine n_icmp_ge C 111 dX3_plays_65 (by decide) (by unfold rg; omega) (by unfold rg; omega) (fun b65 => ?_) (fun b65 => ?_)
            · have eτ : τ = E := by omega
              subst eτ
              refine n_aload_n C dX3_plays_111 rfl ?_
              refine n_iload_n C dX3_plays_112 rfl ?_
              refine n_invV C (c_meetsAt hst I hM hc hw (by omega) (by omega) (fun k hk => by rw [(hG k hk).1]; exact tr_rg hw L k _)) ⟨w5_76, w5_79, w1_5, ⟨by decide, by decide⟩, by show _ = some 1; decide +kernel, by decide⟩ w5_78 wp_34 hM.1 (show vwCl[6]? = some ("OperaMachinesModel", TX3, 27) from rfl) (by decide) (by omega) (by omega) (Nat.le_of_ble_eq_true rfl) rfl dX3_plays_113 (fun r σ h => ?_) (fun _ _ h => h.elim)
              obtain ⟨M2, rfl, hM, hc, hs, g25, g24⟩ := h
              have eP := lpK_congr (c := c) (P := M1 19) (P' := fun k => (tr c L k τ).1) (M1 25 0) (fun k hk => (hG k hk).1) (c 0 0).toNat (by omega)
              rw [eP, h25] at g25 g24
              have hG2 : ∀ k : Nat, (k : Int) < c 0 0 → GK c L τ (tr c L k τ).2 M2 k := fun k hk => GK_eq (hG k hk) (hs _ _ (by decide) (by decide)) (hs _ _ (by decide) (by decide)) (hs _ _ (by decide) (by decide)) (fun q _ => ⟨hs _ _ (by decide) (by decide), hs _ _ (by decide) (by decide)⟩)
              have hb2 : ∀ q : Nat, q < 24 → (0 ≤ M2 22 q ∧ M2 22 q ≤ τ) ∧ (0 ≤ M2 23 q ∧ M2 23 q ≤ τ) := fun q hq => by rw [hs 22 q (by decide) (by decide), hs 23 q (by decide) (by decide)]; exact hb q hq
              have k26 : M2 26 0 = M 26 0 := (hs _ _ (by decide) (by decide)).trans h26
              have k24 : M2 24 0 = (mtP c L (τ + 1)).1 := by rw [g24, h24]; rfl
              have k25 : M2 25 0 = (mtP c L (τ + 1)).2 := g25
              refine n_iconst (x := 0) C dX3_plays_116 ?_
              refine n_istore (lv' := [(4, iv 0), (3, iv (τ : Int)), (2, iv (L : Int)), (0, .ref o), (1, iv T)]) C dX3_plays_117 (by rw [hN]; decide) rfl ?_
              have LP4 : ∀ (fuZ : Nat) (k : Nat) (σ : Wd) (M5 : Tb) (hM : MW g.2.1 o ar β M5 σ) (hc : cut M5 = c) (k5 : M5 26 0 = M 26 0) (k24' : M5 24 0 = (mtP c L (τ + 1)).1) (k25' : M5 25 0 = (mtP c L (τ + 1)).2) (hb5 : ∀ q : Nat, q < 24 → (0 ≤ M5 22 q ∧ M5 22 q ≤ τ) ∧ (0 ≤ M5 23 q ∧ M5 23 q ≤ τ)) (hG5 : ∀ z : Nat, k ≤ z → (z : Int) < c 0 0 → GK c L τ (tr c L z τ).2 M5 z) (hF : ∀ q : Nat, (q : Int) < c 6 0 → c 8 q < k → M5 23 q = M5 22 q + cnt c L q τ ∧ (cnt c L q τ ≠ 0 → M5 22 q = c 7 q * L)) (h1 : k ≤ c 0 0) (h2 : c 0 0 + 1 ≤ k + fuZ), N Φ 0 0 σ 119 [(4, iv (k : Int)), (3, iv (τ : Int)), (2, iv (L : Int)), (0, .ref o), (1, iv T)] [] := by
                intro fuZ
                induction fuZ with
                | zero =>
                  intro k σ M5 hM hc k5 k24' k25' hb5 hG5 hF h1 h2
                  omega
                | succ fuZ ih3 =>
                  intro k σ M5 hM hc k5 k24' k25' hb5 hG5 hF h1 h2
                  have p21 : ∀ z : Nat, (z : Int) < c 0 0 → k ≤ z → -1 ≤ M5 21 z ∧ M5 21 z < 24 := fun z hz hk => GK_21 w6.2 (hG5 z hk hz)
                  refine n_iload C dX3_plays_119 rfl ?_
                  refine n_aload_n C dX3_plays_121 rfl ?_
                  refine r_getc C hM hc 0 (by decide) w4_128 rfl rfl dX3_plays_122 ?_
                  refine n_icmp_ge C 158 dX3_plays_125 (by decide) (by unfold rg; omega) (by unfold rg; omega) (fun b125 => ?_) (fun b125 => ?_)
                  · exact n_return C Rr ⟨_, rfl, hM, hc, k5, by unfold PL; rw [hPLE]; exact ⟨k24', k25', fun q hq => hF q hq (by have := (wq q).2.2.2.1 hq; omega), fun q hq => by have := hb5 q hq; omega⟩⟩ (by omega) (by omega) dX3_plays_158
                  · have gk := hG5 k (Nat.le_refl k) (by omega)
                    have gk21 := GK_21 w6.2 gk
                    refine n_aload_n C dX3_plays_128 rfl ?_
                    refine r_get C hM 21 (by decide) w4_149 rfl rfl dX3_plays_129 ?_
                    refine n_iload C dX3_plays_132 rfl ?_
                    refine r_iald C hM 21 rfl rfl k rfl (show _ < 6 by omega) dX3_plays_134 ?_
                    refine n_iconst (x := (-1)) C dX3_plays_135 ?_
                    refine n_icmp_eq C 152 dX3_plays_136 (by decide) (by unfold rg; omega) (by unfold rg; omega) (fun b136 => ?_) (fun b136 => ?_)
                    · refine n_iinc (lv' := [(4, iv ((k : Int) + 1)), (3, iv (τ : Int)), (2, iv (L : Int)), (0, .ref o), (1, iv T)]) C dX3_plays_152 rfl (by rw [hN]; decide) rfl ?_
                      refine n_goto C 119 dX3_plays_155 (by decide) ?_
                      refine n_keep (lv' := [(4, iv ((k : Int) + 1)), (3, iv (τ : Int)), (2, iv (L : Int)), (0, .ref o), (1, iv T)]) [4, 3, 2, 0, 1] rfl ?_
                      exact ih3 (k + 1) _ _ hM hc k5 k24' k25' hb5 (fun z hz hz2 => hG5 z (by omega) hz2) (fun q hq hk => by
                        by_cases z : c 8 q = k
                        · have h5 := gk.2.2.2 q hq z (by omega)
                          exact ⟨h5.1, h5.2.1⟩
                        · exact hF q hq (by omega)) (by omega) (by omega)
                    · obtain ⟨q0, g1, g2, g3, g4, g5, g6⟩ := gk.2.2.1.resolve_left b136
                      have g1t : (M5 21 k).toNat = q0 := by omega
                      refine n_aload_n C dX3_plays_139 rfl ?_
                      refine r_get C hM 23 (by decide) w4_151 rfl rfl dX3_plays_140 ?_
                      refine n_aload_n C dX3_plays_143 rfl ?_
                      refine r_get C hM 21 (by decide) w4_149 rfl rfl dX3_plays_144 ?_
                      refine n_iload C dX3_plays_147 rfl ?_
                      refine r_iald C hM 21 rfl rfl k rfl (show _ < 6 by omega) dX3_plays_149 ?_
                      refine n_iload_n C dX3_plays_150 rfl ?_
                      refine r_iast C I hM 23 rfl rfl (((M5 21 k)).toNat) (by omega) (show _ < 24 by omega) dX3_plays_151 (fun σ hM => ?_)
                      replace hc : cut (tu M5 23 (((M5 21 k)).toNat) (τ : Int)) = c := (cut_tu (by decide)).trans hc
                      refine n_iinc (lv' := [(4, iv ((k : Int) + 1)), (3, iv (τ : Int)), (2, iv (L : Int)), (0, .ref o), (1, iv T)]) C dX3_plays_152 rfl (by rw [hN]; decide) rfl ?_
                      refine n_goto C 119 dX3_plays_155 (by decide) ?_
                      refine n_keep (lv' := [(4, iv ((k : Int) + 1)), (3, iv (τ : Int)), (2, iv (L : Int)), (0, .ref o), (1, iv T)]) [4, 3, 2, 0, 1] rfl ?_
                      rw [g1t] at hM hc
                      refine ih3 (k + 1) _ _ hM hc (by rw [tu_k (by decide)]; exact k5) (by rw [tu_k (by decide)]; exact k24') (by rw [tu_k (by decide)]; exact k25') (fun q hq => ?_) (fun z hz hz2 => ?_) (fun q hq hk => ?_) (by omega) (by omega)
                      · rw [tu_k (a := 22) (by decide)]
                        by_cases z : q = q0
                        · subst z
                          rw [tu_s]
                          have := hb5 q hq
                          omega
                        · rw [tu_j z]
                          exact hb5 q hq
                      · refine GK_eq (hG5 z (by omega) hz2) (tu_k (by decide)) (tu_k (by decide)) (tu_k (by decide)) (fun q hq => ⟨tu_k (by decide), tu_j (fun y => ?_)⟩)
                        subst y
                        omega
                      · rw [tu_k (a := 22) (by decide)]
                        by_cases z : q = q0
                        · subst z
                          rw [tu_s]
                          exact ⟨g6, fun _ => g5⟩
                        · rw [tu_j z]
                          by_cases y : c 8 q = k
                          · have h5 := gk.2.2.2 q hq y (by omega)
                            exact ⟨h5.1, h5.2.1⟩
                          · exact hF q hq (by omega)
              exact LP4 7 0 _ _ hM hc k26 k24 k25 hb2 (fun z _ hz => hG2 z hz) (fun q hq hk => absurd hk (by have := (wq q).2.2.1; omega)) (by omega) (by omega)
            · have hdv : τ / L < 30 := by
                have z : τ < 30 * L := by
                  have z1 : B * L ≤ 30 * L := Nat.mul_le_mul_right L (by omega)
                  omega
                exact Nat.div_lt_of_lt_mul (by rw [Nat.mul_comm]; exact z)
              have hdI : (0 : Int) ≤ ((τ / L : Nat) : Int) ∧ ((τ / L : Nat) : Int) ≤ 30 := ⟨Int.natCast_nonneg _, Int.ofNat_le.mpr (Nat.le_of_lt hdv)⟩
              have hLpos : 0 < L := by omega
              refine n_aload_n C dX3_plays_68 rfl ?_
              refine n_iload C dX3_plays_69 rfl ?_
              refine n_iload_n C dX3_plays_71 rfl ?_
              refine n_invV C (c_looks hst I hM hc hw (by omega) (by omega) (by omega) hdI hG) ⟨w5_72, w5_75, w1_5, ⟨by decide, by decide⟩, by show _ = some 2; decide +kernel, by decide⟩ w5_74 wp_33 hM.1 (show vwCl[6]? = some ("OperaMachinesModel", TX3, 27) from rfl) (by decide) (by omega) (by omega) (Nat.le_of_ble_eq_true rfl) rfl dX3_plays_72 (fun r σ h => ?_) (fun _ _ h => h.elim)
              obtain ⟨M2, rfl, hM, hc, e2⟩ := h
              obtain ⟨i1, -, i3, i4⟩ := lookN_ok (t := τ) hLpos w6.2 hG (c 0 0).toNat (by omega)
              rw [← e2] at i1 i3 i4
              have j25 : M2 25 0 = (mtP c L τ).2 := (i3 25 0 (by omega)).trans h25
              have j24 : M2 24 0 = (mtP c L τ).1 := (i3 24 0 (by omega)).trans h24
              have j26 : M2 26 0 = M 26 0 := (i3 26 0 (by omega)).trans h26
              have j19 : ∀ k : Nat, (k : Int) < c 0 0 → M2 19 k = (tr c L k τ).1 := fun k hk => (i3 19 k (by omega)).trans (hG k hk).1
              have jb : ∀ q : Nat, q < 24 → (0 ≤ M2 22 q ∧ M2 22 q ≤ τ) ∧ (0 ≤ M2 23 q ∧ M2 23 q ≤ τ) := fun q hq => by
                have z := hb q hq
                rcases (i4 q).1 with y | y <;> rcases (i4 q).2 with x | x <;> omega
              refine n_aload_n C dX3_plays_75 rfl ?_
              refine n_iload C dX3_plays_76 rfl ?_
              refine n_invV C (c_meetsAt hst I hM hc hw (by omega) (by omega) (fun k hk => by rw [j19 k hk]; exact tr_rg hw L k _)) ⟨w5_76, w5_79, w1_5, ⟨by decide, by decide⟩, by show _ = some 1; decide +kernel, by decide⟩ w5_78 wp_34 hM.1 (show vwCl[6]? = some ("OperaMachinesModel", TX3, 27) from rfl) (by decide) (by omega) (by omega) (Nat.le_of_ble_eq_true rfl) rfl dX3_plays_78 (fun r σ h => ?_) (fun _ _ h => h.elim)
              obtain ⟨M3, rfl, hM, hc, hs, g25, g24⟩ := h
              have eP := lpK_congr (c := c) (P := M2 19) (P' := fun k => (tr c L k τ).1) (M2 25 0) j19 (c 0 0).toNat (by omega)
              rw [eP, j25] at g25 g24
              have k24 : M3 24 0 = (mtP c L (τ + 1)).1 := by rw [g24, j24]; rfl
              have k25 : M3 25 0 = (mtP c L (τ + 1)).2 := g25
              have k26 : M3 26 0 = M 26 0 := (hs _ _ (by decide) (by decide)).trans j26
              have hG3 : ∀ k : Nat, (k : Int) < c 0 0 → GK c L τ (tr c L k (τ + 1)).2 M3 k := fun k hk => GK_eq (i1 k (by omega)).1 (hs _ _ (by decide) (by decide)) (hs _ _ (by decide) (by decide)) (hs _ _ (by decide) (by decide)) (fun q _ => ⟨hs _ _ (by decide) (by decide), hs _ _ (by decide) (by decide)⟩)
              have hN3 : ∀ k : Nat, (k : Int) < c 0 0 → M3 21 k ≠ -1 → (tr c L k τ).1 ≠ aimOf c k (tr c L k (τ + 1)).2 := fun k hk z => (i1 k (by omega)).2 (by rw [hs 21 k (by decide) (by decide)] at z; exact z)
              have hb3 : ∀ q : Nat, q < 24 → (0 ≤ M3 22 q ∧ M3 22 q ≤ τ) ∧ (0 ≤ M3 23 q ∧ M3 23 q ≤ τ) := fun q hq => by rw [hs 22 q (by decide) (by decide), hs 23 q (by decide) (by decide)]; exact jb q hq
              refine n_iconst (x := 0) C dX3_plays_81 ?_
              refine n_istore (lv' := [(5, iv 0), (4, iv (τ : Int)), (3, iv (E : Int)), (2, iv (L : Int)), (0, .ref o), (1, iv T)]) C dX3_plays_82 (by rw [hN]; decide) rfl ?_
              have LP3 : ∀ (fuY : Nat) (k : Nat) (σ : Wd) (M4 : Tb) (hM : MW g.2.1 o ar β M4 σ) (hc : cut M4 = c) (hR : ∀ a j, a ≠ 19 → M4 a j = M3 a j) (hA : ∀ z : Nat, z < k → (z : Int) < c 0 0 → GK c L (τ + 1) (tr c L z (τ + 1)).2 M4 z) (hC : ∀ z : Nat, k ≤ z → (z : Int) < c 0 0 → GK c L τ (tr c L z (τ + 1)).2 M4 z) (h1 : k ≤ c 0 0) (h2' : c 0 0 + 1 ≤ k + fuY), N Φ 0 0 σ 84 [(5, iv (k : Int)), (4, iv (τ : Int)), (3, iv (E : Int)), (2, iv (L : Int)), (0, .ref o), (1, iv T)] [] := by
                intro fuY
                induction fuY with
                | zero =>
                  intro k σ M4 hM hc hR hA hC h1 h2'
                  omega
                | succ fuY ih4 =>
                  intro k σ M4 hM hc hR hA hC h1 h2'
                  refine n_iload C dX3_plays_84 rfl ?_
                  refine n_aload_n C dX3_plays_86 rfl ?_
                  refine r_getc C hM hc 0 (by decide) w4_128 rfl rfl dX3_plays_87 ?_
                  refine n_icmp_ge C 105 dX3_plays_90 (by decide) (by unfold rg; omega) (by unfold rg; omega) (fun b90 => ?_) (fun b90 => ?_)
                  · refine n_iinc (lv' := [(4, iv ((τ : Int) + 1)), (5, iv (k : Int)), (3, iv (E : Int)), (2, iv (L : Int)), (0, .ref o), (1, iv T)]) C dX3_plays_105 rfl (by rw [hN]; decide) rfl ?_
                    refine n_goto C 62 dX3_plays_108 (by decide) ?_
                    refine n_keep (lv' := [(4, iv ((τ : Int) + 1)), (3, iv (E : Int)), (2, iv (L : Int)), (0, .ref o), (1, iv T)]) [4, 3, 2, 0, 1] rfl ?_
                    exact ih2 (τ + 1) _ _ hM hc (fun z hz => hA z (by omega) hz) ((hR 24 0 (by decide)).trans k24) ((hR 25 0 (by decide)).trans k25) ((hR 26 0 (by decide)).trans k26) (fun q hq => by rw [hR 22 q (by decide), hR 23 q (by decide)]; have := hb3 q hq; omega) (by omega) (by omega)
                  · have gk := hC k (Nat.le_refl k) (by omega)
                    refine n_aload_n C dX3_plays_93 rfl ?_
                    refine n_iload C dX3_plays_94 rfl ?_
                    refine n_invV C (c_moves hst I hM hc hw (by omega) (by rw [gk.1]; exact tr_rg hw L k τ) (by rw [gk.2.1]; exact aim_rg hw)) ⟨w5_56, w5_59, w1_5, ⟨by decide, by decide⟩, by show _ = some 1; decide +kernel, by decide⟩ w5_58 wp_31 hM.1 (show vwCl[6]? = some ("OperaMachinesModel", TX3, 27) from rfl) (by decide) (by omega) (by omega) (Nat.le_of_ble_eq_true rfl) rfl dX3_plays_96 (fun r σ h => ?_) (fun _ _ h => h.elim)
                    obtain ⟨M5, rfl, hM, hc, rfl⟩ := h
                    refine n_iinc (lv' := [(5, iv ((k : Int) + 1)), (4, iv (τ : Int)), (3, iv (E : Int)), (2, iv (L : Int)), (0, .ref o), (1, iv T)]) C dX3_plays_99 rfl (by rw [hN]; decide) rfl ?_
                    refine n_goto C 84 dX3_plays_102 (by decide) ?_
                    refine n_keep (lv' := [(5, iv ((k : Int) + 1)), (4, iv (τ : Int)), (3, iv (E : Int)), (2, iv (L : Int)), (0, .ref o), (1, iv T)]) [5, 4, 3, 2, 0, 1] rfl ?_
                    refine ih4 (k + 1) _ _ hM hc (fun a j ha => (tu_k ha).trans (hR a j ha)) (fun z hz hz2 => ?_) (fun z hz hz2 => ?_) (by omega) (by omega)
                    · by_cases y : z = k
                      · subst y
                        exact GK_move hw (fun q hq => by omega) gk (fun x => hN3 z hz2 (by rw [← hR 21 z (by decide)]; exact x)) (tu_s ..) (fun a j ha => tu_k ha)
                      · exact GK_eq (hA z (by omega) hz2) (tu_j y) (tu_k (by decide)) (tu_k (by decide)) (fun q _ => ⟨tu_k (by decide), tu_k (by decide)⟩)
                    · exact GK_eq (hC z (by omega) hz2) (tu_j (by omega)) (tu_k (by decide)) (tu_k (by decide)) (fun q _ => ⟨tu_k (by decide), tu_k (by decide)⟩)
              exact LP3 7 0 _ _ hM hc (fun _ _ _ => rfl) (fun z hz => absurd hz (Nat.not_lt_zero z)) (fun z _ hz => hG3 z hz) (by omega) (by omega)
        refine LP2 (E + 1) 0 _ _ hM hc (fun z hz' => ?_) h24 h25 h26 (fun q hq => by rw [(h0 q (by omega)).1, (h0 q (by omega)).2]; omega) (by omega) (by omega)
        have y := hz z hz'
        exact ⟨y.1, by rw [y.2.1]; rfl, Or.inl y.2.2, fun q hq hk hn => ⟨by rw [(h0 q (by omega)).1, (h0 q (by omega)).2]; rfl, fun x => absurd rfl x, fun x => absurd (show (-1 : Int) = q from x) (by omega)⟩⟩
      · refine n_aload_n C dX3_plays_37 rfl ?_
        refine r_get C hM 22 (by decide) w4_150 rfl rfl dX3_plays_38 ?_
        refine n_iload C dX3_plays_41 rfl ?_
        refine n_iconst (x := 0) C dX3_plays_43 ?_
        refine r_iast C I hM 22 rfl rfl k rfl (show _ < 24 by omega) dX3_plays_44 (fun σ hM => ?_)
        replace hc : cut (tu M1 22 k 0) = c := (cut_tu (by decide)).trans hc
        refine n_aload_n C dX3_plays_45 rfl ?_
        refine r_get C hM 23 (by decide) w4_151 rfl rfl dX3_plays_46 ?_
        refine n_iload C dX3_plays_49 rfl ?_
        refine n_iconst (x := 0) C dX3_plays_51 ?_
        refine r_iast C I hM 23 rfl rfl k rfl (show _ < 24 by omega) dX3_plays_52 (fun σ hM => ?_)
        replace hc : cut (tu (tu M1 22 k 0) 23 k 0) = c := (cut_tu (by decide)).trans hc
        refine n_iinc (lv' := [(4, iv ((k : Int) + 1)), (3, iv (E : Int)), (2, iv (L : Int)), (0, .ref o), (1, iv T)]) C dX3_plays_53 rfl (by rw [hN]; decide) rfl ?_
        refine n_goto C 30 dX3_plays_56 (by decide) ?_
        refine n_keep (lv' := [(4, iv ((k : Int) + 1)), (3, iv (E : Int)), (2, iv (L : Int)), (0, .ref o), (1, iv T)]) [4, 3, 2, 0, 1] rfl ?_
        refine ih (k + 1) _ _ hM hc (fun z hz' => ?_) (by rw [tu_k (by decide), tu_k (by decide)]; exact h24) (by rw [tu_k (by decide), tu_k (by decide)]; exact h25) (by rw [tu_k (by decide), tu_k (by decide)]; exact h26) (fun q hq => ?_) (by omega) (by omega)
        · rw [tu_k (a := 19) (k := 23) (by decide), tu_k (a := 19) (k := 22) (by decide), tu_k (a := 20) (k := 23) (by decide), tu_k (a := 20) (k := 22) (by decide), tu_k (a := 21) (k := 23) (by decide), tu_k (a := 21) (k := 22) (by decide)]
          exact hz z hz'
        · rw [tu_k (a := 22) (k := 23) (by decide)]
          by_cases y : q = k
          · subst y
            exact ⟨tu_s .., tu_s ..⟩
          · rw [tu_j y, tu_j y, tu_k (a := 23) (k := 22) (by decide)]
            exact h0 q (by omega)
  exact LP 25 0 _ _ hM hc (fun z hz' => by
    rw [tu_k (a := 19) (k := 25) (by decide), tu_k (a := 19) (k := 24) (by decide), tu_k (a := 20) (k := 25) (by decide), tu_k (a := 20) (k := 24) (by decide), tu_k (a := 21) (k := 25) (by decide), tu_k (a := 21) (k := 24) (by decide)]
    exact hz z hz') (by rw [tu_k (by decide), tu_s]) (by rw [tu_s]) (by rw [tu_k (by decide), tu_k (by decide)]; exact h26) (fun q hq => absurd hq (Nat.not_lt_zero q)) (by omega) (by omega)
