/-! what the law's small methods want -/
theorem andM (a : Int32) : ∃ z : Nat, z ≤ 2147483647 ∧ a &&& iI 2147483647 = iI (z : Int) := by
  refine ⟨(a &&& iI 2147483647).toBitVec.toNat, ?_, ?_⟩
  · rw [Int32.toBitVec_and, BitVec.toNat_and]
    exact Nat.and_le_right
  · apply Int32.toBitVec_inj.mp
    rw [iI_n]
    apply BitVec.eq_of_toNat_eq
    show _ = (BitVec.ofNat 32 _).toNat
    rw [BitVec.toNat_ofNat, Nat.mod_eq_of_lt (BitVec.isLt _)]
def tkL (c : Tb) (i : Nat) : Int := if c 1 i = 1 then 3 else c 2 i
theorem tkL_at {c : Tb} (hw : WF c) (i : Nat) : (c 1 i = 0 ∧ tkL c i = c 2 i ∧ 0 ≤ tkL c i ∧ tkL c i ≤ 2) ∨ (c 1 i = 1 ∧ tkL c i = 3) := by
  have w := hw.2.2.2.2.2.2.2.1 i
  unfold tkL
  rcases w.1 with h | h
  · rw [if_neg (by omega)]
    exact Or.inl ⟨h, rfl, w.2.2.1⟩
  · rw [if_pos h]
    exact Or.inr ⟨h, rfl⟩
theorem lat_rg {c : Tb} {i : Nat} (h6 : c 6 0 ≤ 24) (m : Nat) : -1 ≤ latN c i m ∧ latN c i m < 24 := by
  rcases lat_q (c := c) (i := i) m with ⟨h1, h2⟩ | ⟨b, h1, h2, h3, h4⟩
  · omega
  · have := eff_rg c (i : Int) (b : Int) (c 6 0).toNat (by omega)
    rw [h2]
    unfold eff
    omega
theorem mv_w {tb sp a m x : Int} (h : tb = 0) (hx : (a < m ∧ ((a + sp < m ∧ x = a + sp) ∨ (m ≤ a + sp ∧ x = m))) ∨ (m ≤ a ∧ ((m < a - sp ∧ x = a - sp) ∨ (a - sp ≤ m ∧ x = m)))) (hs : 0 ≤ sp) : mv tb sp a m = x := by
  unfold mv
  simp only []
  simp only [if_pos h]
  (repeat' split) <;> omega
theorem mv_t {sp a m : Int} (ha : 0 ≤ a ∧ a ≤ 359) (hm : 0 ≤ m ∧ m ≤ 359) (hs : 1 ≤ sp ∧ sp ≤ 10) {tb : Int} (h : tb = 1) : mv tb sp a m = if (m - a + 360) % 360 ≤ 180 then (if (m - a + 360) % 360 ≤ sp then m else (a + sp) % 360) else (if 360 - (m - a + 360) % 360 ≤ sp then m else (a - sp + 360) % 360) := by
  unfold mv
  simp only []
  simp only [if_neg (show ¬ tb = 0 by omega)]
  (repeat' split) <;> omega
set_option maxRecDepth 100000 in
set_option maxHeartbeats 4000000 in
theorem l_draw {g : Gx} (hst : g.1.stackTraces = false) {k most : Int} (hk : 0 ≤ k ∧ k < 1000) (hmo : 0 < most ∧ most < 2147483648) (hSL : scL g.2.2 ≤ 260) {σ : Wd}  : CT g yL_draw cL_draw 4 (some .int) 0 0 0 [.ref (scB g.2.2), iv k, iv most] σ (fun r σ' => ∃ z : Int, r = some (iv z) ∧ 0 ≤ z ∧ z < most ∧ σ' = σ) (fun _ _ => False) := by
  refine CT.of hst (by decide +kernel) (Nat.le_of_ble_eq_true rfl) (fun Φ C Rr hY hN => ?_)
  show N Φ 0 0 σ 0 [(0, .ref (scB g.2.2)), (1, iv k), (2, iv most)] []
  have J23 : ∀ v : Int, N Φ 0 0 σ 23 [(0, .ref (scB g.2.2)), (1, iv k), (2, iv most)] [iv v] := by
    intro v
    refine n_istore_n (lv' := [(3, iv v), (0, .ref (scB g.2.2)), (1, iv k), (2, iv most)]) C dL_draw_23 (by rw [hN]; decide) rfl ?_
    refine n_iload_n C dL_draw_24 rfl ?_
    refine n_ldc C (x := 2147483647) t1_102 rfl dL_draw_25 ?_
    obtain ⟨z, hz31, hz⟩ := andM (iI v)
    refine n_iand C dL_draw_27 hz ?_
    refine n_iload_n C dL_draw_28 rfl ?_
    refine n_iremP C dL_draw_29 (by unfold rg; omega) (by unfold rg; omega) (by omega) (by omega) ?_
    exact n_ireturn C Rr rfl ⟨_, rfl, Int.emod_nonneg _ (by omega), Int.emod_lt_of_pos _ (by omega), rfl⟩ (by omega) (by omega) dL_draw_30
  refine n_iload_n C dL_draw_0 rfl ?_
  refine n_aload_n C dL_draw_1 rfl ?_
  refine n_slen C dL_draw_2 ?_
  refine n_icmp_ge C 12 dL_draw_3 (by decide) (by unfold rg; omega) (by unfold rg; omega) (fun b3 => ?_) (fun b3 => ?_)
  · refine n_ldc C (x := 903604679) t1_100 rfl dL_draw_12 ?_
    refine n_iload_n C dL_draw_14 rfl ?_
    refine n_sipush (x := 271) C dL_draw_15 (by decide) ?_
    refine n_iadd C dL_draw_18 ?_
    refine n_imul C dL_draw_19 ?_
    refine n_ldc C (x := 799131091) t1_101 rfl dL_draw_20 ?_
    refine n_iadd C dL_draw_22 ?_
    exact J23 _
  · refine n_aload_n C dL_draw_6 rfl ?_
    refine n_iload_n C dL_draw_7 rfl ?_
    refine n_sld C (by omega) (by omega) hSL dL_draw_8 (fun y hy => ?_)
    refine n_goto C 23 dL_draw_9 (by decide) ?_
    exact J23 _
set_option maxRecDepth 100000 in
set_option maxHeartbeats 4000000 in
theorem l_isOut {g : Gx} (hst : g.1.stackTraces = false) {c : Tb} {σ : Wd} (hw : WF c) {k : Nat} (hk : (k : Int) < c 6 0) {aq : Nat} {fq : Nat → Int} (hq : σ aq = some (eI g.2.1 24 fq)) (hqI : qI c fq)  : CT g yL_isOut cL_isOut 2 (some .boolean) 0 0 0 [.ref aq, iv (k : Int)] σ (fun r σ' => ∃ x : Int, r = some (iv x) ∧ σ' = σ ∧ ((x = 1 ∧ c 11 k = 1) ∨ (x = 0 ∧ c 11 k = 0))) (fun _ _ => False) := by
  refine CT.of hst (by decide +kernel) (Nat.le_of_ble_eq_true rfl) (fun Φ C Rr hY hN => ?_)
  show N Φ 0 0 σ 0 [(0, .ref aq), (1, iv (k : Int))] []
  obtain ⟨w0, w6, w12, w13, w14, w15, w16, wm, wq, ww⟩ := id hw
  have hp := qv_parts hw hk
  have w11 := (wq k).2.2.2.2.2.2.2.1
  refine n_aload_n C dL_isOut_0 rfl ?_
  refine n_iload_n C dL_isOut_1 rfl ?_
  refine n_ialdv C (qv c k) hq (by omega) (by omega) (by omega) (by rw [Int.toNat_natCast]; exact hqI k (by omega)) dL_isOut_2 ?_
  refine n_bipush (x := 20) C dL_isOut_3 (by decide) ?_
  refine n_ishr C dL_isOut_5 (z_s20 hp.1.1 hp.1.2) ?_
  refine n_iconst (x := 1) C dL_isOut_6 ?_
  refine n_icmp_ne C 14 dL_isOut_7 (by decide) (by unfold rg; omega) (by unfold rg; omega) (fun b7 => ?_) (fun b7 => ?_)
  · refine n_iconst (x := 0) C dL_isOut_14 ?_
    exact n_ireturn C Rr (nar_bv (by first | decide | omega)) ⟨_, rfl, rfl, by omega⟩ (by omega) (by omega) dL_isOut_15
  · refine n_iconst (x := 1) C dL_isOut_10 ?_
    refine n_goto C 15 dL_isOut_11 (by decide) ?_
    exact n_ireturn C Rr (nar_bv (by first | decide | omega)) ⟨_, rfl, rfl, by omega⟩ (by omega) (by omega) dL_isOut_15
set_option maxRecDepth 100000 in
set_option maxHeartbeats 4000000 in
theorem l_target {g : Gx} (hst : g.1.stackTraces = false) {c : Tb} {σ : Wd} (hw : WF c) {k : Nat} (hk : (k : Int) < c 6 0) {aq : Nat} {fq : Nat → Int} (hq : σ aq = some (eI g.2.1 24 fq)) (hqI : qI c fq)  : CT g yL_target cL_target 2 (some .int) 0 0 0 [.ref aq, iv (k : Int)] σ (fun r σ' => r = some (iv (c 9 k)) ∧ σ' = σ) (fun _ _ => False) := by
  refine CT.of hst (by decide +kernel) (Nat.le_of_ble_eq_true rfl) (fun Φ C Rr hY hN => ?_)
  show N Φ 0 0 σ 0 [(0, .ref aq), (1, iv (k : Int))] []
  obtain ⟨w0, w6, w12, w13, w14, w15, w16, wm, wq, ww⟩ := id hw
  have hp := qv_parts hw hk
  have w11 := (wq k).2.2.2.2.2.2.2.1
  refine n_aload_n C dL_target_0 rfl ?_
  refine n_iload_n C dL_target_1 rfl ?_
  refine n_ialdv C (qv c k) hq (by omega) (by omega) (by omega) (by rw [Int.toNat_natCast]; exact hqI k (by omega)) dL_target_2 ?_
  refine n_bipush (x := 11) C dL_target_3 (by decide) ?_
  refine n_ishr C dL_target_5 (z_s11 hp.1.1 hp.1.2) ?_
  refine n_sipush (x := 511) C dL_target_6 (by decide) ?_
  refine n_iand C dL_target_9 (z_a511 (by omega)) ?_
  exact n_ireturn C Rr rfl ⟨by rw [hp.2.2.1], rfl⟩ (by omega) (by omega) dL_target_10
set_option maxRecDepth 100000 in
set_option maxHeartbeats 4000000 in
theorem l_length {g : Gx} (hst : g.1.stackTraces = false) {c : Tb} {σ : Wd} (hw : WF c) {ac : Nat} {fc : Nat → Int} (hc : σ ac = some (eI g.2.1 8 fc)) (hcI : cI c fc)  : CT g yL_length cL_length 2 (some .int) 0 0 0 [.ref ac] σ (fun r σ' => r = some (iv (lenB c (c 14 0))) ∧ σ' = σ) (fun _ _ => False) := by
  refine CT.of hst (by decide +kernel) (Nat.le_of_ble_eq_true rfl) (fun Φ C Rr hY hN => ?_)
  show N Φ 0 0 σ 0 [(0, .ref ac)] []
  obtain ⟨w0, w6, w12, w13, w14, w15, w16, wm, wq, ww⟩ := id hw
  refine n_aload_n C dL_length_0 rfl ?_
  refine n_iconst (x := 3) C dL_length_1 ?_
  refine n_ialdv C (c 13 0) hc (by omega) (by omega) (by omega) hcI.2.2.2.1 dL_length_2 ?_
  refine n_bipush (x := 100) C dL_length_3 (by decide) ?_
  refine n_imul C dL_length_5 ?_
  refine n_aload_n C dL_length_6 rfl ?_
  refine n_iconst (x := 4) C dL_length_7 ?_
  refine n_ialdv C (c 14 0) hc (by omega) (by omega) (by omega) hcI.2.2.2.2.1 dL_length_8 ?_
  refine n_idivP C dL_length_9 (by unfold rg; omega) (by unfold rg; omega) (by omega) (by omega) ?_
  refine n_istore_n (lv' := [(1, iv (((c 13 0) * 100) / (c 14 0))), (0, .ref ac)]) C dL_length_10 (by rw [hN]; decide) rfl ?_
  refine n_iload_n C dL_length_11 rfl ?_
  have q1 : 0 ≤ c 13 0 * 100 / c 14 0 := Int.ediv_nonneg (by omega) (by omega)
  have q2 : c 13 0 * 100 / c 14 0 ≤ c 13 0 * 100 := Int.ediv_le_self _ (by omega)
  refine n_if_ne C 19 dL_length_12 (by decide) (by unfold rg; omega) (fun b12 => ?_) (fun b12 => ?_)
  · refine n_iload_n C dL_length_19 rfl ?_
    exact n_ireturn C Rr rfl ⟨by unfold lenB; rw [if_neg (by omega)], rfl⟩ (by omega) (by omega) dL_length_20
  · refine n_iconst (x := 1) C dL_length_15 ?_
    refine n_goto C 20 dL_length_16 (by decide) ?_
    exact n_ireturn C Rr rfl ⟨by unfold lenB; rw [if_pos (by omega)], rfl⟩ (by omega) (by omega) dL_length_20
set_option maxRecDepth 100000 in
set_option maxHeartbeats 4000000 in
theorem l_effect {g : Gx} (hst : g.1.stackTraces = false) {c : Tb} {σ : Wd} (hw : WF c) {a b : Int} (ha : rg a) (hb : rg b) {aq : Nat} {fq : Nat → Int} (hq : σ aq = some (eI g.2.1 24 fq)) (hqI : qI c fq) {ac : Nat} {fc : Nat → Int} (hc : σ ac = some (eI g.2.1 8 fc)) (hcI : cI c fc)  : CT g yL_effect cL_effect 6 (some .int) 1 0 0 [.ref aq, .ref ac, iv a, iv b] σ (fun r σ' => r = some (iv (eff c a b)) ∧ σ' = σ) (fun _ _ => False) := by
  refine CT.of hst (by decide +kernel) (Nat.le_of_ble_eq_true rfl) (fun Φ C Rr hY hN => ?_)
  show N Φ 0 0 σ 0 [(0, .ref aq), (1, .ref ac), (2, iv a), (3, iv b)] []
  obtain ⟨w0, w6, w12, w13, w14, w15, w16, wm, wq, ww⟩ := id hw
  unfold rg at ha hb
  obtain ⟨n6, hn6⟩ : ∃ n : Nat, c 6 0 = n := ⟨(c 6 0).toNat, by omega⟩
  have hvr : ∀ k : Nat, k ≤ n6 → -1 ≤ effN c a b k ∧ effN c a b k < k := fun k hk => eff_rg c a b k (by omega)
  refine n_iconst (x := (-1)) C dL_effect_0 ?_
  refine n_istore (lv' := [(4, iv (-1)), (0, .ref aq), (1, .ref ac), (2, iv a), (3, iv b)]) C dL_effect_1 (by rw [hN]; decide) rfl ?_
  refine n_iconst (x := 0) C dL_effect_3 ?_
  refine n_istore (lv' := [(5, iv 0), (4, iv (-1)), (0, .ref aq), (1, .ref ac), (2, iv a), (3, iv b)]) C dL_effect_4 (by rw [hN]; decide) rfl ?_
  have LP : ∀ (fu : Nat) (k : Nat) (v : Int) (hv : v = effN c a b k) (hk : k ≤ n6) (hf : n6 + 1 ≤ k + fu), N Φ 0 0 σ 6 [(5, iv (k : Int)), (4, iv v), (0, .ref aq), (1, .ref ac), (2, iv a), (3, iv b)] [] := by
    intro fu
    induction fu with
    | zero =>
      intro k v hv hk hf
      omega
    | succ fu ih =>
      intro k v hv hk hf
      refine n_iload C dL_effect_6 rfl ?_
      refine n_aload_n C dL_effect_8 rfl ?_
      refine n_iconst (x := 1) C dL_effect_9 ?_
      refine n_ialdv C (c 6 0) hc (by omega) (by omega) (by omega) hcI.2.1 dL_effect_10 ?_
      refine n_icmp_ge C 62 dL_effect_11 (by decide) (by unfold rg; omega) (by unfold rg; omega) (fun b11 => ?_) (fun b11 => ?_)
      · refine n_iload C dL_effect_62 rfl ?_
        exact n_ireturn C Rr rfl ⟨by rw [hv, show k = n6 by omega]; unfold eff; rw [hn6]; rfl, rfl⟩ (by omega) (by omega) dL_effect_64
      · refine n_aload_n C dL_effect_14 rfl ?_
        refine n_iload C dL_effect_15 rfl ?_
        refine n_invS C (l_isOut hst hw (k := k) (by omega) hq hqI) ⟨t3_149, t3_151, t1_0, ⟨by decide, by decide⟩, by show _ = some 2; decide +kernel, by decide⟩ t3_150 (by decide) (by omega) (by omega) (Nat.le_of_ble_eq_true rfl) rfl dL_effect_17 (fun r σ' h' => ?_) (fun _ _ h => h.elim)
        obtain ⟨u, rfl, hσ, hu⟩ := h'
        rw [hσ]
        have hp := qv_parts hw (k := k) (by omega)
        have eN : effN c a b (k + 1) = if c 11 k = 0 ∧ c 8 k = a ∧ c 7 k = b then (k : Int) else effN c a b k := rfl
        refine n_if_ne C 52 dL_effect_20 (by decide) (by unfold rg; omega) (fun b20 => ?_) (fun b20 => ?_)
        · refine n_iload C dL_effect_52 rfl ?_
          refine n_istore (lv' := [(4, iv v), (5, iv (k : Int)), (0, .ref aq), (1, .ref ac), (2, iv a), (3, iv b)]) C dL_effect_54 (by rw [hN]; decide) rfl ?_
          refine n_iinc (lv' := [(5, iv ((k : Int) + 1)), (4, iv v), (0, .ref aq), (1, .ref ac), (2, iv a), (3, iv b)]) C dL_effect_56 rfl (by rw [hN]; decide) rfl ?_
          refine n_goto C 6 dL_effect_59 (by decide) ?_
          refine n_keep (lv' := [(5, iv ((k : Int) + 1)), (4, iv v), (0, .ref aq), (1, .ref ac), (2, iv a), (3, iv b)]) [5, 4, 0, 1, 2, 3] rfl ?_
          exact ih (k + 1) _ (by rw [eN, if_neg (by omega)]; exact hv) (by omega) (by omega)
        · refine n_aload_n C dL_effect_23 rfl ?_
          refine n_iload C dL_effect_24 rfl ?_
          refine n_ialdv C (qv c k) hq (by omega) (by omega) (by omega) (by rw [Int.toNat_natCast]; exact hqI k (by omega)) dL_effect_26 ?_
          refine n_iconst (x := 5) C dL_effect_27 ?_
          refine n_ishr C dL_effect_28 (z_s5 hp.1.1 hp.1.2) ?_
          refine n_bipush (x := 7) C dL_effect_29 (by decide) ?_
          refine n_iand C dL_effect_31 (z_a7 (by omega)) ?_
          refine n_iload_n C dL_effect_32 rfl ?_
          refine n_icmp_ne C 52 dL_effect_33 (by decide) (by unfold rg; omega) (by unfold rg; omega) (fun b33 => ?_) (fun b33 => ?_)
          · refine n_iload C dL_effect_52 rfl ?_
            refine n_istore (lv' := [(4, iv v), (5, iv (k : Int)), (0, .ref aq), (1, .ref ac), (2, iv a), (3, iv b)]) C dL_effect_54 (by rw [hN]; decide) rfl ?_
            refine n_iinc (lv' := [(5, iv ((k : Int) + 1)), (4, iv v), (0, .ref aq), (1, .ref ac), (2, iv a), (3, iv b)]) C dL_effect_56 rfl (by rw [hN]; decide) rfl ?_
            refine n_goto C 6 dL_effect_59 (by decide) ?_
            refine n_keep (lv' := [(5, iv ((k : Int) + 1)), (4, iv v), (0, .ref aq), (1, .ref ac), (2, iv a), (3, iv b)]) [5, 4, 0, 1, 2, 3] rfl ?_
            exact ih (k + 1) _ (by rw [eN, if_neg (by omega)]; exact hv) (by omega) (by omega)
          · refine n_aload_n C dL_effect_36 rfl ?_
            refine n_iload C dL_effect_37 rfl ?_
            refine n_ialdv C (qv c k) hq (by omega) (by omega) (by omega) (by rw [Int.toNat_natCast]; exact hqI k (by omega)) dL_effect_39 ?_
            refine n_bipush (x := 31) C dL_effect_40 (by decide) ?_
            refine n_iand C dL_effect_42 (z_a31 (by omega)) ?_
            refine n_iload_n C dL_effect_43 rfl ?_
            refine n_icmp_ne C 52 dL_effect_44 (by decide) (by unfold rg; omega) (by unfold rg; omega) (fun b44 => ?_) (fun b44 => ?_)
            · refine n_iload C dL_effect_52 rfl ?_
              refine n_istore (lv' := [(4, iv v), (5, iv (k : Int)), (0, .ref aq), (1, .ref ac), (2, iv a), (3, iv b)]) C dL_effect_54 (by rw [hN]; decide) rfl ?_
              refine n_iinc (lv' := [(5, iv ((k : Int) + 1)), (4, iv v), (0, .ref aq), (1, .ref ac), (2, iv a), (3, iv b)]) C dL_effect_56 rfl (by rw [hN]; decide) rfl ?_
              refine n_goto C 6 dL_effect_59 (by decide) ?_
              refine n_keep (lv' := [(5, iv ((k : Int) + 1)), (4, iv v), (0, .ref aq), (1, .ref ac), (2, iv a), (3, iv b)]) [5, 4, 0, 1, 2, 3] rfl ?_
              exact ih (k + 1) _ (by rw [eN, if_neg (by omega)]; exact hv) (by omega) (by omega)
            · refine n_iload C dL_effect_47 rfl ?_
              refine n_goto C 54 dL_effect_49 (by decide) ?_
              refine n_istore (lv' := [(4, iv (k : Int)), (5, iv (k : Int)), (0, .ref aq), (1, .ref ac), (2, iv a), (3, iv b)]) C dL_effect_54 (by rw [hN]; decide) rfl ?_
              refine n_iinc (lv' := [(5, iv ((k : Int) + 1)), (4, iv (k : Int)), (0, .ref aq), (1, .ref ac), (2, iv a), (3, iv b)]) C dL_effect_56 rfl (by rw [hN]; decide) rfl ?_
              refine n_goto C 6 dL_effect_59 (by decide) ?_
              refine n_keep (lv' := [(5, iv ((k : Int) + 1)), (4, iv (k : Int)), (0, .ref aq), (1, .ref ac), (2, iv a), (3, iv b)]) [5, 4, 0, 1, 2, 3] rfl ?_
              exact ih (k + 1) _ (by rw [eN, if_pos (by omega)]) (by omega) (by omega)
  refine n_keep (lv' := [(5, iv 0), (4, iv (-1)), (0, .ref aq), (1, .ref ac), (2, iv a), (3, iv b)]) [5, 4, 0, 1, 2, 3] rfl ?_
  exact LP 25 0 (-1) rfl (by omega) (by omega)
set_option maxRecDepth 100000 in
set_option maxHeartbeats 4000000 in
theorem l_by {g : Gx} (hst : g.1.stackTraces = false) {c : Tb} {σ : Wd} (hw : WF c) {i t : Nat} (hi : (i : Int) < c 0 0) (ht : t ≤ 2400) {aq : Nat} {fq : Nat → Int} (hq : σ aq = some (eI g.2.1 24 fq)) (hqI : qI c fq) {ac : Nat} {fc : Nat → Int} (hc : σ ac = some (eI g.2.1 8 fc)) (hcI : cI c fc)  : CT g yL_by cL_by 5 (some .int) 2 0 0 [.ref aq, .ref ac, iv (i : Int), iv (t : Int)] σ (fun r σ' => r = some (iv (tr c (LL c) i (t + 1)).2) ∧ σ' = σ) (fun _ _ => False) := by
  refine CT.of hst (by decide +kernel) (Nat.le_of_ble_eq_true rfl) (fun Φ C Rr hY hN => ?_)
  show N Φ 0 0 σ 0 [(0, .ref aq), (1, .ref ac), (2, iv (i : Int)), (3, iv (t : Int))] []
  obtain ⟨w0, w6, w12, w13, w14, w15, w16, wm, wq, ww⟩ := id hw
  have hLr := lenB_rg hw (T := c 14 0) w14.1
  obtain ⟨L, hL⟩ : ∃ L : Nat, lenB c (c 14 0) = L := ⟨(lenB c (c 14 0)).toNat, by omega⟩
  rw [hL] at hLr
  have hLL : LL c = L := by unfold LL; omega
  obtain ⟨n12, h12⟩ : ∃ n : Nat, c 12 0 = n := ⟨(c 12 0).toNat, by omega⟩
  refine n_iload_n C dL_by_0 rfl ?_
  refine n_aload_n C dL_by_1 rfl ?_
  refine n_invS C (l_length hst hw hc hcI) ⟨t3_235, t3_237, t1_0, ⟨by decide, by decide⟩, by show _ = some 1; decide +kernel, by decide⟩ t3_236 (by decide) (by omega) (by omega) (Nat.le_of_ble_eq_true rfl) rfl dL_by_2 (fun r σ' h' => ?_) (fun _ _ h => h.elim)
  obtain ⟨rfl, hσ⟩ := h'
  rw [hσ, hL]
  refine n_idivP C dL_by_5 (by unfold rg; omega) (by unfold rg; omega) (by omega) (by omega) ?_
  have hbI : (t : Int) / (L : Int) = ((t / L : Nat) : Int) := rfl
  rw [hbI]
  obtain ⟨b, hb⟩ : ∃ b : Nat, t / L = b := ⟨_, rfl⟩
  rw [hb]
  have hbt : b ≤ t := by rw [← hb]; exact Nat.div_le_self t L
  have hR := tr_lat (c := c) (i := i) (L := L) (by omega) t
  rw [hb] at hR
  have hRr := lat_rg (c := c) (i := i) w6.2 (b + 1)
  obtain ⟨R, hRd⟩ : ∃ R : Int, latN c i (b + 1) = R := ⟨_, rfl⟩
  rw [hRd] at hR hRr
  have J51 : ∀ (m : Nat) (hm : m ≤ n12) (hv : latN c i m = R) (hz : ∀ k : Nat, m = k + 1 → eff c i k ≠ -1), N Φ 0 0 σ 51 [(4, iv ((m : Int) - 1)), (0, .ref aq), (1, .ref ac), (2, iv (i : Int)), (3, iv (t : Int))] [] := by
    intro m hm hv hz
    refine n_iload C dL_by_51 rfl ?_
    refine n_if_ge C 60 dL_by_53 (by decide) (by unfold rg; omega) (fun b53 => ?_) (fun b53 => ?_)
    · obtain ⟨k, rfl⟩ : ∃ k : Nat, m = k + 1 := ⟨m - 1, by omega⟩
      rw [show ((k + 1 : Nat) : Int) - 1 = (k : Int) by omega]
      refine n_aload_n C dL_by_60 rfl ?_
      refine n_aload_n C dL_by_61 rfl ?_
      refine n_iload_n C dL_by_62 rfl ?_
      refine n_iload C dL_by_63 rfl ?_
      refine n_invS C (l_effect hst hw (a := (i : Int)) (b := (k : Int)) (by unfold rg; omega) (by unfold rg; omega) hq hqI hc hcI) ⟨t3_238, t4_0, t1_0, ⟨by decide, by decide⟩, by show _ = some 4; decide +kernel, by decide⟩ t3_239 (by decide) (by omega) (by omega) (Nat.le_of_ble_eq_true rfl) rfl dL_by_65 (fun r σ' h' => ?_) (fun _ _ h => h.elim)
      obtain ⟨rfl, hσ⟩ := h'
      rw [hσ]
      exact n_ireturn C Rr rfl ⟨by rw [hLL, hR, ← hv]; unfold latN; rw [if_neg (hz k rfl)], rfl⟩ (by omega) (by omega) dL_by_68
    · obtain rfl : m = 0 := by omega
      refine n_iconst (x := (-1)) C dL_by_56 ?_
      refine n_goto C 68 dL_by_57 (by decide) ?_
      exact n_ireturn C Rr rfl ⟨by rw [hLL, hR, ← hv]; rfl, rfl⟩ (by omega) (by omega) dL_by_68
  have LP : ∀ (fu : Nat) (m : Nat) (hv : latN c i m = R) (hm : m ≤ n12) (hf : m < fu), N Φ 0 0 σ 28 [(4, iv ((m : Int) - 1)), (0, .ref aq), (1, .ref ac), (2, iv (i : Int)), (3, iv (t : Int))] [] := by
    intro fu
    induction fu with
    | zero =>
      intro m hv hm hf
      omega
    | succ fu ih =>
      intro m hv hm hf
      refine n_iload C dL_by_28 rfl ?_
      refine n_if_lt C 51 dL_by_30 (by decide) (by unfold rg; omega) (fun b30 => ?_) (fun b30 => ?_)
      · exact J51 m hm hv (fun k hk => by omega)
      · obtain ⟨k, rfl⟩ : ∃ k : Nat, m = k + 1 := ⟨m - 1, by omega⟩
        rw [show ((k + 1 : Nat) : Int) - 1 = (k : Int) by omega]
        refine n_aload_n C dL_by_33 rfl ?_
        refine n_aload_n C dL_by_34 rfl ?_
        refine n_iload_n C dL_by_35 rfl ?_
        refine n_iload C dL_by_36 rfl ?_
        refine n_invS C (l_effect hst hw (a := (i : Int)) (b := (k : Int)) (by unfold rg; omega) (by unfold rg; omega) hq hqI hc hcI) ⟨t3_238, t4_0, t1_0, ⟨by decide, by decide⟩, by show _ = some 4; decide +kernel, by decide⟩ t3_239 (by decide) (by omega) (by omega) (Nat.le_of_ble_eq_true rfl) rfl dL_by_38 (fun r σ' h' => ?_) (fun _ _ h => h.elim)
        obtain ⟨rfl, hσ⟩ := h'
        rw [hσ]
        have her := eff_rg c (i : Int) (k : Int) (c 6 0).toNat (by omega)
        have her2 : -1 ≤ eff c (i : Int) (k : Int) ∧ eff c (i : Int) (k : Int) < 24 := by unfold eff; omega
        refine n_iconst (x := (-1)) C dL_by_41 ?_
        refine n_icmp_ne C 51 dL_by_42 (by decide) (by unfold rg; omega) (by unfold rg; omega) (fun b42 => ?_) (fun b42 => ?_)
        · have := J51 (k + 1) hm hv (fun k' hk' => by rw [show k' = k by omega]; exact b42)
          rw [show ((k + 1 : Nat) : Int) - 1 = (k : Int) by omega] at this
          exact this
        · refine n_iinc (lv' := [(4, iv ((k : Int) + (-1))), (0, .ref aq), (1, .ref ac), (2, iv (i : Int)), (3, iv (t : Int))]) C dL_by_45 rfl (by rw [hN]; decide) rfl ?_
          refine n_goto C 28 dL_by_48 (by decide) ?_
          refine n_keep (lv' := [(4, iv ((k : Int) + (-1))), (0, .ref aq), (1, .ref ac), (2, iv (i : Int)), (3, iv (t : Int))]) [4, 0, 1, 2, 3] rfl ?_
          rw [show (k : Int) + (-1) = (k : Int) - 1 by omega]
          exact ih k (by rw [← hv]; exact (if_pos b42 : (if eff c i (k : Nat) = -1 then latN c i k else eff c i (k : Nat)) = latN c i k).symm) (by omega) (by omega)
  refine n_istore (lv' := [(4, iv (b : Int)), (0, .ref aq), (1, .ref ac), (2, iv (i : Int)), (3, iv (t : Int))]) C dL_by_6 (by rw [hN]; decide) rfl ?_
  refine n_iload C dL_by_8 rfl ?_
  refine n_aload_n C dL_by_10 rfl ?_
  refine n_iconst (x := 2) C dL_by_11 ?_
  refine n_ialdv C (c 12 0) hc (by omega) (by omega) (by omega) hcI.2.2.1 dL_by_12 ?_
  refine n_icmp_ge C 21 dL_by_13 (by decide) (by unfold rg; omega) (by unfold rg; omega) (fun b13 => ?_) (fun b13 => ?_)
  · refine n_aload_n C dL_by_21 rfl ?_
    refine n_iconst (x := 2) C dL_by_22 ?_
    refine n_ialdv C (c 12 0) hc (by omega) (by omega) (by omega) hcI.2.2.1 dL_by_23 ?_
    refine n_iconst (x := 1) C dL_by_24 ?_
    refine n_isub C dL_by_25 ?_
    refine n_istore (lv' := [(4, iv ((c 12 0) - 1)), (0, .ref aq), (1, .ref ac), (2, iv (i : Int)), (3, iv (t : Int))]) C dL_by_26 (by rw [hN]; decide) rfl ?_
    refine n_keep (lv' := [(4, iv ((c 12 0) - 1)), (0, .ref aq), (1, .ref ac), (2, iv (i : Int)), (3, iv (t : Int))]) [4, 0, 1, 2, 3] rfl ?_
    have e := lat_cap hw (i := i) h12 (b + 1 - n12)
    rw [show n12 + (b + 1 - n12) = b + 1 by omega, hRd] at e
    rw [h12]
    exact LP 32 n12 e.symm (Nat.le_refl _) (by omega)
  · refine n_iload C dL_by_16 rfl ?_
    refine n_goto C 26 dL_by_18 (by decide) ?_
    refine n_istore (lv' := [(4, iv (b : Int)), (0, .ref aq), (1, .ref ac), (2, iv (i : Int)), (3, iv (t : Int))]) C dL_by_26 (by rw [hN]; decide) rfl ?_
    refine n_keep (lv' := [(4, iv (b : Int)), (0, .ref aq), (1, .ref ac), (2, iv (i : Int)), (3, iv (t : Int))]) [4, 0, 1, 2, 3] rfl ?_
    have := LP 32 (b + 1) hRd (by omega) (by omega)
    rw [show ((b + 1 : Nat) : Int) - 1 = (b : Int) by omega] at this
    exact this
set_option maxRecDepth 100000 in
set_option maxHeartbeats 4000000 in
theorem l_moved {g : Gx} (hst : g.1.stackTraces = false) {c : Tb} {σ : Wd} (hw : WF c) {i : Nat} {a m0 : Int} (hi : (i : Int) < c 0 0) (ha : 0 ≤ a ∧ a ≤ 359) (hm0 : 0 ≤ m0 ∧ m0 ≤ 359) {am : Nat} {fm : Nat → Int} (hm : σ am = some (eI g.2.1 24 fm)) (hmI : mI c fm)  : CT g yL_moved cL_moved 7 (some .int) 0 0 0 [.ref am, iv (i : Int), iv a, iv m0] σ (fun r σ' => r = some (iv (mv (c 1 i) (c 4 i) a m0)) ∧ σ' = σ) (fun _ _ => False) := by
  refine CT.of hst (by decide +kernel) (Nat.le_of_ble_eq_true rfl) (fun Φ C Rr hY hN => ?_)
  show N Φ 0 0 σ 0 [(0, .ref am), (1, iv (i : Int)), (2, iv a), (3, iv m0)] []
  obtain ⟨w0, w6, w12, w13, w14, w15, w16, wm, wq, ww⟩ := id hw
  have hsp := (wm i).2.2.2.2.1
  have hsp1 := (wm i).2.2.2.2.2.1 hi
  have htk0 := tkL_at hw i
  refine n_aload_n C dL_moved_0 rfl ?_
  refine n_iconst (x := 4) C dL_moved_1 ?_
  refine n_iload_n C dL_moved_2 rfl ?_
  refine n_imul C dL_moved_3 ?_
  refine n_iconst (x := 3) C dL_moved_4 ?_
  refine n_iadd C dL_moved_5 ?_
  refine n_ialdv C (c 4 i) hm (by omega) (by omega) (by omega) (by rw [show (((4 * (i : Int)) + 3)).toNat = 4 * i + 3 by omega]; exact (hmI i (by omega)).2.2.1) dL_moved_6 ?_
  refine n_istore (lv' := [(4, iv (c 4 i)), (0, .ref am), (1, iv (i : Int)), (2, iv a), (3, iv m0)]) C dL_moved_7 (by rw [hN]; decide) rfl ?_
  refine n_aload_n C dL_moved_9 rfl ?_
  refine n_iconst (x := 4) C dL_moved_10 ?_
  refine n_iload_n C dL_moved_11 rfl ?_
  refine n_imul C dL_moved_12 ?_
  refine n_ialdv C (tkL c i) hm (by omega) (by omega) (by omega) (by rw [show ((4 * (i : Int))).toNat = 4 * i by omega]; exact (hmI i (by omega)).1) dL_moved_13 ?_
  refine n_iconst (x := 3) C dL_moved_14 ?_
  refine n_icmp_ge C 59 dL_moved_15 (by decide) (by unfold rg; omega) (by unfold rg; omega) (fun b15 => ?_) (fun b15 => ?_)
  · refine n_iload_n C dL_moved_59 rfl ?_
    refine n_iload_n C dL_moved_60 rfl ?_
    refine n_isub C dL_moved_61 ?_
    refine n_sipush (x := 360) C dL_moved_62 (by decide) ?_
    refine n_iadd C dL_moved_65 ?_
    refine n_sipush (x := 360) C dL_moved_66 (by decide) ?_
    refine n_iremP C dL_moved_69 (by unfold rg; omega) (by unfold rg; omega) (by omega) (by omega) ?_
    refine n_istore (lv' := [(5, iv (((m0 - a) + 360) % 360)), (4, iv (c 4 i)), (0, .ref am), (1, iv (i : Int)), (2, iv a), (3, iv m0)]) C dL_moved_70 (by rw [hN]; decide) rfl ?_
    refine n_sipush (x := 360) C dL_moved_72 (by decide) ?_
    refine n_iload C dL_moved_75 rfl ?_
    refine n_isub C dL_moved_77 ?_
    refine n_istore (lv' := [(6, iv (360 - (((m0 - a) + 360) % 360))), (5, iv (((m0 - a) + 360) % 360)), (4, iv (c 4 i)), (0, .ref am), (1, iv (i : Int)), (2, iv a), (3, iv m0)]) C dL_moved_78 (by rw [hN]; decide) rfl ?_
    refine n_iload C dL_moved_80 rfl ?_
    refine n_sipush (x := 180) C dL_moved_82 (by decide) ?_
    refine n_icmp_gt C 110 dL_moved_85 (by decide) (by unfold rg; omega) (by unfold rg; omega) (fun b85 => ?_) (fun b85 => ?_)
    · refine n_iload C dL_moved_110 rfl ?_
      refine n_iload C dL_moved_112 rfl ?_
      refine n_icmp_gt C 121 dL_moved_114 (by decide) (by unfold rg; omega) (by unfold rg; omega) (fun b114 => ?_) (fun b114 => ?_)
      · refine n_iload_n C dL_moved_121 rfl ?_
        refine n_iload C dL_moved_122 rfl ?_
        refine n_isub C dL_moved_124 ?_
        refine n_sipush (x := 360) C dL_moved_125 (by decide) ?_
        refine n_iadd C dL_moved_128 ?_
        refine n_sipush (x := 360) C dL_moved_129 (by decide) ?_
        refine n_iremP C dL_moved_132 (by unfold rg; omega) (by unfold rg; omega) (by omega) (by omega) ?_
        exact n_ireturn C Rr rfl ⟨by rw [mv_t ha hm0 ⟨by omega, by omega⟩ (by omega), if_neg (by omega), if_neg (by omega)], rfl⟩ (by omega) (by omega) dL_moved_133
      · refine n_iload_n C dL_moved_117 rfl ?_
        refine n_goto C 133 dL_moved_118 (by decide) ?_
        exact n_ireturn C Rr rfl ⟨by rw [mv_t ha hm0 ⟨by omega, by omega⟩ (by omega), if_neg (by omega), if_pos (by omega)], rfl⟩ (by omega) (by omega) dL_moved_133
    · refine n_iload C dL_moved_88 rfl ?_
      refine n_iload C dL_moved_90 rfl ?_
      refine n_icmp_gt C 99 dL_moved_92 (by decide) (by unfold rg; omega) (by unfold rg; omega) (fun b92 => ?_) (fun b92 => ?_)
      · refine n_iload_n C dL_moved_99 rfl ?_
        refine n_iload C dL_moved_100 rfl ?_
        refine n_iadd C dL_moved_102 ?_
        refine n_sipush (x := 360) C dL_moved_103 (by decide) ?_
        refine n_iremP C dL_moved_106 (by unfold rg; omega) (by unfold rg; omega) (by omega) (by omega) ?_
        refine n_goto C 133 dL_moved_107 (by decide) ?_
        exact n_ireturn C Rr rfl ⟨by rw [mv_t ha hm0 ⟨by omega, by omega⟩ (by omega), if_pos (by omega), if_neg (by omega)], rfl⟩ (by omega) (by omega) dL_moved_133
      · refine n_iload_n C dL_moved_95 rfl ?_
        refine n_goto C 133 dL_moved_96 (by decide) ?_
        exact n_ireturn C Rr rfl ⟨by rw [mv_t ha hm0 ⟨by omega, by omega⟩ (by omega), if_pos (by omega), if_pos (by omega)], rfl⟩ (by omega) (by omega) dL_moved_133
  · refine n_iload_n C dL_moved_18 rfl ?_
    refine n_iload_n C dL_moved_19 rfl ?_
    refine n_icmp_le C 42 dL_moved_20 (by decide) (by unfold rg; omega) (by unfold rg; omega) (fun b20 => ?_) (fun b20 => ?_)
    · refine n_iload_n C dL_moved_42 rfl ?_
      refine n_iload C dL_moved_43 rfl ?_
      refine n_isub C dL_moved_45 ?_
      refine n_iload_n C dL_moved_46 rfl ?_
      refine n_icmp_le C 57 dL_moved_47 (by decide) (by unfold rg; omega) (by unfold rg; omega) (fun b47 => ?_) (fun b47 => ?_)
      · refine n_iload_n C dL_moved_57 rfl ?_
        exact n_ireturn C Rr rfl ⟨by rw [mv_w (x := m0) (by omega) (by omega) (by omega)], rfl⟩ (by omega) (by omega) dL_moved_58
      · refine n_iload_n C dL_moved_50 rfl ?_
        refine n_iload C dL_moved_51 rfl ?_
        refine n_isub C dL_moved_53 ?_
        refine n_goto C 58 dL_moved_54 (by decide) ?_
        exact n_ireturn C Rr rfl ⟨by rw [mv_w (x := (a - (c 4 i))) (by omega) (by omega) (by omega)], rfl⟩ (by omega) (by omega) dL_moved_58
    · refine n_iload_n C dL_moved_23 rfl ?_
      refine n_iload C dL_moved_24 rfl ?_
      refine n_iadd C dL_moved_26 ?_
      refine n_iload_n C dL_moved_27 rfl ?_
      refine n_icmp_ge C 38 dL_moved_28 (by decide) (by unfold rg; omega) (by unfold rg; omega) (fun b28 => ?_) (fun b28 => ?_)
      · refine n_iload_n C dL_moved_38 rfl ?_
        refine n_goto C 58 dL_moved_39 (by decide) ?_
        exact n_ireturn C Rr rfl ⟨by rw [mv_w (x := m0) (by omega) (by omega) (by omega)], rfl⟩ (by omega) (by omega) dL_moved_58
      · refine n_iload_n C dL_moved_31 rfl ?_
        refine n_iload C dL_moved_32 rfl ?_
        refine n_iadd C dL_moved_34 ?_
        refine n_goto C 58 dL_moved_35 (by decide) ?_
        exact n_ireturn C Rr rfl ⟨by rw [mv_w (x := (a + (c 4 i))) (by omega) (by omega) (by omega)], rfl⟩ (by omega) (by omega) dL_moved_58
