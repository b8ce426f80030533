section RS8
def bB (c : Tb) (L : Nat) : Nat → Int := fun q => c 7 q * L
def eE (c : Tb) (L : Nat) : Nat → Int := fun q => c 7 q * L + cnt c L q ((c 12 0).toNat * L)
theorem of_can {c : Tb} {L : Nat} {M : Tb} (h : PL c L M) {q : Nat} {w : Int} : ofP c (M 22) (M 23) q w ↔ ofP c (bB c L) (eE c L) q w := by
  unfold ofP bB eE
  have h1 := h.2.2.1 q
  have h2 := cnt_rg c L q ((c 12 0).toNat * L)
  constructor
  · intro ⟨a1, a2, a3, a4⟩
    have := h1 a1
    exact ⟨a1, a2, by omega, a4⟩
  · intro ⟨a1, a2, a3, a4⟩
    have := h1 a1
    exact ⟨a1, a2, by omega, a4⟩
theorem of_B {c : Tb} {L : Nat} {M : Tb} (h : PL c L M) {q : Nat} {w : Int} (ho : ofP c (M 22) (M 23) q w) : M 22 q = bB c L q ∧ M 23 q = eE c L q := by
  unfold bB eE
  have h1 := h.2.2.1 q ho.1
  have h2 := ho.2.2.1
  have h3 := h1.2 (by omega)
  exact ⟨h3, by omega⟩
theorem nxN_of (c : Tb) (B E : Nat → Int) (q : Nat) (w : Int) : ∀ k : Nat, nxN c B E q w k = -1 ∨ ofP c B E (nxN c B E q w k).toNat w
  | 0 => Or.inl rfl
  | k + 1 => by
    unfold nxN
    by_cases h : ofP c B E k w ∧ ahP B q k ∧ (nxN c B E q w k = -1 ∨ ahP B k (nxN c B E q w k).toNat)
    · rw [if_pos h]
      exact Or.inr (by rw [Int.toNat_natCast]; exact h.1)
    · rw [if_neg h]
      exact nxN_of c B E q w k
theorem nx_can {c : Tb} {L : Nat} {M : Tb} (h : PL c L M) {q : Nat} {w : Int} (hq : ofP c (M 22) (M 23) q w) : ∀ k : Nat, nxN c (M 22) (M 23) q w k = nxN c (bB c L) (eE c L) q w k
  | 0 => rfl
  | k + 1 => by
    have ih := nx_can h hq k
    have hf := nxN_of c (M 22) (M 23) q w k
    unfold nxN
    rw [← ih]
    have e : (ofP c (M 22) (M 23) k w ∧ ahP (M 22) q k ∧ (nxN c (M 22) (M 23) q w k = -1 ∨ ahP (M 22) k (nxN c (M 22) (M 23) q w k).toNat)) ↔ (ofP c (bB c L) (eE c L) k w ∧ ahP (bB c L) q k ∧ (nxN c (M 22) (M 23) q w k = -1 ∨ ahP (bB c L) k (nxN c (M 22) (M 23) q w k).toNat)) := by
      rw [← of_can h]
      by_cases hk : ofP c (M 22) (M 23) k w
      · have b1 := (of_B h hq).1
        have b2 := (of_B h hk).1
        rcases hf with hf | hf
        · unfold ahP
          rw [b1, b2]
          simp only [hf, true_or]
        · have b3 := (of_B h hf).1
          unfold ahP
          rw [b1, b2, b3]
      · exact ⟨fun z => absurd z.1 hk, fun z => absurd z.1 hk⟩
    by_cases z : ofP c (M 22) (M 23) k w ∧ ahP (M 22) q k ∧ (nxN c (M 22) (M 23) q w k = -1 ∨ ahP (M 22) k (nxN c (M 22) (M 23) q w k).toNat)
    · rw [if_pos z, if_pos (e.mp z)]
    · rw [if_neg z, if_neg (fun y => z (e.mpr y))]
theorem cl_can {c : Tb} {L : Nat} {M : Tb} (h : PL c L M) {w : Int} : ∀ k : Nat, clN c (M 22) (M 23) w k = clN c (bB c L) (eE c L) w k
  | 0 => rfl
  | k + 1 => by
    unfold clN
    rw [cl_can h k]
    congr 1
    by_cases hk : ofP c (M 22) (M 23) k w
    · have e : nxO c (M 22) (M 23) k w = nxO c (bB c L) (eE c L) k w := nx_can h hk _
      have hf := nxN_of c (M 22) (M 23) k w (c 6 0).toNat
      have e2 : nxN c (M 22) (M 23) k w (c 6 0).toNat = nxO c (bB c L) (eE c L) k w := e
      rw [e2] at hf
      rw [e]
      have b := (of_B h hk).2
      have hk2 := (of_can h).mp hk
      rcases hf with hf | hf
      · rw [if_neg (fun z => z.2.1 hf), if_neg (fun z => z.2.1 hf)]
      · have b1 := (of_B h hf).1
        by_cases z : nxO c (bB c L) (eE c L) k w ≠ -1 ∧ bB c L (nxO c (bB c L) (eE c L) k w).toNat < eE c L k + c 15 0
        · rw [if_pos ⟨hk, z.1, by rw [b1, b]; exact z.2⟩, if_pos ⟨hk2, z⟩]
        · rw [if_neg (fun y => z ⟨y.2.1, by have y2 := y.2.2; rw [b1, b] at y2; exact y2⟩), if_neg (fun y => z y.2)]
    · rw [if_neg (fun z => hk z.1), if_neg (fun z => hk ((of_can h).mpr z.1))]
theorem wt_can {c : Tb} {L : Nat} {M : Tb} (h : PL c L M) {w t : Int} : ∀ k : Nat, wtB c (M 22) (M 23) w t k = wtB c (bB c L) (eE c L) w t k
  | 0 => rfl
  | k + 1 => by
    unfold wtB
    rw [wt_can h k]
    congr 1
    by_cases hk : ofP c (M 22) (M 23) k w
    · have b := of_B h hk
      have e : (ofP c (M 22) (M 23) k w ∧ M 22 k ≤ t ∧ t ≤ M 23 k - 1) ↔ (ofP c (bB c L) (eE c L) k w ∧ bB c L k ≤ t ∧ t ≤ eE c L k - 1) := by
        rw [← of_can h, b.1, b.2]
      exact decide_eq_decide.mpr e
    · exact decide_eq_decide.mpr ⟨fun z => absurd z.1 hk, fun z => absurd ((of_can h).mpr z.1) hk⟩
theorem ov_can {c : Tb} {L : Nat} {M : Tb} (h : PL c L M) {w : Int} : ∀ k : Nat, ovN c (M 22) (M 23) w k = ovN c (bB c L) (eE c L) w k
  | 0 => rfl
  | k + 1 => by
    unfold ovN
    rw [ov_can h k, wt_can h]
/-- the last tick -/
def NT (c : Tb) (L : Nat) : Nat := (c 12 0).toNat * L
def FINE (c : Tb) (L : Nat) : Prop := (mtP c L (NT c L + 1)).1 = -1 ∧ (∀ q : Nat, (q : Int) < c 6 0 → ¬ ofP c (bB c L) (eE c L) q (-1)) ∧ ∀ w : Nat, w < 6 → clN c (bB c L) (eE c L) w (c 6 0).toNat = 0
noncomputable def fsF (c : Tb) : Nat → Int
  | 0 => -1
  | n + 1 => @ite Int (FINE c (lenB c (40 + 10 * (n + 1 : Nat))).toNat) (Classical.propDecidable _) (40 + 10 * (n + 1 : Nat)) (fsF c n)
def vlTakes (c : Tb) (a : Int) : Int := cnt c (LL c) a.toNat (NT c (LL c))
def vlClashes (c : Tb) (w : Int) : Int := clN c (bB c (LL c)) (eE c (LL c)) w (c 6 0).toNat
def vlOver (c : Tb) (w : Int) : Int := ovN c (bB c (LL c)) (eE c (LL c)) w (NT c (LL c) - (c 16 0).toNat)
end RS8
set_option maxRecDepth 100000 in
set_option maxHeartbeats 4000000 in
theorem c_rmeeting {g : Gx} (hst : g.1.stackTraces = false) {o : Nat} {ar : Nat → Nat} {β : Wd} {M c : Tb} (I : RI o ar) {σ : Wd} (hM : MW g.2.1 o ar β M σ) (hc : cut M = c) (hw : WF c) : CT g yX3_meeting cX3_meeting 1 (some .int) 4 0 0 [.ref o] σ (fun r σ' => ∃ M', r = some (iv (mtP c (LL c) (NT c (LL c) + 1)).1) ∧ MW g.2.1 o ar β M' σ' ∧ cut M' = c ∧ M' 26 0 = 0) (fun _ _ => False) := by
  refine CT.of hst (by decide +kernel) (Nat.le_of_ble_eq_true rfl) (fun Φ C Rr hY hN => ?_)
  show N Φ 0 0 σ 0 [(0, .ref o)] []
  obtain ⟨w0, w6, w12, w13, w14, w15, w16, wm, wq, ww⟩ := id hw
  refine n_aload_n C dX3_meeting_0 rfl ?_
  refine n_iconst (x := 0) C dX3_meeting_1 ?_
  refine r_put C I hM 26 (by decide) rfl w4_154 rfl rfl rfl rfl dX3_meeting_2 (fun σ hM => ?_)
  replace hc : cut (tu M 26 0 0) = c := (cut_tu (by decide)).trans hc
  refine n_aload_n C dX3_meeting_5 rfl ?_
  refine n_aload_n C dX3_meeting_6 rfl ?_
  refine r_getc C hM hc 14 (by decide) w4_142 rfl rfl dX3_meeting_7 ?_
  refine n_invV C (c_plays hst I hM hc hw (by omega)) ⟨w5_68, w5_71, w1_5, ⟨by decide, by decide⟩, by show _ = some 1; decide +kernel, by decide⟩ w5_70 wp_32 hM.1 (show vwCl[6]? = some ("OperaMachinesModel", TX3, 27) from rfl) (by decide) (by omega) (by omega) (Nat.le_of_ble_eq_true rfl) rfl dX3_meeting_10 (fun r σ h => ?_) (fun _ _ h => h.elim)
  obtain ⟨M2, rfl, hM, hc, p26, hPL⟩ := h
  refine n_aload_n C dX3_meeting_13 rfl ?_
  refine r_get C hM 24 (by decide) w4_152 rfl rfl dX3_meeting_14 ?_
  exact n_ireturn C Rr rfl ⟨_, by rw [hPL.1]; rfl, hM, hc, by rw [p26, tu_s]⟩ (by omega) (by omega) dX3_meeting_17
set_option maxRecDepth 100000 in
set_option maxHeartbeats 4000000 in
theorem c_rmeeters {g : Gx} (hst : g.1.stackTraces = false) {o : Nat} {ar : Nat → Nat} {β : Wd} {M c : Tb} (I : RI o ar) {σ : Wd} (hM : MW g.2.1 o ar β M σ) (hc : cut M = c) (hw : WF c) : CT g yX3_meeters cX3_meeters 1 (some .int) 4 0 0 [.ref o] σ (fun r σ' => ∃ M', r = some (iv (mtP c (LL c) (NT c (LL c) + 1)).2) ∧ MW g.2.1 o ar β M' σ' ∧ cut M' = c ∧ M' 26 0 = 0) (fun _ _ => False) := by
  refine CT.of hst (by decide +kernel) (Nat.le_of_ble_eq_true rfl) (fun Φ C Rr hY hN => ?_)
  show N Φ 0 0 σ 0 [(0, .ref o)] []
  obtain ⟨w0, w6, w12, w13, w14, w15, w16, wm, wq, ww⟩ := id hw
  refine n_aload_n C dX3_meeters_0 rfl ?_
  refine n_iconst (x := 0) C dX3_meeters_1 ?_
  refine r_put C I hM 26 (by decide) rfl w4_154 rfl rfl rfl rfl dX3_meeters_2 (fun σ hM => ?_)
  replace hc : cut (tu M 26 0 0) = c := (cut_tu (by decide)).trans hc
  refine n_aload_n C dX3_meeters_5 rfl ?_
  refine n_aload_n C dX3_meeters_6 rfl ?_
  refine r_getc C hM hc 14 (by decide) w4_142 rfl rfl dX3_meeters_7 ?_
  refine n_invV C (c_plays hst I hM hc hw (by omega)) ⟨w5_68, w5_71, w1_5, ⟨by decide, by decide⟩, by show _ = some 1; decide +kernel, by decide⟩ w5_70 wp_32 hM.1 (show vwCl[6]? = some ("OperaMachinesModel", TX3, 27) from rfl) (by decide) (by omega) (by omega) (Nat.le_of_ble_eq_true rfl) rfl dX3_meeters_10 (fun r σ h => ?_) (fun _ _ h => h.elim)
  obtain ⟨M2, rfl, hM, hc, p26, hPL⟩ := h
  refine n_aload_n C dX3_meeters_13 rfl ?_
  refine r_get C hM 25 (by decide) w4_153 rfl rfl dX3_meeters_14 ?_
  exact n_ireturn C Rr rfl ⟨_, by rw [hPL.2.1]; rfl, hM, hc, by rw [p26, tu_s]⟩ (by omega) (by omega) dX3_meeters_17
set_option maxRecDepth 100000 in
set_option maxHeartbeats 4000000 in
theorem c_rtakes {g : Gx} (hst : g.1.stackTraces = false) {a : Int} (hra : rg a) {o : Nat} {ar : Nat → Nat} {β : Wd} {M c : Tb} (I : RI o ar) {σ : Wd} (hM : MW g.2.1 o ar β M σ) (hc : cut M = c) (hw : WF c) : CT g yX3_takes cX3_takes 2 (some .int) 4 0 0 [.ref o, iv a] σ (fun r σ' => ∃ (x : Int) (M' : Tb), r = some (iv x) ∧ MW g.2.1 o ar β M' σ' ∧ M' 26 0 = cdIs c a ∧ (cdIs c a = 0 → x = vlTakes c a) ∧ cut M' = c) (fun _ _ => False) := by
  refine CT.of hst (by decide +kernel) (Nat.le_of_ble_eq_true rfl) (fun Φ C Rr hY hN => ?_)
  show N Φ 0 0 σ 0 [(0, .ref o), (1, iv a)] []
  unfold rg at hra
  obtain ⟨w0, w6, w12, w13, w14, w15, w16, wm, wq, ww⟩ := id hw
  refine n_aload_n C dX3_takes_0 rfl ?_
  refine n_aload_n C dX3_takes_1 rfl ?_
  refine n_iload_n C dX3_takes_2 rfl ?_
  refine n_invV C (c_isCue hst (by unfold rg; omega) I hM hc hw) ⟨w5_8, w5_11, w1_5, ⟨by decide, by decide⟩, by show _ = some 1; decide +kernel, by decide⟩ w5_10 wp_26 hM.1 (show vwCl[6]? = some ("OperaMachinesModel", TX3, 27) from rfl) (by decide) (by omega) (by omega) (Nat.le_of_ble_eq_true rfl) rfl dX3_takes_3 (fun r σ' h => ?_) (fun _ _ h => h.elim)
  obtain ⟨x0, rfl, rfl, hx0⟩ := h
  refine n_if_eq C 13 dX3_takes_6 (by decide) (by unfold rg; omega) (fun b6 => ?_) (fun b6 => ?_)
  · refine n_iconst (x := 1) C dX3_takes_13 ?_
    refine n_invV C (c_can hst (by omega) I hM hc) ⟨w4_221, w4_224, w1_5, ⟨by decide, by decide⟩, by show _ = some 1; decide +kernel, by decide⟩ w4_223 wp_24 hM.1 (show vwCl[6]? = some ("OperaMachinesModel", TX3, 27) from rfl) (by decide) (by omega) (by omega) (Nat.le_of_ble_eq_true rfl) rfl dX3_takes_14 (fun r σ h => ?_) (fun _ _ h => h.elim)
    obtain ⟨xc, M1, rfl, hM, hc, h26, hxc⟩ := h
    refine n_if_ne C 22 dX3_takes_17 (by decide) (by unfold rg; omega) (fun b17 => ?_) (fun b17 => ?_)
    · exfalso; omega
    · have hcd : cdIs c a = 1 := by unfold cdIs; rw [if_neg (by omega)]
      refine n_iconst (x := 0) C dX3_takes_20 ?_
      exact n_ireturn C Rr rfl ⟨_, _, rfl, hM, h26.trans hcd.symm, fun q => absurd (hcd.symm.trans q) (by decide), hc⟩ (by omega) (by omega) dX3_takes_21
  · refine n_iconst (x := 0) C dX3_takes_9 ?_
    refine n_goto C 14 dX3_takes_10 (by decide) ?_
    refine n_invV C (c_can hst (by omega) I hM hc) ⟨w4_221, w4_224, w1_5, ⟨by decide, by decide⟩, by show _ = some 1; decide +kernel, by decide⟩ w4_223 wp_24 hM.1 (show vwCl[6]? = some ("OperaMachinesModel", TX3, 27) from rfl) (by decide) (by omega) (by omega) (Nat.le_of_ble_eq_true rfl) rfl dX3_takes_14 (fun r σ h => ?_) (fun _ _ h => h.elim)
    obtain ⟨xc, M1, rfl, hM, hc, h26, hxc⟩ := h
    refine n_if_ne C 22 dX3_takes_17 (by decide) (by unfold rg; omega) (fun b17 => ?_) (fun b17 => ?_)
    · have hcd : cdIs c a = 0 := by unfold cdIs; rw [if_pos (by omega)]
      obtain ⟨q, rfl⟩ : ∃ q : Nat, a = q := ⟨a.toNat, by omega⟩
      refine n_aload_n C dX3_takes_22 rfl ?_
      refine n_aload_n C dX3_takes_23 rfl ?_
      refine r_getc C hM hc 14 (by decide) w4_142 rfl rfl dX3_takes_24 ?_
      refine n_invV C (c_plays hst I hM hc hw (by omega)) ⟨w5_68, w5_71, w1_5, ⟨by decide, by decide⟩, by show _ = some 1; decide +kernel, by decide⟩ w5_70 wp_32 hM.1 (show vwCl[6]? = some ("OperaMachinesModel", TX3, 27) from rfl) (by decide) (by omega) (by omega) (Nat.le_of_ble_eq_true rfl) rfl dX3_takes_27 (fun r σ h => ?_) (fun _ _ h => h.elim)
      obtain ⟨M2, rfl, hM, hc, p26, hPL⟩ := h
      have e := (hPL.2.2.1 q (by omega)).1
      refine n_aload_n C dX3_takes_30 rfl ?_
      refine r_get C hM 23 (by decide) w4_151 rfl rfl dX3_takes_31 ?_
      refine n_iload_n C dX3_takes_34 rfl ?_
      refine r_iald C hM 23 rfl rfl q rfl (show _ < 24 by omega) dX3_takes_35 ?_
      refine n_aload_n C dX3_takes_36 rfl ?_
      refine r_get C hM 22 (by decide) w4_150 rfl rfl dX3_takes_37 ?_
      refine n_iload_n C dX3_takes_40 rfl ?_
      refine r_iald C hM 22 rfl rfl q rfl (show _ < 24 by omega) dX3_takes_41 ?_
      refine n_isub C dX3_takes_42 ?_
      exact n_ireturn C Rr rfl ⟨_, _, rfl, hM, (p26.trans h26).trans hcd.symm, fun _ => by rw [e]; unfold vlTakes NT LL; rw [Int.toNat_natCast]; omega, hc⟩ (by omega) (by omega) dX3_takes_43
    · exfalso; omega
set_option maxRecDepth 100000 in
set_option maxHeartbeats 4000000 in
theorem c_rclashes {g : Gx} (hst : g.1.stackTraces = false) {a : Int} (hra : rg a) {o : Nat} {ar : Nat → Nat} {β : Wd} {M c : Tb} (I : RI o ar) {σ : Wd} (hM : MW g.2.1 o ar β M σ) (hc : cut M = c) (hw : WF c) : CT g yX3_clashes cX3_clashes 2 (some .int) 4 0 0 [.ref o, iv a] σ (fun r σ' => ∃ (x : Int) (M' : Tb), r = some (iv x) ∧ MW g.2.1 o ar β M' σ' ∧ M' 26 0 = cdWork a ∧ (cdWork a = 0 → x = vlClashes c a) ∧ cut M' = c) (fun _ _ => False) := by
  refine CT.of hst (by decide +kernel) (Nat.le_of_ble_eq_true rfl) (fun Φ C Rr hY hN => ?_)
  show N Φ 0 0 σ 0 [(0, .ref o), (1, iv a)] []
  unfold rg at hra
  obtain ⟨w0, w6, w12, w13, w14, w15, w16, wm, wq, ww⟩ := id hw
  refine n_aload_n C dX3_clashes_0 rfl ?_
  refine n_iload_n C dX3_clashes_1 rfl ?_
  refine n_invS C (c_isWorker hst (by unfold rg; omega)) ⟨w5_1, w5_3, w1_5, ⟨by decide, by decide⟩, by show _ = some 1; decide +kernel, by decide⟩ w5_2 (by decide) (by omega) (by omega) (Nat.le_of_ble_eq_true rfl) rfl dX3_clashes_2 (fun r σ' h => ?_) (fun _ _ h => h.elim)
  obtain ⟨x0, rfl, rfl, hx0⟩ := h
  refine n_if_eq C 12 dX3_clashes_5 (by decide) (by unfold rg; omega) (fun b5 => ?_) (fun b5 => ?_)
  · refine n_iconst (x := 1) C dX3_clashes_12 ?_
    refine n_invV C (c_can hst (by omega) I hM hc) ⟨w4_221, w4_224, w1_5, ⟨by decide, by decide⟩, by show _ = some 1; decide +kernel, by decide⟩ w4_223 wp_24 hM.1 (show vwCl[6]? = some ("OperaMachinesModel", TX3, 27) from rfl) (by decide) (by omega) (by omega) (Nat.le_of_ble_eq_true rfl) rfl dX3_clashes_13 (fun r σ h => ?_) (fun _ _ h => h.elim)
    obtain ⟨xc, M1, rfl, hM, hc, h26, hxc⟩ := h
    refine n_if_ne C 21 dX3_clashes_16 (by decide) (by unfold rg; omega) (fun b16 => ?_) (fun b16 => ?_)
    · exfalso; omega
    · have hcd : cdWork a = 1 := by unfold cdWork; rw [if_neg (by omega)]
      refine n_iconst (x := 0) C dX3_clashes_19 ?_
      exact n_ireturn C Rr rfl ⟨_, _, rfl, hM, h26.trans hcd.symm, fun q => absurd (hcd.symm.trans q) (by decide), hc⟩ (by omega) (by omega) dX3_clashes_20
  · refine n_iconst (x := 0) C dX3_clashes_8 ?_
    refine n_goto C 13 dX3_clashes_9 (by decide) ?_
    refine n_invV C (c_can hst (by omega) I hM hc) ⟨w4_221, w4_224, w1_5, ⟨by decide, by decide⟩, by show _ = some 1; decide +kernel, by decide⟩ w4_223 wp_24 hM.1 (show vwCl[6]? = some ("OperaMachinesModel", TX3, 27) from rfl) (by decide) (by omega) (by omega) (Nat.le_of_ble_eq_true rfl) rfl dX3_clashes_13 (fun r σ h => ?_) (fun _ _ h => h.elim)
    obtain ⟨xc, M1, rfl, hM, hc, h26, hxc⟩ := h
    refine n_if_ne C 21 dX3_clashes_16 (by decide) (by unfold rg; omega) (fun b16 => ?_) (fun b16 => ?_)
    · have hcd : cdWork a = 0 := by unfold cdWork; rw [if_pos (by omega)]
      refine n_aload_n C dX3_clashes_21 rfl ?_
      refine n_aload_n C dX3_clashes_22 rfl ?_
      refine r_getc C hM hc 14 (by decide) w4_142 rfl rfl dX3_clashes_23 ?_
      refine n_invV C (c_plays hst I hM hc hw (by omega)) ⟨w5_68, w5_71, w1_5, ⟨by decide, by decide⟩, by show _ = some 1; decide +kernel, by decide⟩ w5_70 wp_32 hM.1 (show vwCl[6]? = some ("OperaMachinesModel", TX3, 27) from rfl) (by decide) (by omega) (by omega) (Nat.le_of_ble_eq_true rfl) rfl dX3_clashes_26 (fun r σ h => ?_) (fun _ _ h => h.elim)
      obtain ⟨M2, rfl, hM, hc, p26, hPL⟩ := h
      refine n_aload_n C dX3_clashes_29 rfl ?_
      refine n_iload_n C dX3_clashes_30 rfl ?_
      refine n_invV C (c_clashesOf hst I hM hc hw hPL.2.2.2 (by omega)) ⟨w5_100, w5_103, w1_5, ⟨by decide, by decide⟩, by show _ = some 1; decide +kernel, by decide⟩ w5_102 wp_36 hM.1 (show vwCl[6]? = some ("OperaMachinesModel", TX3, 27) from rfl) (by decide) (by omega) (by omega) (Nat.le_of_ble_eq_true rfl) rfl dX3_clashes_31 (fun r σ' h => ?_) (fun _ _ h => h.elim)
      obtain ⟨rfl, rfl⟩ := h
      exact n_ireturn C Rr rfl ⟨_, _, rfl, hM, (p26.trans h26).trans hcd.symm, fun _ => by rw [cl_can hPL]; rfl, hc⟩ (by omega) (by omega) dX3_clashes_34
    · exfalso; omega
set_option maxRecDepth 100000 in
set_option maxHeartbeats 4000000 in
theorem c_rovertime {g : Gx} (hst : g.1.stackTraces = false) {a : Int} (hra : rg a) {o : Nat} {ar : Nat → Nat} {β : Wd} {M c : Tb} (I : RI o ar) {σ : Wd} (hM : MW g.2.1 o ar β M σ) (hc : cut M = c) (hw : WF c) : CT g yX3_overtime cX3_overtime 6 (some .int) 4 0 0 [.ref o, iv a] σ (fun r σ' => ∃ (x : Int) (M' : Tb), r = some (iv x) ∧ MW g.2.1 o ar β M' σ' ∧ M' 26 0 = cdWork a ∧ (cdWork a = 0 → x = vlOver c a) ∧ cut M' = c) (fun _ _ => False) := by
  refine CT.of hst (by decide +kernel) (Nat.le_of_ble_eq_true rfl) (fun Φ C Rr hY hN => ?_)
  show N Φ 0 0 σ 0 [(0, .ref o), (1, iv a)] []
  unfold rg at hra
  obtain ⟨w0, w6, w12, w13, w14, w15, w16, wm, wq, ww⟩ := id hw
  refine n_aload_n C dX3_overtime_0 rfl ?_
  refine n_iload_n C dX3_overtime_1 rfl ?_
  refine n_invS C (c_isWorker hst (by unfold rg; omega)) ⟨w5_1, w5_3, w1_5, ⟨by decide, by decide⟩, by show _ = some 1; decide +kernel, by decide⟩ w5_2 (by decide) (by omega) (by omega) (Nat.le_of_ble_eq_true rfl) rfl dX3_overtime_2 (fun r σ' h => ?_) (fun _ _ h => h.elim)
  obtain ⟨x0, rfl, rfl, hx0⟩ := h
  refine n_if_eq C 12 dX3_overtime_5 (by decide) (by unfold rg; omega) (fun b5 => ?_) (fun b5 => ?_)
  · refine n_iconst (x := 1) C dX3_overtime_12 ?_
    refine n_invV C (c_can hst (by omega) I hM hc) ⟨w4_221, w4_224, w1_5, ⟨by decide, by decide⟩, by show _ = some 1; decide +kernel, by decide⟩ w4_223 wp_24 hM.1 (show vwCl[6]? = some ("OperaMachinesModel", TX3, 27) from rfl) (by decide) (by omega) (by omega) (Nat.le_of_ble_eq_true rfl) rfl dX3_overtime_13 (fun r σ h => ?_) (fun _ _ h => h.elim)
    obtain ⟨xc, M1, rfl, hM, hc, h26, hxc⟩ := h
    refine n_if_ne C 21 dX3_overtime_16 (by decide) (by unfold rg; omega) (fun b16 => ?_) (fun b16 => ?_)
    · exfalso; omega
    · have hcd : cdWork a = 1 := by unfold cdWork; rw [if_neg (by omega)]
      refine n_iconst (x := 0) C dX3_overtime_19 ?_
      exact n_ireturn C Rr rfl ⟨_, _, rfl, hM, h26.trans hcd.symm, fun q => absurd (hcd.symm.trans q) (by decide), hc⟩ (by omega) (by omega) dX3_overtime_20
  · refine n_iconst (x := 0) C dX3_overtime_8 ?_
    refine n_goto C 13 dX3_overtime_9 (by decide) ?_
    refine n_invV C (c_can hst (by omega) I hM hc) ⟨w4_221, w4_224, w1_5, ⟨by decide, by decide⟩, by show _ = some 1; decide +kernel, by decide⟩ w4_223 wp_24 hM.1 (show vwCl[6]? = some ("OperaMachinesModel", TX3, 27) from rfl) (by decide) (by omega) (by omega) (Nat.le_of_ble_eq_true rfl) rfl dX3_overtime_13 (fun r σ h => ?_) (fun _ _ h => h.elim)
    obtain ⟨xc, M1, rfl, hM, hc, h26, hxc⟩ := h
    refine n_if_ne C 21 dX3_overtime_16 (by decide) (by unfold rg; omega) (fun b16 => ?_) (fun b16 => ?_)
    · have hcd : cdWork a = 0 := by unfold cdWork; rw [if_pos (by omega)]
      have hLr := lenB_rg hw (T := c 14 0) (by omega)
      have hLLe : lenB c (c 14 0) = (LL c : Int) := by unfold LL; omega
      have hNT : c 12 0 * (LL c : Int) = (NT c (LL c) : Int) := by unfold NT; rw [Int.natCast_mul, Int.toNat_of_nonneg (by omega)]
      have hNT2 : c 12 0 * (LL c : Int) ≤ 2400 := by
        have z1 : c 12 0 * (LL c : Int) ≤ 30 * (LL c : Int) := Int.mul_le_mul_of_nonneg_right (by omega) (by omega)
        omega
      refine n_aload_n C dX3_overtime_21 rfl ?_
      refine n_aload_n C dX3_overtime_22 rfl ?_
      refine r_getc C hM hc 14 (by decide) w4_142 rfl rfl dX3_overtime_23 ?_
      refine n_invV C (c_plays hst I hM hc hw (by omega)) ⟨w5_68, w5_71, w1_5, ⟨by decide, by decide⟩, by show _ = some 1; decide +kernel, by decide⟩ w5_70 wp_32 hM.1 (show vwCl[6]? = some ("OperaMachinesModel", TX3, 27) from rfl) (by decide) (by omega) (by omega) (Nat.le_of_ble_eq_true rfl) rfl dX3_overtime_26 (fun r σ h => ?_) (fun _ _ h => h.elim)
      obtain ⟨M2, rfl, hM, hc, p26, hPL⟩ := h
      have hBE := hPL.2.2.2
      refine n_iconst (x := 0) C dX3_overtime_29 ?_
      refine n_istore_n (lv' := [(2, iv 0), (0, .ref o), (1, iv a)]) C dX3_overtime_30 (by rw [hN]; decide) rfl ?_
      refine n_aload_n C dX3_overtime_31 rfl ?_
      refine r_getc C hM hc 16 (by decide) w4_144 rfl rfl dX3_overtime_32 ?_
      refine n_istore_n (lv' := [(3, iv (c 16 0)), (2, iv 0), (0, .ref o), (1, iv a)]) C dX3_overtime_35 (by rw [hN]; decide) rfl ?_
      have LP : ∀ (fu : Nat) (n : Nat) (f : Int) (hf : f = ovN c (M2 22) (M2 23) a n) (h1 : (n : Int) ≤ NT c (LL c) - (c 16 0).toNat ∨ n = 0) (h2 : NT c (LL c) - (c 16 0).toNat + 1 ≤ n + fu), N Φ 0 0 σ 36 [(3, iv (c 16 0 + (n : Int))), (2, iv f), (0, .ref o), (1, iv a)] [] := by
        intro fu
        induction fu with
        | zero =>
          intro n f hf h1 h2
          omega
        | succ fu ih =>
          intro n f hf h1 h2
          have or := ovN_rg c (M2 22) (M2 23) a n
          refine n_iload_n C dX3_overtime_36 rfl ?_
          refine n_aload_n C dX3_overtime_37 rfl ?_
          refine r_getc C hM hc 12 (by decide) w4_140 rfl rfl dX3_overtime_38 ?_
          refine n_aload_n C dX3_overtime_41 rfl ?_
          refine n_aload_n C dX3_overtime_42 rfl ?_
          refine r_getc C hM hc 14 (by decide) w4_142 rfl rfl dX3_overtime_43 ?_
          refine n_invV C (c_lengthBy hst (by omega) I hM hc hw) ⟨w5_32, w5_35, w1_5, ⟨by decide, by decide⟩, by show _ = some 1; decide +kernel, by decide⟩ w5_34 wp_27 hM.1 (show vwCl[6]? = some ("OperaMachinesModel", TX3, 27) from rfl) (by decide) (by omega) (by omega) (Nat.le_of_ble_eq_true rfl) rfl dX3_overtime_46 (fun r σ' h => ?_) (fun _ _ h => h.elim)
          obtain ⟨rfl, hσ⟩ := h
          rw [hσ, hLLe]
          refine n_imul C dX3_overtime_49 ?_
          rw [hNT]
          refine n_icmp_ge C 138 dX3_overtime_50 (by decide) (by unfold rg; omega) (by unfold rg; omega) (fun b50 => ?_) (fun b50 => ?_)
          · refine n_iload_n C dX3_overtime_138 rfl ?_
            exact n_ireturn C Rr rfl ⟨_, _, rfl, hM, (p26.trans h26).trans hcd.symm, fun _ => by rw [hf, ov_can hPL]; unfold vlOver; rw [show NT c (LL c) - (c 16 0).toNat = n by omega]; rfl, hc⟩ (by omega) (by omega) dX3_overtime_139
          · refine n_iconst (x := 0) C dX3_overtime_53 ?_
            refine n_istore (lv' := [(4, iv 0), (3, iv (c 16 0 + (n : Int))), (2, iv f), (0, .ref o), (1, iv a)]) C dX3_overtime_54 (by rw [hN]; decide) rfl ?_
            refine n_iconst (x := 0) C dX3_overtime_56 ?_
            refine n_istore (lv' := [(5, iv 0), (4, iv 0), (3, iv (c 16 0 + (n : Int))), (2, iv f), (0, .ref o), (1, iv a)]) C dX3_overtime_57 (by rw [hN]; decide) rfl ?_
            have LP2 : ∀ (fuX : Nat) (k : Nat) (v : Int) (hv : v = if wtB c (M2 22) (M2 23) a (c 16 0 + n) k = true then 1 else 0) (h1 : k ≤ c 6 0) (h2' : c 6 0 + 1 ≤ k + fuX), N Φ 0 0 σ 59 [(5, iv (k : Int)), (4, iv v), (3, iv (c 16 0 + (n : Int))), (2, iv f), (0, .ref o), (1, iv a)] [] := by
              intro fuX
              induction fuX with
              | zero =>
                intro k v hv h1 h2'
                omega
              | succ fuX ih2 =>
                intro k v hv h1 h2'
                have v01 : v = 0 ∨ v = 1 := by rw [hv]; split <;> omega
                refine n_iload C dX3_overtime_59 rfl ?_
                refine n_aload_n C dX3_overtime_61 rfl ?_
                refine r_getc C hM hc 6 (by decide) w4_134 rfl rfl dX3_overtime_62 ?_
                refine n_icmp_ge C 119 dX3_overtime_65 (by decide) (by unfold rg; omega) (by unfold rg; omega) (fun b65 => ?_) (fun b65 => ?_)
                · refine n_iload_n C dX3_overtime_119 rfl ?_
                  refine n_iload C dX3_overtime_120 rfl ?_
                  refine n_if_eq C 129 dX3_overtime_122 (by decide) (by unfold rg; omega) (fun b122 => ?_) (fun b122 => ?_)
                  · refine n_iconst (x := 0) C dX3_overtime_129 ?_
                    refine n_iadd C dX3_overtime_130 ?_
                    refine n_istore_n (lv' := [(2, iv (f + 0)), (5, iv (k : Int)), (4, iv v), (3, iv (c 16 0 + (n : Int))), (0, .ref o), (1, iv a)]) C dX3_overtime_131 (by rw [hN]; decide) rfl ?_
                    refine n_iinc (lv' := [(3, iv ((c 16 0 + (n : Int)) + 1)), (2, iv (f + 0)), (5, iv (k : Int)), (4, iv v), (0, .ref o), (1, iv a)]) C dX3_overtime_132 rfl (by rw [hN]; decide) rfl ?_
                    refine n_goto C 36 dX3_overtime_135 (by decide) ?_
                    refine n_keep (lv' := [(3, iv ((c 16 0 + (n : Int)) + 1)), (2, iv (f + 0)), (0, .ref o), (1, iv a)]) [3, 2, 0, 1] rfl ?_
                    have e3 : c 16 0 + (n : Int) + 1 = c 16 0 + ((n + 1 : Nat) : Int) := by omega
                    rw [e3]
                    exact ih (n + 1) _ (by rw [hf, show ovN c (M2 22) (M2 23) a (n + 1) = ovN c (M2 22) (M2 23) a n + (if wtB c (M2 22) (M2 23) a (c 16 0 + n) (c 6 0).toNat = true then 1 else 0) from rfl, show (c 6 0).toNat = k by omega, if_neg (fun z => by rw [if_pos z] at hv; omega)]) (by omega) (by omega)
                  · refine n_iconst (x := 1) C dX3_overtime_125 ?_
                    refine n_goto C 130 dX3_overtime_126 (by decide) ?_
                    refine n_iadd C dX3_overtime_130 ?_
                    refine n_istore_n (lv' := [(2, iv (f + 1)), (5, iv (k : Int)), (4, iv v), (3, iv (c 16 0 + (n : Int))), (0, .ref o), (1, iv a)]) C dX3_overtime_131 (by rw [hN]; decide) rfl ?_
                    refine n_iinc (lv' := [(3, iv ((c 16 0 + (n : Int)) + 1)), (2, iv (f + 1)), (5, iv (k : Int)), (4, iv v), (0, .ref o), (1, iv a)]) C dX3_overtime_132 rfl (by rw [hN]; decide) rfl ?_
                    refine n_goto C 36 dX3_overtime_135 (by decide) ?_
                    refine n_keep (lv' := [(3, iv ((c 16 0 + (n : Int)) + 1)), (2, iv (f + 1)), (0, .ref o), (1, iv a)]) [3, 2, 0, 1] rfl ?_
                    have e3 : c 16 0 + (n : Int) + 1 = c 16 0 + ((n + 1 : Nat) : Int) := by omega
                    rw [e3]
                    exact ih (n + 1) _ (by rw [hf, show ovN c (M2 22) (M2 23) a (n + 1) = ovN c (M2 22) (M2 23) a n + (if wtB c (M2 22) (M2 23) a (c 16 0 + n) (c 6 0).toNat = true then 1 else 0) from rfl, show (c 6 0).toNat = k by omega, if_pos (Classical.byContradiction (fun z => by rw [if_neg z] at hv; omega))]) (by omega) (by omega)
                · refine n_iload C dX3_overtime_68 rfl ?_
                  refine n_if_ne C 106 dX3_overtime_70 (by decide) (by unfold rg; omega) (fun b70 => ?_) (fun b70 => ?_)
                  · have hw1 : wtB c (M2 22) (M2 23) a (c 16 0 + n) k = true := Classical.byContradiction (fun z => by rw [if_neg z] at hv; omega)
                    refine n_iconst (x := 1) C dX3_overtime_106 ?_
                    refine n_goto C 111 dX3_overtime_107 (by decide) ?_
                    refine n_istore (lv' := [(4, iv 1), (5, iv (k : Int)), (3, iv (c 16 0 + (n : Int))), (2, iv f), (0, .ref o), (1, iv a)]) C dX3_overtime_111 (by rw [hN]; decide) rfl ?_
                    refine n_iinc (lv' := [(5, iv ((k : Int) + 1)), (4, iv 1), (3, iv (c 16 0 + (n : Int))), (2, iv f), (0, .ref o), (1, iv a)]) C dX3_overtime_113 rfl (by rw [hN]; decide) rfl ?_
                    refine n_goto C 59 dX3_overtime_116 (by decide) ?_
                    refine n_keep (lv' := [(5, iv ((k : Int) + 1)), (4, iv 1), (3, iv (c 16 0 + (n : Int))), (2, iv f), (0, .ref o), (1, iv a)]) [5, 4, 3, 2, 0, 1] rfl ?_
                    exact ih2 (k + 1) _ (by rw [show wtB c (M2 22) (M2 23) a (c 16 0 + n) (k + 1) = (wtB c (M2 22) (M2 23) a (c 16 0 + n) k || decide (ofP c (M2 22) (M2 23) k a ∧ M2 22 k ≤ c 16 0 + n ∧ c 16 0 + n ≤ M2 23 k - 1)) from rfl]; rw [hw1, if_pos (by rw [Bool.true_or])]) (by omega) (by omega)
                  · have hw0 : wtB c (M2 22) (M2 23) a (c 16 0 + n) k = false := by
                      cases z : wtB c (M2 22) (M2 23) a (c 16 0 + n) k with
                      | false => rfl
                      | true => rw [if_pos z] at hv; omega
                    have e0 := hBE k (by omega)
                    refine n_aload_n C dX3_overtime_73 rfl ?_
                    refine n_iload C dX3_overtime_74 rfl ?_
                    refine n_iload_n C dX3_overtime_76 rfl ?_
                    refine n_invV C (c_isOf hst I hM hc hw hBE (q := k) (by omega) (by omega)) ⟨w5_104, w5_107, w1_5, ⟨by decide, by decide⟩, by show _ = some 2; decide +kernel, by decide⟩ w5_106 wp_37 hM.1 (show vwCl[6]? = some ("OperaMachinesModel", TX3, 27) from rfl) (by decide) (by omega) (by omega) (Nat.le_of_ble_eq_true rfl) rfl dX3_overtime_77 (fun r σ' h => ?_) (fun _ _ h => h.elim)
                    obtain ⟨x73, rfl, rfl, hx73⟩ := h
                    refine n_if_eq C 110 dX3_overtime_80 (by decide) (by unfold rg; omega) (fun b80 => ?_) (fun b80 => ?_)
                    · refine n_iconst (x := 0) C dX3_overtime_110 ?_
                      refine n_istore (lv' := [(4, iv 0), (5, iv (k : Int)), (3, iv (c 16 0 + (n : Int))), (2, iv f), (0, .ref o), (1, iv a)]) C dX3_overtime_111 (by rw [hN]; decide) rfl ?_
                      refine n_iinc (lv' := [(5, iv ((k : Int) + 1)), (4, iv 0), (3, iv (c 16 0 + (n : Int))), (2, iv f), (0, .ref o), (1, iv a)]) C dX3_overtime_113 rfl (by rw [hN]; decide) rfl ?_
                      refine n_goto C 59 dX3_overtime_116 (by decide) ?_
                      refine n_keep (lv' := [(5, iv ((k : Int) + 1)), (4, iv 0), (3, iv (c 16 0 + (n : Int))), (2, iv f), (0, .ref o), (1, iv a)]) [5, 4, 3, 2, 0, 1] rfl ?_
                      exact ih2 (k + 1) _ (by rw [show wtB c (M2 22) (M2 23) a (c 16 0 + n) (k + 1) = (wtB c (M2 22) (M2 23) a (c 16 0 + n) k || decide (ofP c (M2 22) (M2 23) k a ∧ M2 22 k ≤ c 16 0 + n ∧ c 16 0 + n ≤ M2 23 k - 1)) from rfl]; rw [hw0, Bool.false_or, if_neg (by rw [decide_eq_true_eq]; intro z; omega)]) (by omega) (by omega)
                    · refine n_iload_n C dX3_overtime_83 rfl ?_
                      refine n_aload_n C dX3_overtime_84 rfl ?_
                      refine r_get C hM 22 (by decide) w4_150 rfl rfl dX3_overtime_85 ?_
                      refine n_iload C dX3_overtime_88 rfl ?_
                      refine r_iald C hM 22 rfl rfl k rfl (show _ < 24 by omega) dX3_overtime_90 ?_
                      refine n_aload_n C dX3_overtime_91 rfl ?_
                      refine r_get C hM 23 (by decide) w4_151 rfl rfl dX3_overtime_92 ?_
                      refine n_iload C dX3_overtime_95 rfl ?_
                      refine r_iald C hM 23 rfl rfl k rfl (show _ < 24 by omega) dX3_overtime_97 ?_
                      refine n_iconst (x := 1) C dX3_overtime_98 ?_
                      refine n_isub C dX3_overtime_99 ?_
                      refine n_invS C (c_isIn hst (by unfold rg; omega) (by unfold rg; omega) (by unfold rg; omega)) ⟨w4_218, w4_220, w1_5, ⟨by decide, by decide⟩, by show _ = some 3; decide +kernel, by decide⟩ w4_219 (by decide) (by omega) (by omega) (Nat.le_of_ble_eq_true rfl) rfl dX3_overtime_100 (fun r σ' h => ?_) (fun _ _ h => h.elim)
                      obtain ⟨x83, rfl, rfl, hx83⟩ := h
                      refine n_if_eq C 110 dX3_overtime_103 (by decide) (by unfold rg; omega) (fun b103 => ?_) (fun b103 => ?_)
                      · refine n_iconst (x := 0) C dX3_overtime_110 ?_
                        refine n_istore (lv' := [(4, iv 0), (5, iv (k : Int)), (3, iv (c 16 0 + (n : Int))), (2, iv f), (0, .ref o), (1, iv a)]) C dX3_overtime_111 (by rw [hN]; decide) rfl ?_
                        refine n_iinc (lv' := [(5, iv ((k : Int) + 1)), (4, iv 0), (3, iv (c 16 0 + (n : Int))), (2, iv f), (0, .ref o), (1, iv a)]) C dX3_overtime_113 rfl (by rw [hN]; decide) rfl ?_
                        refine n_goto C 59 dX3_overtime_116 (by decide) ?_
                        refine n_keep (lv' := [(5, iv ((k : Int) + 1)), (4, iv 0), (3, iv (c 16 0 + (n : Int))), (2, iv f), (0, .ref o), (1, iv a)]) [5, 4, 3, 2, 0, 1] rfl ?_
                        exact ih2 (k + 1) _ (by rw [show wtB c (M2 22) (M2 23) a (c 16 0 + n) (k + 1) = (wtB c (M2 22) (M2 23) a (c 16 0 + n) k || decide (ofP c (M2 22) (M2 23) k a ∧ M2 22 k ≤ c 16 0 + n ∧ c 16 0 + n ≤ M2 23 k - 1)) from rfl]; rw [hw0, Bool.false_or, if_neg (by rw [decide_eq_true_eq]; intro z; omega)]) (by omega) (by omega)
                      · refine n_iconst (x := 1) C dX3_overtime_106 ?_
                        refine n_goto C 111 dX3_overtime_107 (by decide) ?_
                        refine n_istore (lv' := [(4, iv 1), (5, iv (k : Int)), (3, iv (c 16 0 + (n : Int))), (2, iv f), (0, .ref o), (1, iv a)]) C dX3_overtime_111 (by rw [hN]; decide) rfl ?_
                        refine n_iinc (lv' := [(5, iv ((k : Int) + 1)), (4, iv 1), (3, iv (c 16 0 + (n : Int))), (2, iv f), (0, .ref o), (1, iv a)]) C dX3_overtime_113 rfl (by rw [hN]; decide) rfl ?_
                        refine n_goto C 59 dX3_overtime_116 (by decide) ?_
                        refine n_keep (lv' := [(5, iv ((k : Int) + 1)), (4, iv 1), (3, iv (c 16 0 + (n : Int))), (2, iv f), (0, .ref o), (1, iv a)]) [5, 4, 3, 2, 0, 1] rfl ?_
                        exact ih2 (k + 1) _ (by rw [show wtB c (M2 22) (M2 23) a (c 16 0 + n) (k + 1) = (wtB c (M2 22) (M2 23) a (c 16 0 + n) k || decide (ofP c (M2 22) (M2 23) k a ∧ M2 22 k ≤ c 16 0 + n ∧ c 16 0 + n ≤ M2 23 k - 1)) from rfl]; rw [hw0, Bool.false_or, if_pos (by rw [decide_eq_true_eq]; exact ⟨⟨by omega, by omega, by omega, by omega⟩, by omega, by omega⟩)]) (by omega) (by omega)
            exact LP2 25 0 _ rfl (by omega) (by omega)
      have e0 : c 16 0 = c 16 0 + ((0 : Nat) : Int) := by omega
      have LQ := LP (NT c (LL c) + 1) 0 0 rfl (Or.inr rfl) (by omega)
      rw [← e0] at LQ
      exact LQ
    · exfalso; omega
set_option maxRecDepth 100000 in
set_option maxHeartbeats 4000000 in
theorem c_isFineBy {g : Gx} (hst : g.1.stackTraces = false) {o : Nat} {ar : Nat → Nat} {β : Wd} {M c : Tb} (I : RI o ar) {σ : Wd} (hM : MW g.2.1 o ar β M σ) (hc : cut M = c) (hw : WF c) {T : Int} (hT : 50 ≤ T ∧ T ≤ 200) : CT g yX3_isFineBy cX3_isFineBy 4 (some .boolean) 4 0 0 [.ref o, iv T] σ (fun r σ' => ∃ (x : Int) (M' : Tb), r = some (iv x) ∧ MW g.2.1 o ar β M' σ' ∧ cut M' = c ∧ M' 26 0 = M 26 0 ∧ ((x = 1 ∧ FINE c (lenB c T).toNat) ∨ (x = 0 ∧ ¬ FINE c (lenB c T).toNat))) (fun _ _ => False) := by
  refine CT.of hst (by decide +kernel) (Nat.le_of_ble_eq_true rfl) (fun Φ C Rr hY hN => ?_)
  show N Φ 0 0 σ 0 [(0, .ref o), (1, iv T)] []
  obtain ⟨w0, w6, w12, w13, w14, w15, w16, wm, wq, ww⟩ := id hw
  refine n_aload_n C dX3_isFineBy_0 rfl ?_
  refine n_iload_n C dX3_isFineBy_1 rfl ?_
  refine n_invV C (c_plays hst I hM hc hw hT) ⟨w5_68, w5_71, w1_5, ⟨by decide, by decide⟩, by show _ = some 1; decide +kernel, by decide⟩ w5_70 wp_32 hM.1 (show vwCl[6]? = some ("OperaMachinesModel", TX3, 27) from rfl) (by decide) (by omega) (by omega) (Nat.le_of_ble_eq_true rfl) rfl dX3_isFineBy_2 (fun r σ h => ?_) (fun _ _ h => h.elim)
  obtain ⟨M2, rfl, hM, hc, p26, hPL⟩ := h
  have hBE := hPL.2.2.2
  have hmr := mtP_rg (c := c) (lenB c T).toNat w0.2 ((c 12 0).toNat * (lenB c T).toNat + 1)
  have hL80 := lenB_rg hw (T := T) hT.1
  have hNT : (c 12 0).toNat * (lenB c T).toNat ≤ 30 * 80 := Nat.mul_le_mul (by omega) (by omega)
  rw [← hPL.1] at hmr
  have J18 : ∀ (z : Int) (hz : (z = 1 ∧ M2 24 0 = -1) ∨ (z = 0 ∧ ¬ M2 24 0 = -1)), N Φ 0 0 σ 18 [(0, .ref o), (1, iv T)] [iv z] := by
    intro z hz
    refine n_istore_n (lv' := [(2, iv z), (0, .ref o), (1, iv T)]) C dX3_isFineBy_18 (by rw [hN]; decide) rfl ?_
    refine n_iconst (x := 0) C dX3_isFineBy_19 ?_
    refine n_istore_n (lv' := [(3, iv 0), (2, iv z), (0, .ref o), (1, iv T)]) C dX3_isFineBy_20 (by rw [hN]; decide) rfl ?_
    have LP : ∀ (fu : Nat) (k : Nat) (v : Int) (hv : (v = 1 ∧ (M2 24 0 = -1 ∧ ∀ j : Nat, j < k → ¬ ofP c (M2 22) (M2 23) j (-1))) ∨ (v = 0 ∧ ¬ (M2 24 0 = -1 ∧ ∀ j : Nat, j < k → ¬ ofP c (M2 22) (M2 23) j (-1)))) (h1 : k ≤ c 6 0) (h2 : c 6 0 + 1 ≤ k + fu), N Φ 0 0 σ 21 [(3, iv (k : Int)), (2, iv v), (0, .ref o), (1, iv T)] [] := by
      intro fu
      induction fu with
      | zero =>
        intro k v hv h1 h2
        omega
      | succ fu ih =>
        intro k v hv h1 h2
        refine n_iload_n C dX3_isFineBy_21 rfl ?_
        refine n_aload_n C dX3_isFineBy_22 rfl ?_
        refine r_getc C hM hc 6 (by decide) w4_134 rfl rfl dX3_isFineBy_23 ?_
        refine n_icmp_ge C 54 dX3_isFineBy_26 (by decide) (by unfold rg; omega) (by unfold rg; omega) (fun b26 => ?_) (fun b26 => ?_)
        · refine n_iconst (x := 0) C dX3_isFineBy_54 ?_
          refine n_istore_n (lv' := [(3, iv 0), (2, iv v), (0, .ref o), (1, iv T)]) C dX3_isFineBy_55 (by rw [hN]; decide) rfl ?_
          have LP3 : ∀ (fuY : Nat) (k : Nat) (v : Int) (hv : (v = 1 ∧ (M2 24 0 = -1 ∧ ∀ j : Nat, j < (c 6 0).toNat → ¬ ofP c (M2 22) (M2 23) j (-1)) ∧ ∀ j : Nat, j < k → clN c (M2 22) (M2 23) j (c 6 0).toNat = 0) ∨ (v = 0 ∧ ¬ ((M2 24 0 = -1 ∧ ∀ j : Nat, j < (c 6 0).toNat → ¬ ofP c (M2 22) (M2 23) j (-1)) ∧ ∀ j : Nat, j < k → clN c (M2 22) (M2 23) j (c 6 0).toNat = 0))) (h1 : k ≤ 6) (h2 : 7 ≤ k + fuY), N Φ 0 0 σ 56 [(3, iv (k : Int)), (2, iv v), (0, .ref o), (1, iv T)] [] := by
            intro fuY
            induction fuY with
            | zero =>
              intro k v hv h1 h2
              omega
            | succ fuY ih3 =>
              intro k v hv h1 h2
              have v01 : v = 0 ∨ v = 1 := by omega
              refine n_iload_n C dX3_isFineBy_56 rfl ?_
              refine n_bipush (x := 6) C dX3_isFineBy_57 (by decide) ?_
              refine n_icmp_ge C 86 dX3_isFineBy_59 (by decide) (by unfold rg; omega) (by unfold rg; omega) (fun b59 => ?_) (fun b59 => ?_)
              · have hFN : FINE c (lenB c T).toNat ↔ ((M2 24 0 = -1 ∧ ∀ j : Nat, j < (c 6 0).toNat → ¬ ofP c (M2 22) (M2 23) j (-1)) ∧ ∀ j : Nat, j < 6 → clN c (M2 22) (M2 23) j (c 6 0).toNat = 0) := by
                  unfold FINE NT
                  rw [← hPL.1]
                  exact ⟨fun q => ⟨⟨q.1, fun z hz => by rw [of_can hPL]; exact q.2.1 z (by omega)⟩, fun z hz => by rw [cl_can hPL]; exact q.2.2 z hz⟩, fun q => ⟨q.1.1, fun z hz => by rw [← of_can hPL]; exact q.1.2 z (by omega), fun z hz => by rw [← cl_can hPL]; exact q.2 z hz⟩⟩
                refine n_iload_n C dX3_isFineBy_86 rfl ?_
                exact n_ireturn C Rr (nar_bv (by first | decide | omega)) ⟨_, _, rfl, hM, hc, p26, by
                  rcases hv with ⟨z, q⟩ | ⟨z, q⟩
                  · exact Or.inl ⟨z, hFN.mpr ⟨q.1, fun j hj => q.2 j (by omega)⟩⟩
                  · exact Or.inr ⟨z, fun y => q ⟨(hFN.mp y).1, fun j hj => (hFN.mp y).2 j (by omega)⟩⟩⟩ (by omega) (by omega) dX3_isFineBy_87
              · refine n_iload_n C dX3_isFineBy_62 rfl ?_
                refine n_if_eq C 86 dX3_isFineBy_63 (by decide) (by unfold rg; omega) (fun b63 => ?_) (fun b63 => ?_)
                · have hFN : FINE c (lenB c T).toNat → ((M2 24 0 = -1 ∧ ∀ j : Nat, j < (c 6 0).toNat → ¬ ofP c (M2 22) (M2 23) j (-1)) ∧ ∀ j : Nat, j < 6 → clN c (M2 22) (M2 23) j (c 6 0).toNat = 0) := by
                    unfold FINE NT
                    rw [← hPL.1]
                    exact fun q => ⟨⟨q.1, fun z hz => by rw [of_can hPL]; exact q.2.1 z (by omega)⟩, fun z hz => by rw [cl_can hPL]; exact q.2.2 z hz⟩
                  refine n_iload_n C dX3_isFineBy_86 rfl ?_
                  exact n_ireturn C Rr (nar_bv (by first | decide | omega)) ⟨_, _, rfl, hM, hc, p26, by
                    rcases hv with ⟨z, q⟩ | ⟨z, q⟩
                    · exfalso; omega
                    · exact Or.inr ⟨z, fun y => q ⟨(hFN y).1, fun j hj => (hFN y).2 j (by omega)⟩⟩⟩ (by omega) (by omega) dX3_isFineBy_87
                · have q0 := (hv.resolve_right (fun z => by omega)).2
                  refine n_aload_n C dX3_isFineBy_66 rfl ?_
                  refine n_iload_n C dX3_isFineBy_67 rfl ?_
                  refine n_invV C (c_clashesOf hst I hM hc hw hBE (by omega)) ⟨w5_100, w5_103, w1_5, ⟨by decide, by decide⟩, by show _ = some 1; decide +kernel, by decide⟩ w5_102 wp_36 hM.1 (show vwCl[6]? = some ("OperaMachinesModel", TX3, 27) from rfl) (by decide) (by omega) (by omega) (Nat.le_of_ble_eq_true rfl) rfl dX3_isFineBy_68 (fun r σ' h => ?_) (fun _ _ h => h.elim)
                  obtain ⟨rfl, rfl⟩ := h
                  have cr := clN_rg c (M2 22) (M2 23) (k : Int) (c 6 0).toNat
                  refine n_if_ne C 78 dX3_isFineBy_71 (by decide) (by unfold rg; omega) (fun b71 => ?_) (fun b71 => ?_)
                  · refine n_iconst (x := 0) C dX3_isFineBy_78 ?_
                    refine n_istore_n (lv' := [(2, iv 0), (3, iv (k : Int)), (0, .ref o), (1, iv T)]) C dX3_isFineBy_79 (by rw [hN]; decide) rfl ?_
                    refine n_iinc (lv' := [(3, iv ((k : Int) + 1)), (2, iv 0), (0, .ref o), (1, iv T)]) C dX3_isFineBy_80 rfl (by rw [hN]; decide) rfl ?_
                    refine n_goto C 56 dX3_isFineBy_83 (by decide) ?_
                    refine n_keep (lv' := [(3, iv ((k : Int) + 1)), (2, iv 0), (0, .ref o), (1, iv T)]) [3, 2, 0, 1] rfl ?_
                    exact ih3 (k + 1) 0 (Or.inr ⟨rfl, fun q => by have := q.2 k (by omega); omega⟩) (by omega) (by omega)
                  · refine n_iconst (x := 1) C dX3_isFineBy_74 ?_
                    refine n_goto C 79 dX3_isFineBy_75 (by decide) ?_
                    refine n_istore_n (lv' := [(2, iv 1), (3, iv (k : Int)), (0, .ref o), (1, iv T)]) C dX3_isFineBy_79 (by rw [hN]; decide) rfl ?_
                    refine n_iinc (lv' := [(3, iv ((k : Int) + 1)), (2, iv 1), (0, .ref o), (1, iv T)]) C dX3_isFineBy_80 rfl (by rw [hN]; decide) rfl ?_
                    refine n_goto C 56 dX3_isFineBy_83 (by decide) ?_
                    refine n_keep (lv' := [(3, iv ((k : Int) + 1)), (2, iv 1), (0, .ref o), (1, iv T)]) [3, 2, 0, 1] rfl ?_
                    exact ih3 (k + 1) 1 (Or.inl ⟨rfl, q0.1, fun j hj => by
                      by_cases z : j = k
                      · subst z; omega
                      · exact q0.2 j (by omega)⟩) (by omega) (by omega)
          have ek : k = (c 6 0).toNat := by omega
          rw [ek] at hv
          exact LP3 7 0 v (hv.imp (fun q => ⟨q.1, q.2, fun j hj => absurd hj (Nat.not_lt_zero j)⟩) (fun q => ⟨q.1, fun y => q.2 y.1⟩)) (by omega) (by omega)
        · have v01 : v = 0 ∨ v = 1 := by omega
          refine n_iload_n C dX3_isFineBy_29 rfl ?_
          refine n_if_eq C 46 dX3_isFineBy_30 (by decide) (by unfold rg; omega) (fun b30 => ?_) (fun b30 => ?_)
          · refine n_iconst (x := 0) C dX3_isFineBy_46 ?_
            refine n_istore_n (lv' := [(2, iv 0), (3, iv (k : Int)), (0, .ref o), (1, iv T)]) C dX3_isFineBy_47 (by rw [hN]; decide) rfl ?_
            refine n_iinc (lv' := [(3, iv ((k : Int) + 1)), (2, iv 0), (0, .ref o), (1, iv T)]) C dX3_isFineBy_48 rfl (by rw [hN]; decide) rfl ?_
            refine n_goto C 21 dX3_isFineBy_51 (by decide) ?_
            refine n_keep (lv' := [(3, iv ((k : Int) + 1)), (2, iv 0), (0, .ref o), (1, iv T)]) [3, 2, 0, 1] rfl ?_
            exact ih (k + 1) 0 (Or.inr ⟨rfl, fun q => (hv.resolve_left (fun z => by omega)).2 ⟨q.1, fun j hj => q.2 j (by omega)⟩⟩) (by omega) (by omega)
          · have q0 := (hv.resolve_right (fun z => by omega)).2
            have qn : ¬ ("x" = "y") := by decide
            refine n_aload_n C dX3_isFineBy_33 rfl ?_
            refine n_iload_n C dX3_isFineBy_34 rfl ?_
            refine n_iconst (x := (-1)) C dX3_isFineBy_35 ?_
            refine n_invV C (c_isOf hst I hM hc hw hBE (q := k) (by omega) (by omega)) ⟨w5_104, w5_107, w1_5, ⟨by decide, by decide⟩, by show _ = some 2; decide +kernel, by decide⟩ w5_106 wp_37 hM.1 (show vwCl[6]? = some ("OperaMachinesModel", TX3, 27) from rfl) (by decide) (by omega) (by omega) (Nat.le_of_ble_eq_true rfl) rfl dX3_isFineBy_36 (fun r σ' h => ?_) (fun _ _ h => h.elim)
            obtain ⟨x33, rfl, rfl, hx33⟩ := h
            refine n_if_ne C 46 dX3_isFineBy_39 (by decide) (by unfold rg; omega) (fun b39 => ?_) (fun b39 => ?_)
            · refine n_iconst (x := 0) C dX3_isFineBy_46 ?_
              refine n_istore_n (lv' := [(2, iv 0), (3, iv (k : Int)), (0, .ref o), (1, iv T)]) C dX3_isFineBy_47 (by rw [hN]; decide) rfl ?_
              refine n_iinc (lv' := [(3, iv ((k : Int) + 1)), (2, iv 0), (0, .ref o), (1, iv T)]) C dX3_isFineBy_48 rfl (by rw [hN]; decide) rfl ?_
              refine n_goto C 21 dX3_isFineBy_51 (by decide) ?_
              refine n_keep (lv' := [(3, iv ((k : Int) + 1)), (2, iv 0), (0, .ref o), (1, iv T)]) [3, 2, 0, 1] rfl ?_
              exact ih (k + 1) 0 (Or.inr ⟨rfl, fun q => q.2 k (by omega) ⟨by omega, by omega, by omega, by omega⟩⟩) (by omega) (by omega)
            · refine n_iconst (x := 1) C dX3_isFineBy_42 ?_
              refine n_goto C 47 dX3_isFineBy_43 (by decide) ?_
              refine n_istore_n (lv' := [(2, iv 1), (3, iv (k : Int)), (0, .ref o), (1, iv T)]) C dX3_isFineBy_47 (by rw [hN]; decide) rfl ?_
              refine n_iinc (lv' := [(3, iv ((k : Int) + 1)), (2, iv 1), (0, .ref o), (1, iv T)]) C dX3_isFineBy_48 rfl (by rw [hN]; decide) rfl ?_
              refine n_goto C 21 dX3_isFineBy_51 (by decide) ?_
              refine n_keep (lv' := [(3, iv ((k : Int) + 1)), (2, iv 1), (0, .ref o), (1, iv T)]) [3, 2, 0, 1] rfl ?_
              exact ih (k + 1) 1 (Or.inl ⟨rfl, q0.1, fun j hj => by
                by_cases z : j = k
                · subst z; intro y; have y1 := y.1; have y2 := y.2.1; have y3 := y.2.2.1; have y4 := y.2.2.2; omega
                · exact q0.2 j (by omega)⟩) (by omega) (by omega)
    exact LP 25 0 _ (hz.imp (fun q => ⟨q.1, q.2, fun j hj => absurd hj (Nat.not_lt_zero j)⟩) (fun q => ⟨q.1, fun y => q.2 y.1⟩)) (by omega) (by omega)
  refine n_aload_n C dX3_isFineBy_5 rfl ?_
  refine r_get C hM 24 (by decide) w4_152 rfl rfl dX3_isFineBy_6 ?_
  refine n_iconst (x := (-1)) C dX3_isFineBy_9 ?_
  refine n_icmp_ne C 17 dX3_isFineBy_10 (by decide) (by unfold rg; omega) (by unfold rg; omega) (fun b10 => ?_) (fun b10 => ?_)
  · refine n_iconst (x := 0) C dX3_isFineBy_17 ?_
    exact J18 _ (by omega)
  · refine n_iconst (x := 1) C dX3_isFineBy_13 ?_
    refine n_goto C 18 dX3_isFineBy_14 (by decide) ?_
    exact J18 _ (by omega)
set_option maxRecDepth 100000 in
set_option maxHeartbeats 4000000 in
theorem c_risFine {g : Gx} (hst : g.1.stackTraces = false) {o : Nat} {ar : Nat → Nat} {β : Wd} {M c : Tb} (I : RI o ar) {σ : Wd} (hM : MW g.2.1 o ar β M σ) (hc : cut M = c) (hw : WF c) : CT g yX3_isFine cX3_isFine 1 (some .boolean) 5 0 0 [.ref o] σ (fun r σ' => ∃ (x : Int) (M' : Tb), r = some (iv x) ∧ MW g.2.1 o ar β M' σ' ∧ cut M' = c ∧ M' 26 0 = 0 ∧ ((x = 1 ∧ FINE c (LL c)) ∨ (x = 0 ∧ ¬ FINE c (LL c)))) (fun _ _ => False) := by
  refine CT.of hst (by decide +kernel) (Nat.le_of_ble_eq_true rfl) (fun Φ C Rr hY hN => ?_)
  show N Φ 0 0 σ 0 [(0, .ref o)] []
  obtain ⟨w0, w6, w12, w13, w14, w15, w16, wm, wq, ww⟩ := id hw
  refine n_aload_n C dX3_isFine_0 rfl ?_
  refine n_iconst (x := 0) C dX3_isFine_1 ?_
  refine r_put C I hM 26 (by decide) rfl w4_154 rfl rfl rfl rfl dX3_isFine_2 (fun σ hM => ?_)
  replace hc : cut (tu M 26 0 0) = c := (cut_tu (by decide)).trans hc
  refine n_aload_n C dX3_isFine_5 rfl ?_
  refine n_aload_n C dX3_isFine_6 rfl ?_
  refine r_getc C hM hc 14 (by decide) w4_142 rfl rfl dX3_isFine_7 ?_
  refine n_invV C (c_isFineBy hst I hM hc hw (by omega)) ⟨w5_124, w5_127, w1_5, ⟨by decide, by decide⟩, by show _ = some 1; decide +kernel, by decide⟩ w5_126 wp_40 hM.1 (show vwCl[6]? = some ("OperaMachinesModel", TX3, 27) from rfl) (by decide) (by omega) (by omega) (Nat.le_of_ble_eq_true rfl) rfl dX3_isFine_10 (fun r σ h => ?_) (fun _ _ h => h.elim)
  obtain ⟨x, M2, rfl, hM, hc, p26, hx⟩ := h
  exact n_ireturn C Rr (nar_bv (by first | decide | omega)) ⟨_, _, rfl, hM, hc, by rw [p26, tu_s], hx⟩ (by omega) (by omega) dX3_isFine_13
set_option maxRecDepth 100000 in
set_option maxHeartbeats 4000000 in
theorem c_rfastest {g : Gx} (hst : g.1.stackTraces = false) {o : Nat} {ar : Nat → Nat} {β : Wd} {M c : Tb} (I : RI o ar) {σ : Wd} (hM : MW g.2.1 o ar β M σ) (hc : cut M = c) (hw : WF c) : CT g yX3_fastest cX3_fastest 2 (some .int) 5 0 0 [.ref o] σ (fun r σ' => ∃ M', r = some (iv (fsF c 16)) ∧ MW g.2.1 o ar β M' σ' ∧ cut M' = c ∧ M' 26 0 = 0) (fun _ _ => False) := by
  refine CT.of hst (by decide +kernel) (Nat.le_of_ble_eq_true rfl) (fun Φ C Rr hY hN => ?_)
  show N Φ 0 0 σ 0 [(0, .ref o)] []
  obtain ⟨w0, w6, w12, w13, w14, w15, w16, wm, wq, ww⟩ := id hw
  refine n_aload_n C dX3_fastest_0 rfl ?_
  refine n_iconst (x := 0) C dX3_fastest_1 ?_
  refine r_put C I hM 26 (by decide) rfl w4_154 rfl rfl rfl rfl dX3_fastest_2 (fun σ hM => ?_)
  replace hc : cut (tu M 26 0 0) = c := (cut_tu (by decide)).trans hc
  refine n_sipush (x := 200) C dX3_fastest_5 (by decide) ?_
  refine n_istore_n (lv' := [(1, iv 200), (0, .ref o)]) C dX3_fastest_8 (by rw [hN]; decide) rfl ?_
  have LP : ∀ (fu : Nat) (n : Nat) (σ : Wd) (M1 : Tb) (hM : MW g.2.1 o ar β M1 σ) (hc : cut M1 = c) (h26 : M1 26 0 = 0) (hv : fsF c 16 = fsF c n) (h1 : n ≤ 16) (h2 : n < fu), N Φ 0 0 σ 9 [(1, iv (40 + 10 * (n : Int))), (0, .ref o)] [] := by
    intro fu
    induction fu with
    | zero =>
      intro n σ M1 hM hc h26 hv h1 h2
      omega
    | succ fu ih =>
      intro n σ M1 hM hc h26 hv h1 h2
      refine n_iload_n C dX3_fastest_9 rfl ?_
      refine n_bipush (x := 50) C dX3_fastest_10 (by decide) ?_
      refine n_icmp_lt C 29 dX3_fastest_12 (by decide) (by unfold rg; omega) (by unfold rg; omega) (fun b12 => ?_) (fun b12 => ?_)
      · refine n_iload_n C dX3_fastest_29 rfl ?_
        refine n_bipush (x := 50) C dX3_fastest_30 (by decide) ?_
        refine n_icmp_ge C 39 dX3_fastest_32 (by decide) (by unfold rg; omega) (by unfold rg; omega) (fun b32 => ?_) (fun b32 => ?_)
        · exfalso; omega
        · refine n_iconst (x := (-1)) C dX3_fastest_35 ?_
          refine n_goto C 40 dX3_fastest_36 (by decide) ?_
          exact n_ireturn C Rr rfl ⟨_, by rw [hv, show n = 0 by omega]; rfl, hM, hc, h26⟩ (by omega) (by omega) dX3_fastest_40
      · refine n_aload_n C dX3_fastest_15 rfl ?_
        refine n_iload_n C dX3_fastest_16 rfl ?_
        refine n_invV C (c_isFineBy hst I hM hc hw (by omega)) ⟨w5_124, w5_127, w1_5, ⟨by decide, by decide⟩, by show _ = some 1; decide +kernel, by decide⟩ w5_126 wp_40 hM.1 (show vwCl[6]? = some ("OperaMachinesModel", TX3, 27) from rfl) (by decide) (by omega) (by omega) (Nat.le_of_ble_eq_true rfl) rfl dX3_fastest_17 (fun r σ h => ?_) (fun _ _ h => h.elim)
        obtain ⟨x, M2, rfl, hM, hc, p26, hx⟩ := h
        obtain ⟨m, rfl⟩ : ∃ m : Nat, n = m + 1 := ⟨n - 1, by omega⟩
        refine n_if_ne C 29 dX3_fastest_20 (by decide) (by unfold rg; omega) (fun b20 => ?_) (fun b20 => ?_)
        · have hF := (hx.resolve_right (fun q => by omega)).2
          refine n_iload_n C dX3_fastest_29 rfl ?_
          refine n_bipush (x := 50) C dX3_fastest_30 (by decide) ?_
          refine n_icmp_ge C 39 dX3_fastest_32 (by decide) (by unfold rg; omega) (by unfold rg; omega) (fun b32 => ?_) (fun b32 => ?_)
          · refine n_iload_n C dX3_fastest_39 rfl ?_
            exact n_ireturn C Rr rfl ⟨_, by rw [hv]; unfold fsF; rw [if_pos hF], hM, hc, p26.trans h26⟩ (by omega) (by omega) dX3_fastest_40
          · exfalso; omega
        · have hF := (hx.resolve_left (fun q => by omega)).2
          refine n_iinc (lv' := [(1, iv ((40 + 10 * ((m + 1 : Nat) : Int)) + (-10))), (0, .ref o)]) C dX3_fastest_23 rfl (by rw [hN]; decide) rfl ?_
          refine n_goto C 9 dX3_fastest_26 (by decide) ?_
          have e1 : 40 + 10 * ((m + 1 : Nat) : Int) + -10 = 40 + 10 * (m : Int) := by omega
          rw [e1]
          exact ih m _ _ hM hc (p26.trans h26) (by rw [hv]; (conv => lhs; unfold fsF); rw [if_neg hF]) (by omega) (by omega)
  exact LP 17 16 _ _ hM hc (tu_s ..) rfl (by omega) (by omega)
