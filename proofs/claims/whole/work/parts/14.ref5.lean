section RS4
/-- who works on a cue: from the one told, by substitutes while they strike -/
def wkN (c : Tb) : Nat → Int → Int
  | 0, w => w
  | n + 1, w => if w ≠ -1 ∧ c 17 w.toNat ≠ 0 then wkN c n (c 18 w.toNat) else w
def wOf (c : Tb) (q : Nat) : Int := if wkN c 6 (c 10 q) = -1 ∨ c 17 (wkN c 6 (c 10 q)).toNat ≠ 0 then -1 else wkN c 6 (c 10 q)
theorem wkN_rg {c : Tb} (hw : WF c) : ∀ (n : Nat) (w : Int), -1 ≤ w ∧ w ≤ 5 → -1 ≤ wkN c n w ∧ wkN c n w ≤ 5
  | 0, w, h => h
  | n + 1, w, h => by
    unfold wkN
    split
    · exact wkN_rg hw n _ (hw.2.2.2.2.2.2.2.2.2 w.toNat).2
    · exact h
theorem wOf_rg {c : Tb} (hw : WF c) (q : Nat) : -1 ≤ wOf c q ∧ wOf c q ≤ 5 := by
  have h := wkN_rg hw 6 (c 10 q) (by have := (hw.2.2.2.2.2.2.2.2.1 q).2.2.2.2.2.2.1; omega)
  unfold wOf
  split <;> omega
/-- a cue of a worker's that takes time, by its begin and end -/
abbrev ofP (c : Tb) (B E : Nat → Int) (q : Nat) (w : Int) : Prop := (q : Int) < c 6 0 ∧ c 11 q = 0 ∧ B q < E q ∧ wOf c q = w
abbrev ahP (B : Nat → Int) (q p : Nat) : Prop := B q < B p ∨ (B q = B p ∧ q < p)
def nxN (c : Tb) (B E : Nat → Int) (q : Nat) (w : Int) : Nat → Int
  | 0 => -1
  | k + 1 => if ofP c B E k w ∧ ahP B q k ∧ (nxN c B E q w k = -1 ∨ ahP B k (nxN c B E q w k).toNat) then (k : Int) else nxN c B E q w k
def nxO (c : Tb) (B E : Nat → Int) (q : Nat) (w : Int) : Int := nxN c B E q w (c 6 0).toNat
theorem nxN_rg (c : Tb) (B E : Nat → Int) (q : Nat) (w : Int) : ∀ k : Nat, -1 ≤ nxN c B E q w k ∧ nxN c B E q w k < k
  | 0 => by unfold nxN; omega
  | k + 1 => by
    have := nxN_rg c B E q w k
    unfold nxN
    split <;> omega
def clN (c : Tb) (B E : Nat → Int) (w : Int) : Nat → Int
  | 0 => 0
  | k + 1 => clN c B E w k + (if ofP c B E k w ∧ nxO c B E k w ≠ -1 ∧ B (nxO c B E k w).toNat < E k + c 15 0 then 1 else 0)
theorem clN_rg (c : Tb) (B E : Nat → Int) (w : Int) : ∀ k : Nat, 0 ≤ clN c B E w k ∧ clN c B E w k ≤ k
  | 0 => by unfold clN; omega
  | k + 1 => by
    have := clN_rg c B E w k
    unfold clN
    split <;> omega
/-- at a tick, one of the first k cues of a worker's is worked on -/
def wtB (c : Tb) (B E : Nat → Int) (w t : Int) : Nat → Bool
  | 0 => false
  | k + 1 => wtB c B E w t k || decide (ofP c B E k w ∧ B k ≤ t ∧ t ≤ E k - 1)
def ovN (c : Tb) (B E : Nat → Int) (w : Int) : Nat → Int
  | 0 => 0
  | n + 1 => ovN c B E w n + (if wtB c B E w (c 16 0 + n) (c 6 0).toNat = true then 1 else 0)
theorem ovN_rg (c : Tb) (B E : Nat → Int) (w : Int) : ∀ k : Nat, 0 ≤ ovN c B E w k ∧ ovN c B E w k ≤ k
  | 0 => by unfold ovN; omega
  | k + 1 => by
    have := ovN_rg c B E w k
    unfold ovN
    split <;> omega
def vlWorker (c : Tb) (a : Int) : Int := wOf c a.toNat
end RS4
set_option maxRecDepth 100000 in
set_option maxHeartbeats 4000000 in
theorem c_rsetScore {g : Gx} (hst : g.1.stackTraces = false) {a : Int} (hra : rg a) {b : Int} (hrb : rg b) {o : Nat} {ar : Nat → Nat} {β : Wd} {M c : Tb} (I : RI o ar) {σ : Wd} (hM : MW g.2.1 o ar β M σ) (hc : cut M = c) (hw : WF c) : CT g yX3_setScore cX3_setScore 5 none 1 0 0 [.ref o, iv a, iv b] σ (fun r σ' => ∃ (M' : Tb), r = none ∧ MW g.2.1 o ar β M' σ' ∧ M' 26 0 = cdScore c a b ∧ (cdScore c a b = 0 → cut M' = nxScore c a b) ∧ (cdScore c a b ≠ 0 → cut M' = c)) (fun _ _ => False) := by
  refine CT.of hst (by decide +kernel) (Nat.le_of_ble_eq_true rfl) (fun Φ C Rr hY hN => ?_)
  show N Φ 0 0 σ 0 [(0, .ref o), (1, iv a), (2, iv b)] []
  unfold rg at hra hrb
  obtain ⟨w0, w6, w12, w13, w14, w15, w16, wm, wq, ww⟩ := id hw
  refine n_iconst (x := 1) C dX3_setScore_0 ?_
  refine n_istore_n (lv' := [(3, iv 1), (0, .ref o), (1, iv a), (2, iv b)]) C dX3_setScore_1 (by rw [hN]; decide) rfl ?_
  refine n_iconst (x := 0) C dX3_setScore_2 ?_
  refine n_istore (lv' := [(4, iv 0), (3, iv 1), (0, .ref o), (1, iv a), (2, iv b)]) C dX3_setScore_3 (by rw [hN]; decide) rfl ?_
  have LP : ∀ (fu : Nat) (k : Nat) (f : Int) (hf : f = if fitB c a k = true then 1 else 0) (h1 : k ≤ c 6 0) (h2 : c 6 0 + 1 ≤ k + fu) (h3 : k ≤ 24), N Φ 0 0 σ 5 [(4, iv (k : Int)), (3, iv f), (0, .ref o), (1, iv a), (2, iv b)] [] := by
    intro fu
    induction fu with
    | zero =>
      intro k f hf h1 h2 h3
      omega
    | succ fu ih =>
      intro k f hf h1 h2 h3
      have f01 : f = 0 ∨ f = 1 := by rw [hf]; split <;> omega
      refine n_iload C dX3_setScore_5 rfl ?_
      refine n_aload_n C dX3_setScore_7 rfl ?_
      refine r_get (v := iv (c 6 0)) C hM 6 (by decide) w4_134 rfl (congrArg (fun z => some (iv z)) (cut_at hc (by decide) 0)) dX3_setScore_8 ?_
      refine n_icmp_ge C 51 dX3_setScore_11 (by decide) (by unfold rg; omega) (by unfold rg; omega) (fun b11 => ?_) (fun b11 => ?_)
      · have hk : (c 6 0).toNat = k := by omega
        refine n_aload_n C dX3_setScore_51 rfl ?_
        refine n_iload_n C dX3_setScore_52 rfl ?_
        refine n_iconst (x := 1) C dX3_setScore_53 ?_
        refine n_bipush (x := 30) C dX3_setScore_54 (by decide) ?_
        refine n_invS C (c_isIn hst (by unfold rg; omega) (by unfold rg; omega) (by unfold rg; omega)) ⟨w4_218, w4_220, w1_5, ⟨by decide, by decide⟩, by show _ = some 3; decide +kernel, by decide⟩ w4_219 (by decide) (by omega) (by omega) (Nat.le_of_ble_eq_true rfl) rfl dX3_setScore_56 (fun r σ' h => ?_) (fun _ _ h => h.elim)
        obtain ⟨x51, rfl, rfl, hx51⟩ := h
        refine n_if_eq C 72 dX3_setScore_59 (by decide) (by unfold rg; omega) (fun b59 => ?_) (fun b59 => ?_)
        · refine n_iconst (x := 1) C dX3_setScore_72 ?_
          refine n_goto C 85 dX3_setScore_73 (by decide) ?_
          refine n_invV C (c_can hst (by omega) I hM hc) ⟨w4_221, w4_224, w1_5, ⟨by decide, by decide⟩, by show _ = some 1; decide +kernel, by decide⟩ w4_223 wp_24 hM.1 (show vwCl[6]? = some ("OperaMachinesModel", TX3, 27) from rfl) (by decide) (by omega) (by omega) (Nat.le_of_ble_eq_true rfl) rfl dX3_setScore_85 (fun r σ h => ?_) (fun _ _ h => h.elim)
          obtain ⟨xc, M1, rfl, hM, hc, h26, hxc⟩ := h
          refine n_if_eq C 101 dX3_setScore_88 (by decide) (by unfold rg; omega) (fun b88 => ?_) (fun b88 => ?_)
          · have hcd : cdScore c a b = 1 := by unfold cdScore; rw [if_neg (by omega)]
            exact n_return C Rr ⟨_, rfl, hM, h26.trans hcd.symm, fun q => absurd (hcd.symm.trans q) (by decide), fun _ => hc⟩ (by omega) (by omega) dX3_setScore_101
          · exfalso; omega
        · refine n_iload_n C dX3_setScore_62 rfl ?_
          refine n_iconst (x := 1) C dX3_setScore_63 ?_
          refine n_bipush (x := 40) C dX3_setScore_64 (by decide) ?_
          refine n_invS C (c_isIn hst (by unfold rg; omega) (by unfold rg; omega) (by unfold rg; omega)) ⟨w4_218, w4_220, w1_5, ⟨by decide, by decide⟩, by show _ = some 3; decide +kernel, by decide⟩ w4_219 (by decide) (by omega) (by omega) (Nat.le_of_ble_eq_true rfl) rfl dX3_setScore_66 (fun r σ' h => ?_) (fun _ _ h => h.elim)
          obtain ⟨x62, rfl, rfl, hx62⟩ := h
          refine n_if_ne C 76 dX3_setScore_69 (by decide) (by unfold rg; omega) (fun b69 => ?_) (fun b69 => ?_)
          · refine n_iload_n C dX3_setScore_76 rfl ?_
            refine n_if_eq C 84 dX3_setScore_77 (by decide) (by unfold rg; omega) (fun b77 => ?_) (fun b77 => ?_)
            · have hfb : ¬ fitB c a (c 6 0).toNat = true := fun q => by rw [hk] at q; rw [if_pos q] at hf; omega
              refine n_iconst (x := 2) C dX3_setScore_84 ?_
              refine n_invV C (c_can hst (by omega) I hM hc) ⟨w4_221, w4_224, w1_5, ⟨by decide, by decide⟩, by show _ = some 1; decide +kernel, by decide⟩ w4_223 wp_24 hM.1 (show vwCl[6]? = some ("OperaMachinesModel", TX3, 27) from rfl) (by decide) (by omega) (by omega) (Nat.le_of_ble_eq_true rfl) rfl dX3_setScore_85 (fun r σ h => ?_) (fun _ _ h => h.elim)
              obtain ⟨xc, M1, rfl, hM, hc, h26, hxc⟩ := h
              refine n_if_eq C 101 dX3_setScore_88 (by decide) (by unfold rg; omega) (fun b88 => ?_) (fun b88 => ?_)
              · have hcd : cdScore c a b = 2 := by unfold cdScore; rw [if_pos (by omega), if_neg hfb]
                exact n_return C Rr ⟨_, rfl, hM, h26.trans hcd.symm, fun q => absurd (hcd.symm.trans q) (by decide), fun _ => hc⟩ (by omega) (by omega) dX3_setScore_101
              · exfalso; omega
            · have hfb : fitB c a (c 6 0).toNat = true := by
                rw [hk]
                exact Classical.byContradiction (fun q => by rw [if_neg q] at hf; omega)
              refine n_iconst (x := 0) C dX3_setScore_80 ?_
              refine n_goto C 85 dX3_setScore_81 (by decide) ?_
              refine n_invV C (c_can hst (by omega) I hM hc) ⟨w4_221, w4_224, w1_5, ⟨by decide, by decide⟩, by show _ = some 1; decide +kernel, by decide⟩ w4_223 wp_24 hM.1 (show vwCl[6]? = some ("OperaMachinesModel", TX3, 27) from rfl) (by decide) (by omega) (by omega) (Nat.le_of_ble_eq_true rfl) rfl dX3_setScore_85 (fun r σ h => ?_) (fun _ _ h => h.elim)
              obtain ⟨xc, M1, rfl, hM, hc, h26, hxc⟩ := h
              refine n_if_eq C 101 dX3_setScore_88 (by decide) (by unfold rg; omega) (fun b88 => ?_) (fun b88 => ?_)
              · exfalso; omega
              · have hcd : cdScore c a b = 0 := by unfold cdScore; rw [if_pos (by omega), if_pos hfb]
                refine n_aload_n C dX3_setScore_91 rfl ?_
                refine n_iload_n C dX3_setScore_92 rfl ?_
                refine r_put C I hM 12 (by decide) rfl w4_140 rfl rfl rfl rfl dX3_setScore_93 (fun σ hM => ?_)
                refine n_aload_n C dX3_setScore_96 rfl ?_
                refine n_iload_n C dX3_setScore_97 rfl ?_
                refine r_put C I hM 13 (by decide) rfl w4_141 rfl rfl rfl rfl dX3_setScore_98 (fun σ hM => ?_)
                exact n_return C Rr ⟨_, rfl, hM, (by rw [tu_k (by decide), tu_k (by decide)]; exact h26.trans hcd.symm), fun _ => (by rw [cut_tuc (by decide), cut_tuc (by decide), hc]; rfl), fun q => absurd hcd q⟩ (by omega) (by omega) dX3_setScore_101
          · refine n_iconst (x := 1) C dX3_setScore_72 ?_
            refine n_goto C 85 dX3_setScore_73 (by decide) ?_
            refine n_invV C (c_can hst (by omega) I hM hc) ⟨w4_221, w4_224, w1_5, ⟨by decide, by decide⟩, by show _ = some 1; decide +kernel, by decide⟩ w4_223 wp_24 hM.1 (show vwCl[6]? = some ("OperaMachinesModel", TX3, 27) from rfl) (by decide) (by omega) (by omega) (Nat.le_of_ble_eq_true rfl) rfl dX3_setScore_85 (fun r σ h => ?_) (fun _ _ h => h.elim)
            obtain ⟨xc, M1, rfl, hM, hc, h26, hxc⟩ := h
            refine n_if_eq C 101 dX3_setScore_88 (by decide) (by unfold rg; omega) (fun b88 => ?_) (fun b88 => ?_)
            · have hcd : cdScore c a b = 1 := by unfold cdScore; rw [if_neg (by omega)]
              exact n_return C Rr ⟨_, rfl, hM, h26.trans hcd.symm, fun q => absurd (hcd.symm.trans q) (by decide), fun _ => hc⟩ (by omega) (by omega) dX3_setScore_101
            · exfalso; omega
      · have w1 := wq k
        refine n_iload_n C dX3_setScore_14 rfl ?_
        refine n_if_eq C 43 dX3_setScore_15 (by decide) (by unfold rg; omega) (fun b15 => ?_) (fun b15 => ?_)
        · refine n_iconst (x := 0) C dX3_setScore_43 ?_
          refine n_istore_n (lv' := [(3, iv 0), (4, iv (k : Int)), (0, .ref o), (1, iv a), (2, iv b)]) C dX3_setScore_44 (by rw [hN]; decide) rfl ?_
          refine n_iinc (lv' := [(4, iv ((k : Int) + 1)), (3, iv 0), (0, .ref o), (1, iv a), (2, iv b)]) C dX3_setScore_45 rfl (by rw [hN]; decide) rfl ?_
          refine n_goto C 5 dX3_setScore_48 (by decide) ?_
          refine n_keep (lv' := [(4, iv ((k : Int) + 1)), (3, iv 0), (0, .ref o), (1, iv a), (2, iv b)]) [4, 3, 0, 1, 2] rfl ?_
          exact ih (k + 1) _ (by rw [if_neg]; intro q; unfold fitB at q; rw [Bool.and_eq_true] at q; rw [if_pos q.1] at hf; omega) (by omega) (by omega) (by omega)
        · have hfk : fitB c a k = true := Classical.byContradiction (fun q => by rw [if_neg q] at hf; omega)
          refine n_aload_n C dX3_setScore_18 rfl ?_
          refine r_get C hM 11 (by decide) w4_139 rfl rfl dX3_setScore_19 ?_
          refine n_iload C dX3_setScore_22 rfl ?_
          refine r_zaldv (y := c 11 k) C hM 11 rfl rfl k rfl (show _ < 24 by omega) (cut_at hc (by decide) _) dX3_setScore_24 ?_
          refine n_if_ne C 39 dX3_setScore_25 (by decide) (by unfold rg; omega) (fun b25 => ?_) (fun b25 => ?_)
          · refine n_iconst (x := 1) C dX3_setScore_39 ?_
            refine n_goto C 44 dX3_setScore_40 (by decide) ?_
            refine n_istore_n (lv' := [(3, iv 1), (4, iv (k : Int)), (0, .ref o), (1, iv a), (2, iv b)]) C dX3_setScore_44 (by rw [hN]; decide) rfl ?_
            refine n_iinc (lv' := [(4, iv ((k : Int) + 1)), (3, iv 1), (0, .ref o), (1, iv a), (2, iv b)]) C dX3_setScore_45 rfl (by rw [hN]; decide) rfl ?_
            refine n_goto C 5 dX3_setScore_48 (by decide) ?_
            refine n_keep (lv' := [(4, iv ((k : Int) + 1)), (3, iv 1), (0, .ref o), (1, iv a), (2, iv b)]) [4, 3, 0, 1, 2] rfl ?_
            exact ih (k + 1) _ (by rw [if_pos]; unfold fitB; rw [Bool.and_eq_true, Bool.or_eq_true, decide_eq_true_eq, decide_eq_true_eq]; exact ⟨hfk, by omega⟩) (by omega) (by omega) (by omega)
          · refine n_aload_n C dX3_setScore_28 rfl ?_
            refine r_get C hM 7 (by decide) w4_135 rfl rfl dX3_setScore_29 ?_
            refine n_iload C dX3_setScore_32 rfl ?_
            refine r_ialdv (y := c 7 k) C hM 7 rfl rfl k rfl (show _ < 24 by omega) (cut_at hc (by decide) _) dX3_setScore_34 ?_
            refine n_iload_n C dX3_setScore_35 rfl ?_
            refine n_icmp_ge C 43 dX3_setScore_36 (by decide) (by unfold rg; omega) (by unfold rg; omega) (fun b36 => ?_) (fun b36 => ?_)
            · refine n_iconst (x := 0) C dX3_setScore_43 ?_
              refine n_istore_n (lv' := [(3, iv 0), (4, iv (k : Int)), (0, .ref o), (1, iv a), (2, iv b)]) C dX3_setScore_44 (by rw [hN]; decide) rfl ?_
              refine n_iinc (lv' := [(4, iv ((k : Int) + 1)), (3, iv 0), (0, .ref o), (1, iv a), (2, iv b)]) C dX3_setScore_45 rfl (by rw [hN]; decide) rfl ?_
              refine n_goto C 5 dX3_setScore_48 (by decide) ?_
              refine n_keep (lv' := [(4, iv ((k : Int) + 1)), (3, iv 0), (0, .ref o), (1, iv a), (2, iv b)]) [4, 3, 0, 1, 2] rfl ?_
              exact ih (k + 1) _ (by rw [if_neg]; intro q; unfold fitB at q; rw [Bool.and_eq_true, Bool.or_eq_true, decide_eq_true_eq, decide_eq_true_eq] at q; omega) (by omega) (by omega) (by omega)
            · refine n_iconst (x := 1) C dX3_setScore_39 ?_
              refine n_goto C 44 dX3_setScore_40 (by decide) ?_
              refine n_istore_n (lv' := [(3, iv 1), (4, iv (k : Int)), (0, .ref o), (1, iv a), (2, iv b)]) C dX3_setScore_44 (by rw [hN]; decide) rfl ?_
              refine n_iinc (lv' := [(4, iv ((k : Int) + 1)), (3, iv 1), (0, .ref o), (1, iv a), (2, iv b)]) C dX3_setScore_45 rfl (by rw [hN]; decide) rfl ?_
              refine n_goto C 5 dX3_setScore_48 (by decide) ?_
              refine n_keep (lv' := [(4, iv ((k : Int) + 1)), (3, iv 1), (0, .ref o), (1, iv a), (2, iv b)]) [4, 3, 0, 1, 2] rfl ?_
              exact ih (k + 1) _ (by rw [if_pos]; unfold fitB; rw [Bool.and_eq_true, Bool.or_eq_true, decide_eq_true_eq, decide_eq_true_eq]; exact ⟨hfk, by omega⟩) (by omega) (by omega) (by omega)
  exact LP 25 0 _ rfl (by omega) (by omega) (by omega)
set_option maxRecDepth 100000 in
set_option maxHeartbeats 4000000 in
theorem c_rplace {g : Gx} (hst : g.1.stackTraces = false) {a : Int} (hra : rg a) {t : Int} (hrt : rg t) {o : Nat} {ar : Nat → Nat} {β : Wd} {M c : Tb} (I : RI o ar) {σ : Wd} (hM : MW g.2.1 o ar β M σ) (hc : cut M = c) (hw : WF c) : CT g yX3_place cX3_place 4 (some .int) 4 0 0 [.ref o, iv a, iv t] σ (fun r σ' => ∃ (x : Int) (M' : Tb), r = some (iv x) ∧ MW g.2.1 o ar β M' σ' ∧ M' 26 0 = cdPlace c a t ∧ (cdPlace c a t = 0 → x = vlPlace c a t) ∧ cut M' = c) (fun _ _ => False) := by
  refine CT.of hst (by decide +kernel) (Nat.le_of_ble_eq_true rfl) (fun Φ C Rr hY hN => ?_)
  show N Φ 0 0 σ 0 [(0, .ref o), (1, iv a), (2, iv t)] []
  unfold rg at hra hrt
  obtain ⟨w0, w6, w12, w13, w14, w15, w16, wm, wq, ww⟩ := id hw
  have hLr := lenB_rg hw (T := c 14 0) (by omega)
  have hend : 0 ≤ c 12 0 * lenB c (c 14 0) ∧ c 12 0 * lenB c (c 14 0) ≤ 2400 := by
    have z1 : c 12 0 * lenB c (c 14 0) ≤ 30 * lenB c (c 14 0) := Int.mul_le_mul_of_nonneg_right (by omega) (by omega)
    exact ⟨Int.mul_nonneg (by omega) (by omega), by omega⟩
  refine n_aload_n C dX3_place_0 rfl ?_
  refine n_iload_n C dX3_place_1 rfl ?_
  refine n_invV C (c_isMachine hst (by unfold rg; omega) I hM hc hw) ⟨w4_237, w5_0, w1_5, ⟨by decide, by decide⟩, by show _ = some 1; decide +kernel, by decide⟩ w4_239 wp_25 hM.1 (show vwCl[6]? = some ("OperaMachinesModel", TX3, 27) from rfl) (by decide) (by omega) (by omega) (Nat.le_of_ble_eq_true rfl) rfl dX3_place_2 (fun r σ' h => ?_) (fun _ _ h => h.elim)
  obtain ⟨x0, rfl, rfl, hx0⟩ := h
  refine n_istore_n (lv' := [(3, iv x0), (0, .ref o), (1, iv a), (2, iv t)]) C dX3_place_5 (by rw [hN]; decide) rfl ?_
  refine n_aload_n C dX3_place_6 rfl ?_
  refine n_iload_n C dX3_place_7 rfl ?_
  refine n_if_ne C 15 dX3_place_8 (by decide) (by unfold rg; omega) (fun b8 => ?_) (fun b8 => ?_)
  · refine n_iload_n C dX3_place_15 rfl ?_
    refine n_iconst (x := 0) C dX3_place_16 ?_
    refine n_aload_n C dX3_place_17 rfl ?_
    refine r_getc C hM hc 12 (by decide) w4_140 rfl rfl dX3_place_18 ?_
    refine n_aload_n C dX3_place_21 rfl ?_
    refine n_aload_n C dX3_place_22 rfl ?_
    refine r_getc C hM hc 14 (by decide) w4_142 rfl rfl dX3_place_23 ?_
    refine n_invV C (c_lengthBy hst (by omega) I hM hc hw) ⟨w5_32, w5_35, w1_5, ⟨by decide, by decide⟩, by show _ = some 1; decide +kernel, by decide⟩ w5_34 wp_27 hM.1 (show vwCl[6]? = some ("OperaMachinesModel", TX3, 27) from rfl) (by decide) (by omega) (by omega) (Nat.le_of_ble_eq_true rfl) rfl dX3_place_26 (fun r σ' h => ?_) (fun _ _ h => h.elim)
    obtain ⟨rfl, rfl⟩ := h
    refine n_imul C dX3_place_29 ?_
    refine n_invS C (c_isIn hst (by unfold rg; omega) (by unfold rg; omega) (by unfold rg; omega)) ⟨w4_218, w4_220, w1_5, ⟨by decide, by decide⟩, by show _ = some 3; decide +kernel, by decide⟩ w4_219 (by decide) (by omega) (by omega) (Nat.le_of_ble_eq_true rfl) rfl dX3_place_30 (fun r σ' h => ?_) (fun _ _ h => h.elim)
    obtain ⟨x29, rfl, rfl, hx29⟩ := h
    refine n_if_eq C 40 dX3_place_33 (by decide) (by unfold rg; omega) (fun b33 => ?_) (fun b33 => ?_)
    · refine n_iconst (x := 2) C dX3_place_40 ?_
      refine n_invV C (c_can hst (by omega) I hM hc) ⟨w4_221, w4_224, w1_5, ⟨by decide, by decide⟩, by show _ = some 1; decide +kernel, by decide⟩ w4_223 wp_24 hM.1 (show vwCl[6]? = some ("OperaMachinesModel", TX3, 27) from rfl) (by decide) (by omega) (by omega) (Nat.le_of_ble_eq_true rfl) rfl dX3_place_41 (fun r σ h => ?_) (fun _ _ h => h.elim)
      obtain ⟨xc, M1, rfl, hM, hc, h26, hxc⟩ := h
      refine n_if_eq C 56 dX3_place_44 (by decide) (by unfold rg; omega) (fun b44 => ?_) (fun b44 => ?_)
      · have hcd : cdPlace c a t = 2 := by unfold cdPlace; rw [if_pos (by omega), if_neg (by omega)]
        refine n_iconst (x := 0) C dX3_place_56 ?_
        exact n_ireturn C Rr rfl ⟨_, _, rfl, hM, h26.trans hcd.symm, fun q => absurd (hcd.symm.trans q) (by decide), hc⟩ (by omega) (by omega) dX3_place_57
      · exfalso; omega
    · refine n_iconst (x := 0) C dX3_place_36 ?_
      refine n_goto C 41 dX3_place_37 (by decide) ?_
      refine n_invV C (c_can hst (by omega) I hM hc) ⟨w4_221, w4_224, w1_5, ⟨by decide, by decide⟩, by show _ = some 1; decide +kernel, by decide⟩ w4_223 wp_24 hM.1 (show vwCl[6]? = some ("OperaMachinesModel", TX3, 27) from rfl) (by decide) (by omega) (by omega) (Nat.le_of_ble_eq_true rfl) rfl dX3_place_41 (fun r σ h => ?_) (fun _ _ h => h.elim)
      obtain ⟨xc, M1, rfl, hM, hc, h26, hxc⟩ := h
      refine n_if_eq C 56 dX3_place_44 (by decide) (by unfold rg; omega) (fun b44 => ?_) (fun b44 => ?_)
      · exfalso; omega
      · have hcd : cdPlace c a t = 0 := by unfold cdPlace; rw [if_pos (by omega), if_pos (by omega)]
        obtain ⟨i, rfl⟩ : ∃ i : Nat, a = i := ⟨a.toNat, by omega⟩
        obtain ⟨τ, rfl⟩ : ∃ τ : Nat, t = τ := ⟨t.toNat, by omega⟩
        refine n_aload_n C dX3_place_47 rfl ?_
        refine n_iload_n C dX3_place_48 rfl ?_
        refine n_iload_n C dX3_place_49 rfl ?_
        refine n_invV C (c_placeAt hst I hM hc hw (by omega) (by omega) (by omega) hend.2) ⟨w5_44, w5_47, w1_5, ⟨by decide, by decide⟩, by show _ = some 2; decide +kernel, by decide⟩ w5_46 wp_28 hM.1 (show vwCl[6]? = some ("OperaMachinesModel", TX3, 27) from rfl) (by decide) (by omega) (by omega) (Nat.le_of_ble_eq_true rfl) rfl dX3_place_50 (fun r σ h => ?_) (fun _ _ h => h.elim)
        obtain ⟨M2, rfl, hM, hc, h26'⟩ := h
        refine n_goto C 57 dX3_place_53 (by decide) ?_
        exact n_ireturn C Rr rfl ⟨_, _, rfl, hM, (h26'.trans h26).trans hcd.symm, fun _ => rfl, hc⟩ (by omega) (by omega) dX3_place_57
  · refine n_iconst (x := 1) C dX3_place_11 ?_
    refine n_goto C 41 dX3_place_12 (by decide) ?_
    refine n_invV C (c_can hst (by omega) I hM hc) ⟨w4_221, w4_224, w1_5, ⟨by decide, by decide⟩, by show _ = some 1; decide +kernel, by decide⟩ w4_223 wp_24 hM.1 (show vwCl[6]? = some ("OperaMachinesModel", TX3, 27) from rfl) (by decide) (by omega) (by omega) (Nat.le_of_ble_eq_true rfl) rfl dX3_place_41 (fun r σ h => ?_) (fun _ _ h => h.elim)
    obtain ⟨xc, M1, rfl, hM, hc, h26, hxc⟩ := h
    refine n_if_eq C 56 dX3_place_44 (by decide) (by unfold rg; omega) (fun b44 => ?_) (fun b44 => ?_)
    · have hcd : cdPlace c a t = 1 := by unfold cdPlace; rw [if_neg (by omega)]
      refine n_iconst (x := 0) C dX3_place_56 ?_
      exact n_ireturn C Rr rfl ⟨_, _, rfl, hM, h26.trans hcd.symm, fun q => absurd (hcd.symm.trans q) (by decide), hc⟩ (by omega) (by omega) dX3_place_57
    · exfalso; omega
set_option maxRecDepth 100000 in
set_option maxHeartbeats 4000000 in
theorem c_rplaceAtBar {g : Gx} (hst : g.1.stackTraces = false) {a : Int} (hra : rg a) {t : Int} (hrt : rg t) {o : Nat} {ar : Nat → Nat} {β : Wd} {M c : Tb} (I : RI o ar) {σ : Wd} (hM : MW g.2.1 o ar β M σ) (hc : cut M = c) (hw : WF c) : CT g yX3_placeAtBar cX3_placeAtBar 4 (some .int) 4 0 0 [.ref o, iv a, iv t] σ (fun r σ' => ∃ (x : Int) (M' : Tb), r = some (iv x) ∧ MW g.2.1 o ar β M' σ' ∧ M' 26 0 = cdBar c a t ∧ (cdBar c a t = 0 → x = (tr c (LL c) a.toNat (t.toNat * LL c)).1) ∧ cut M' = c) (fun _ _ => False) := by
  refine CT.of hst (by decide +kernel) (Nat.le_of_ble_eq_true rfl) (fun Φ C Rr hY hN => ?_)
  show N Φ 0 0 σ 0 [(0, .ref o), (1, iv a), (2, iv t)] []
  unfold rg at hra hrt
  obtain ⟨w0, w6, w12, w13, w14, w15, w16, wm, wq, ww⟩ := id hw
  have hLr := lenB_rg hw (T := c 14 0) (by omega)
  have hend : 0 ≤ c 12 0 * lenB c (c 14 0) ∧ c 12 0 * lenB c (c 14 0) ≤ 2400 := by
    have z1 : c 12 0 * lenB c (c 14 0) ≤ 30 * lenB c (c 14 0) := Int.mul_le_mul_of_nonneg_right (by omega) (by omega)
    exact ⟨Int.mul_nonneg (by omega) (by omega), by omega⟩
  refine n_aload_n C dX3_placeAtBar_0 rfl ?_
  refine n_iload_n C dX3_placeAtBar_1 rfl ?_
  refine n_invV C (c_isMachine hst (by unfold rg; omega) I hM hc hw) ⟨w4_237, w5_0, w1_5, ⟨by decide, by decide⟩, by show _ = some 1; decide +kernel, by decide⟩ w4_239 wp_25 hM.1 (show vwCl[6]? = some ("OperaMachinesModel", TX3, 27) from rfl) (by decide) (by omega) (by omega) (Nat.le_of_ble_eq_true rfl) rfl dX3_placeAtBar_2 (fun r σ' h => ?_) (fun _ _ h => h.elim)
  obtain ⟨x0, rfl, rfl, hx0⟩ := h
  refine n_istore_n (lv' := [(3, iv x0), (0, .ref o), (1, iv a), (2, iv t)]) C dX3_placeAtBar_5 (by rw [hN]; decide) rfl ?_
  refine n_aload_n C dX3_placeAtBar_6 rfl ?_
  refine n_iload_n C dX3_placeAtBar_7 rfl ?_
  refine n_if_ne C 15 dX3_placeAtBar_8 (by decide) (by unfold rg; omega) (fun b8 => ?_) (fun b8 => ?_)
  · refine n_iload_n C dX3_placeAtBar_15 rfl ?_
    refine n_iconst (x := 0) C dX3_placeAtBar_16 ?_
    refine n_aload_n C dX3_placeAtBar_17 rfl ?_
    refine r_getc C hM hc 12 (by decide) w4_140 rfl rfl dX3_placeAtBar_18 ?_
    refine n_invS C (c_isIn hst (by unfold rg; omega) (by unfold rg; omega) (by unfold rg; omega)) ⟨w4_218, w4_220, w1_5, ⟨by decide, by decide⟩, by show _ = some 3; decide +kernel, by decide⟩ w4_219 (by decide) (by omega) (by omega) (Nat.le_of_ble_eq_true rfl) rfl dX3_placeAtBar_21 (fun r σ' h => ?_) (fun _ _ h => h.elim)
    obtain ⟨x15, rfl, rfl, hx15⟩ := h
    refine n_if_eq C 31 dX3_placeAtBar_24 (by decide) (by unfold rg; omega) (fun b24 => ?_) (fun b24 => ?_)
    · refine n_iconst (x := 2) C dX3_placeAtBar_31 ?_
      refine n_invV C (c_can hst (by omega) I hM hc) ⟨w4_221, w4_224, w1_5, ⟨by decide, by decide⟩, by show _ = some 1; decide +kernel, by decide⟩ w4_223 wp_24 hM.1 (show vwCl[6]? = some ("OperaMachinesModel", TX3, 27) from rfl) (by decide) (by omega) (by omega) (Nat.le_of_ble_eq_true rfl) rfl dX3_placeAtBar_32 (fun r σ h => ?_) (fun _ _ h => h.elim)
      obtain ⟨xc, M1, rfl, hM, hc, h26, hxc⟩ := h
      refine n_if_eq C 56 dX3_placeAtBar_35 (by decide) (by unfold rg; omega) (fun b35 => ?_) (fun b35 => ?_)
      · have hcd : cdBar c a t = 2 := by unfold cdBar; rw [if_pos (by omega), if_neg (by omega)]
        refine n_iconst (x := 0) C dX3_placeAtBar_56 ?_
        exact n_ireturn C Rr rfl ⟨_, _, rfl, hM, h26.trans hcd.symm, fun q => absurd (hcd.symm.trans q) (by decide), hc⟩ (by omega) (by omega) dX3_placeAtBar_57
      · exfalso; omega
    · refine n_iconst (x := 0) C dX3_placeAtBar_27 ?_
      refine n_goto C 32 dX3_placeAtBar_28 (by decide) ?_
      refine n_invV C (c_can hst (by omega) I hM hc) ⟨w4_221, w4_224, w1_5, ⟨by decide, by decide⟩, by show _ = some 1; decide +kernel, by decide⟩ w4_223 wp_24 hM.1 (show vwCl[6]? = some ("OperaMachinesModel", TX3, 27) from rfl) (by decide) (by omega) (by omega) (Nat.le_of_ble_eq_true rfl) rfl dX3_placeAtBar_32 (fun r σ h => ?_) (fun _ _ h => h.elim)
      obtain ⟨xc, M1, rfl, hM, hc, h26, hxc⟩ := h
      refine n_if_eq C 56 dX3_placeAtBar_35 (by decide) (by unfold rg; omega) (fun b35 => ?_) (fun b35 => ?_)
      · exfalso; omega
      · have hcd : cdBar c a t = 0 := by unfold cdBar; rw [if_pos (by omega), if_pos (by omega)]
        obtain ⟨i, rfl⟩ : ∃ i : Nat, a = i := ⟨a.toNat, by omega⟩
        obtain ⟨τ, rfl⟩ : ∃ τ : Nat, t = τ := ⟨t.toNat, by omega⟩
        refine n_aload_n C dX3_placeAtBar_38 rfl ?_
        refine n_iload_n C dX3_placeAtBar_39 rfl ?_
        refine n_iload_n C dX3_placeAtBar_40 rfl ?_
        refine n_aload_n C dX3_placeAtBar_41 rfl ?_
        refine n_aload_n C dX3_placeAtBar_42 rfl ?_
        refine r_getc C hM hc 14 (by decide) w4_142 rfl rfl dX3_placeAtBar_43 ?_
        refine n_invV C (c_lengthBy hst (by omega) I hM hc hw) ⟨w5_32, w5_35, w1_5, ⟨by decide, by decide⟩, by show _ = some 1; decide +kernel, by decide⟩ w5_34 wp_27 hM.1 (show vwCl[6]? = some ("OperaMachinesModel", TX3, 27) from rfl) (by decide) (by omega) (by omega) (Nat.le_of_ble_eq_true rfl) rfl dX3_placeAtBar_46 (fun r σ' h => ?_) (fun _ _ h => h.elim)
        obtain ⟨rfl, rfl⟩ := h
        refine n_imul C dX3_placeAtBar_49 ?_
        have eL : (τ : Int) * lenB c (c 14 0) = ((τ * LL c : Nat) : Int) := by
          rw [Int.natCast_mul]; unfold LL; rw [Int.toNat_of_nonneg (by omega)]
        have eT : (τ : Int) * lenB c (c 14 0) ≤ c 12 0 * lenB c (c 14 0) := Int.mul_le_mul_of_nonneg_right (by omega) (by omega)
        rw [eL] at eT ⊢
        refine n_invV C (c_placeAt hst I hM hc hw (by omega) (by omega) eT hend.2) ⟨w5_44, w5_47, w1_5, ⟨by decide, by decide⟩, by show _ = some 2; decide +kernel, by decide⟩ w5_46 wp_28 hM.1 (show vwCl[6]? = some ("OperaMachinesModel", TX3, 27) from rfl) (by decide) (by omega) (by omega) (Nat.le_of_ble_eq_true rfl) rfl dX3_placeAtBar_50 (fun r σ h => ?_) (fun _ _ h => h.elim)
        obtain ⟨M2, rfl, hM, hc, h26'⟩ := h
        refine n_goto C 57 dX3_placeAtBar_53 (by decide) ?_
        exact n_ireturn C Rr rfl ⟨_, _, rfl, hM, (h26'.trans h26).trans hcd.symm, fun _ => rfl, hc⟩ (by omega) (by omega) dX3_placeAtBar_57
  · refine n_iconst (x := 1) C dX3_placeAtBar_11 ?_
    refine n_goto C 32 dX3_placeAtBar_12 (by decide) ?_
    refine n_invV C (c_can hst (by omega) I hM hc) ⟨w4_221, w4_224, w1_5, ⟨by decide, by decide⟩, by show _ = some 1; decide +kernel, by decide⟩ w4_223 wp_24 hM.1 (show vwCl[6]? = some ("OperaMachinesModel", TX3, 27) from rfl) (by decide) (by omega) (by omega) (Nat.le_of_ble_eq_true rfl) rfl dX3_placeAtBar_32 (fun r σ h => ?_) (fun _ _ h => h.elim)
    obtain ⟨xc, M1, rfl, hM, hc, h26, hxc⟩ := h
    refine n_if_eq C 56 dX3_placeAtBar_35 (by decide) (by unfold rg; omega) (fun b35 => ?_) (fun b35 => ?_)
    · have hcd : cdBar c a t = 1 := by unfold cdBar; rw [if_neg (by omega)]
      refine n_iconst (x := 0) C dX3_placeAtBar_56 ?_
      exact n_ireturn C Rr rfl ⟨_, _, rfl, hM, h26.trans hcd.symm, fun q => absurd (hcd.symm.trans q) (by decide), hc⟩ (by omega) (by omega) dX3_placeAtBar_57
    · exfalso; omega
set_option maxRecDepth 100000 in
set_option maxHeartbeats 4000000 in
theorem c_workerOf {g : Gx} (hst : g.1.stackTraces = false) {o : Nat} {ar : Nat → Nat} {β : Wd} {M c : Tb} (I : RI o ar) {σ : Wd} (hM : MW g.2.1 o ar β M σ) (hc : cut M = c) (hw : WF c) {q : Nat} (hq : q < 24) : CT g yX3_workerOf cX3_workerOf 4 (some .int) 0 0 0 [.ref o, iv (q : Int)] σ (fun r σ' => r = some (iv (wOf c q)) ∧ σ' = σ) (fun _ _ => False) := by
  refine CT.of hst (by decide +kernel) (Nat.le_of_ble_eq_true rfl) (fun Φ C Rr hY hN => ?_)
  show N Φ 0 0 σ 0 [(0, .ref o), (1, iv (q : Int))] []
  obtain ⟨w0, w6, w12, w13, w14, w15, w16, wm, wq, ww⟩ := id hw
  have wq1 := (wq q).2.2.2.2.2.2.1
  refine n_aload_n C dX3_workerOf_0 rfl ?_
  refine r_get C hM 10 (by decide) w4_138 rfl rfl dX3_workerOf_1 ?_
  refine n_iload_n C dX3_workerOf_4 rfl ?_
  refine r_ialdc C hM hc 10 (by decide) rfl rfl q rfl (show _ < 24 by omega) dX3_workerOf_5 ?_
  refine n_istore_n (lv' := [(2, iv (c 10 q)), (0, .ref o), (1, iv (q : Int))]) C dX3_workerOf_6 (by rw [hN]; decide) rfl ?_
  refine n_iconst (x := 0) C dX3_workerOf_7 ?_
  refine n_istore_n (lv' := [(3, iv 0), (2, iv (c 10 q)), (0, .ref o), (1, iv (q : Int))]) C dX3_workerOf_8 (by rw [hN]; decide) rfl ?_
  have LP : ∀ (fu : Nat) (k : Nat) (v : Int) (he : wkN c (6 - k) v = wkN c 6 (c 10 q)) (hv : -1 ≤ v ∧ v ≤ 5) (h1 : k ≤ 6) (h2 : 7 ≤ k + fu), N Φ 0 0 σ 9 [(3, iv (k : Int)), (2, iv v), (0, .ref o), (1, iv (q : Int))] [] := by
    intro fu
    induction fu with
    | zero =>
      intro k v he hv h1 h2
      omega
    | succ fu ih =>
      intro k v he hv h1 h2
      have b1 := wkN_rg hw (6 - k) v hv
      have wv := ww v.toNat
      have J42 : ∀ (hF : v = wkN c 6 (c 10 q)), N Φ 0 0 σ 42 [(0, .ref o), (1, iv (q : Int)), (2, iv v)] [] := by
        intro hF
        refine n_iload_n C dX3_workerOf_42 rfl ?_
        refine n_iconst (x := (-1)) C dX3_workerOf_43 ?_
        refine n_icmp_eq C 56 dX3_workerOf_44 (by decide) (by unfold rg; omega) (by unfold rg; omega) (fun b44 => ?_) (fun b44 => ?_)
        · refine n_iconst (x := (-1)) C dX3_workerOf_56 ?_
          refine n_goto C 61 dX3_workerOf_57 (by decide) ?_
          exact n_ireturn C Rr rfl ⟨by unfold wOf; rw [← hF, if_pos (by omega)], rfl⟩ (by omega) (by omega) dX3_workerOf_61
        · refine n_aload_n C dX3_workerOf_47 rfl ?_
          refine r_get C hM 17 (by decide) w4_145 rfl rfl dX3_workerOf_48 ?_
          refine n_iload_n C dX3_workerOf_51 rfl ?_
          refine r_zaldc C hM hc 17 (by decide) rfl rfl ((v).toNat) (by omega) (show _ < 6 by omega) dX3_workerOf_52 ?_
          refine n_if_eq C 60 dX3_workerOf_53 (by decide) (by unfold rg; omega) (fun b53 => ?_) (fun b53 => ?_)
          · refine n_iload_n C dX3_workerOf_60 rfl ?_
            exact n_ireturn C Rr rfl ⟨by unfold wOf; rw [← hF, if_neg (by omega)], rfl⟩ (by omega) (by omega) dX3_workerOf_61
          · refine n_iconst (x := (-1)) C dX3_workerOf_56 ?_
            refine n_goto C 61 dX3_workerOf_57 (by decide) ?_
            exact n_ireturn C Rr rfl ⟨by unfold wOf; rw [← hF, if_pos (by omega)], rfl⟩ (by omega) (by omega) dX3_workerOf_61
      refine n_iload_n C dX3_workerOf_9 rfl ?_
      refine n_bipush (x := 6) C dX3_workerOf_10 (by decide) ?_
      refine n_icmp_ge C 42 dX3_workerOf_12 (by decide) (by unfold rg; omega) (by unfold rg; omega) (fun b12 => ?_) (fun b12 => ?_)
      · refine n_keep (lv' := [(0, .ref o), (1, iv (q : Int)), (2, iv v)]) [0, 1, 2] rfl ?_
        exact J42 (by rw [← he, show 6 - k = 0 by omega]; rfl)
      · have e6 : 6 - k = (6 - (k + 1)) + 1 := by omega
        refine n_iload_n C dX3_workerOf_15 rfl ?_
        refine n_iconst (x := (-1)) C dX3_workerOf_16 ?_
        refine n_icmp_eq C 42 dX3_workerOf_17 (by decide) (by unfold rg; omega) (by unfold rg; omega) (fun b17 => ?_) (fun b17 => ?_)
        · refine n_keep (lv' := [(0, .ref o), (1, iv (q : Int)), (2, iv v)]) [0, 1, 2] rfl ?_
          exact J42 (by rw [← he, e6]; unfold wkN; rw [if_neg (by omega)])
        · refine n_aload_n C dX3_workerOf_20 rfl ?_
          refine r_get C hM 17 (by decide) w4_145 rfl rfl dX3_workerOf_21 ?_
          refine n_iload_n C dX3_workerOf_24 rfl ?_
          refine r_zaldc C hM hc 17 (by decide) rfl rfl ((v).toNat) (by omega) (show _ < 6 by omega) dX3_workerOf_25 ?_
          refine n_if_eq C 42 dX3_workerOf_26 (by decide) (by unfold rg; omega) (fun b26 => ?_) (fun b26 => ?_)
          · refine n_keep (lv' := [(0, .ref o), (1, iv (q : Int)), (2, iv v)]) [0, 1, 2] rfl ?_
            exact J42 (by rw [← he, e6]; unfold wkN; rw [if_neg (by omega)])
          · refine n_aload_n C dX3_workerOf_29 rfl ?_
            refine r_get C hM 18 (by decide) w4_146 rfl rfl dX3_workerOf_30 ?_
            refine n_iload_n C dX3_workerOf_33 rfl ?_
            refine r_ialdc C hM hc 18 (by decide) rfl rfl ((v).toNat) (by omega) (show _ < 6 by omega) dX3_workerOf_34 ?_
            refine n_istore_n (lv' := [(2, iv (c 18 ((v).toNat))), (3, iv (k : Int)), (0, .ref o), (1, iv (q : Int))]) C dX3_workerOf_35 (by rw [hN]; decide) rfl ?_
            refine n_iinc (lv' := [(3, iv ((k : Int) + 1)), (2, iv (c 18 ((v).toNat))), (0, .ref o), (1, iv (q : Int))]) C dX3_workerOf_36 rfl (by rw [hN]; decide) rfl ?_
            refine n_goto C 9 dX3_workerOf_39 (by decide) ?_
            refine n_keep (lv' := [(3, iv ((k : Int) + 1)), (2, iv (c 18 ((v).toNat))), (0, .ref o), (1, iv (q : Int))]) [3, 2, 0, 1] rfl ?_
            exact ih (k + 1) _ (by rw [← he, e6]; (conv => rhs; unfold wkN); rw [if_pos (by omega)]) wv.2 (by omega) (by omega)
  exact LP 7 0 _ rfl (by omega) (by omega) (by omega)
set_option maxRecDepth 100000 in
set_option maxHeartbeats 4000000 in
theorem c_rworker {g : Gx} (hst : g.1.stackTraces = false) {a : Int} (hra : rg a) {o : Nat} {ar : Nat → Nat} {β : Wd} {M c : Tb} (I : RI o ar) {σ : Wd} (hM : MW g.2.1 o ar β M σ) (hc : cut M = c) (hw : WF c) : CT g yX3_worker cX3_worker 2 (some .int) 2 0 0 [.ref o, iv a] σ (fun r σ' => ∃ (x : Int) (M' : Tb), r = some (iv x) ∧ MW g.2.1 o ar β M' σ' ∧ M' 26 0 = cdIs c a ∧ (cdIs c a = 0 → x = vlWorker c a) ∧ cut M' = c) (fun _ _ => False) := by
  refine CT.of hst (by decide +kernel) (Nat.le_of_ble_eq_true rfl) (fun Φ C Rr hY hN => ?_)
  show N Φ 0 0 σ 0 [(0, .ref o), (1, iv a)] []
  unfold rg at hra
  obtain ⟨w0, w6, w12, w13, w14, w15, w16, wm, wq, ww⟩ := id hw
  refine n_aload_n C dX3_worker_0 rfl ?_
  refine n_aload_n C dX3_worker_1 rfl ?_
  refine n_iload_n C dX3_worker_2 rfl ?_
  refine n_invV C (c_isCue hst (by unfold rg; omega) I hM hc hw) ⟨w5_8, w5_11, w1_5, ⟨by decide, by decide⟩, by show _ = some 1; decide +kernel, by decide⟩ w5_10 wp_26 hM.1 (show vwCl[6]? = some ("OperaMachinesModel", TX3, 27) from rfl) (by decide) (by omega) (by omega) (Nat.le_of_ble_eq_true rfl) rfl dX3_worker_3 (fun r σ' h => ?_) (fun _ _ h => h.elim)
  obtain ⟨x0, rfl, rfl, hx0⟩ := h
  refine n_if_eq C 13 dX3_worker_6 (by decide) (by unfold rg; omega) (fun b6 => ?_) (fun b6 => ?_)
  · refine n_iconst (x := 1) C dX3_worker_13 ?_
    refine n_invV C (c_can hst (by omega) I hM hc) ⟨w4_221, w4_224, w1_5, ⟨by decide, by decide⟩, by show _ = some 1; decide +kernel, by decide⟩ w4_223 wp_24 hM.1 (show vwCl[6]? = some ("OperaMachinesModel", TX3, 27) from rfl) (by decide) (by omega) (by omega) (Nat.le_of_ble_eq_true rfl) rfl dX3_worker_14 (fun r σ h => ?_) (fun _ _ h => h.elim)
    obtain ⟨xc, M1, rfl, hM, hc, h26, hxc⟩ := h
    refine n_if_eq C 28 dX3_worker_17 (by decide) (by unfold rg; omega) (fun b17 => ?_) (fun b17 => ?_)
    · have hcd : cdIs c a = 1 := by unfold cdIs; rw [if_neg (by omega)]
      refine n_iconst (x := 0) C dX3_worker_28 ?_
      exact n_ireturn C Rr rfl ⟨_, _, rfl, hM, h26.trans hcd.symm, fun q => absurd (hcd.symm.trans q) (by decide), hc⟩ (by omega) (by omega) dX3_worker_29
    · exfalso; omega
  · refine n_iconst (x := 0) C dX3_worker_9 ?_
    refine n_goto C 14 dX3_worker_10 (by decide) ?_
    refine n_invV C (c_can hst (by omega) I hM hc) ⟨w4_221, w4_224, w1_5, ⟨by decide, by decide⟩, by show _ = some 1; decide +kernel, by decide⟩ w4_223 wp_24 hM.1 (show vwCl[6]? = some ("OperaMachinesModel", TX3, 27) from rfl) (by decide) (by omega) (by omega) (Nat.le_of_ble_eq_true rfl) rfl dX3_worker_14 (fun r σ h => ?_) (fun _ _ h => h.elim)
    obtain ⟨xc, M1, rfl, hM, hc, h26, hxc⟩ := h
    refine n_if_eq C 28 dX3_worker_17 (by decide) (by unfold rg; omega) (fun b17 => ?_) (fun b17 => ?_)
    · exfalso; omega
    · have hcd : cdIs c a = 0 := by unfold cdIs; rw [if_pos (by omega)]
      obtain ⟨q, rfl⟩ : ∃ q : Nat, a = q := ⟨a.toNat, by omega⟩
      refine n_aload_n C dX3_worker_20 rfl ?_
      refine n_iload_n C dX3_worker_21 rfl ?_
      refine n_invV C (c_workerOf hst I hM hc hw (by omega)) ⟨w5_88, w5_91, w1_5, ⟨by decide, by decide⟩, by show _ = some 1; decide +kernel, by decide⟩ w5_90 wp_35 hM.1 (show vwCl[6]? = some ("OperaMachinesModel", TX3, 27) from rfl) (by decide) (by omega) (by omega) (Nat.le_of_ble_eq_true rfl) rfl dX3_worker_22 (fun r σ' h => ?_) (fun _ _ h => h.elim)
      obtain ⟨rfl, rfl⟩ := h
      refine n_goto C 29 dX3_worker_25 (by decide) ?_
      exact n_ireturn C Rr rfl ⟨_, _, rfl, hM, h26.trans hcd.symm, fun _ => rfl, hc⟩ (by omega) (by omega) dX3_worker_29
set_option maxRecDepth 100000 in
set_option maxHeartbeats 4000000 in
theorem c_isOf {g : Gx} (hst : g.1.stackTraces = false) {o : Nat} {ar : Nat → Nat} {β : Wd} {M c : Tb} (I : RI o ar) {σ : Wd} (hM : MW g.2.1 o ar β M σ) (hc : cut M = c) (hw : WF c) (hBE : ∀ q : Nat, q < 24 → (0 ≤ M 22 q ∧ M 22 q ≤ 2400) ∧ (0 ≤ M 23 q ∧ M 23 q ≤ 2400)) {q : Nat} (hq : q < 24) {v : Int} (hv : -1 ≤ v ∧ v ≤ 5) : CT g yX3_isOf cX3_isOf 3 (some .boolean) 1 0 0 [.ref o, iv (q : Int), iv v] σ (fun r σ' => ∃ x : Int, r = some (iv x) ∧ σ' = σ ∧ ((x = 1 ∧ ((q : Int) < c 6 0 ∧ c 11 q = 0 ∧ M 22 q < M 23 q ∧ wOf c q = v)) ∨ (x = 0 ∧ ¬ (((q : Int) < c 6 0 ∧ c 11 q = 0 ∧ M 22 q < M 23 q ∧ wOf c q = v))))) (fun _ _ => False) := by
  refine CT.of hst (by decide +kernel) (Nat.le_of_ble_eq_true rfl) (fun Φ C Rr hY hN => ?_)
  show N Φ 0 0 σ 0 [(0, .ref o), (1, iv (q : Int)), (2, iv v)] []
  obtain ⟨w0, w6, w12, w13, w14, w15, w16, wm, wq, ww⟩ := id hw
  have wq1 := wq q
  have b0 := hBE q hq
  have bw := wOf_rg hw q
  refine n_iload_n C dX3_isOf_0 rfl ?_
  refine n_aload_n C dX3_isOf_1 rfl ?_
  refine r_getc C hM hc 6 (by decide) w4_134 rfl rfl dX3_isOf_2 ?_
  refine n_icmp_ge C 45 dX3_isOf_5 (by decide) (by unfold rg; omega) (by unfold rg; omega) (fun b5 => ?_) (fun b5 => ?_)
  · refine n_iconst (x := 0) C dX3_isOf_45 ?_
    exact n_ireturn C Rr (nar_bv (by first | decide | omega)) ⟨_, rfl, rfl, by omega⟩ (by omega) (by omega) dX3_isOf_46
  · refine n_aload_n C dX3_isOf_8 rfl ?_
    refine r_get C hM 11 (by decide) w4_139 rfl rfl dX3_isOf_9 ?_
    refine n_iload_n C dX3_isOf_12 rfl ?_
    refine r_zaldc C hM hc 11 (by decide) rfl rfl q rfl (show _ < 24 by omega) dX3_isOf_13 ?_
    refine n_if_ne C 45 dX3_isOf_14 (by decide) (by unfold rg; omega) (fun b14 => ?_) (fun b14 => ?_)
    · refine n_iconst (x := 0) C dX3_isOf_45 ?_
      exact n_ireturn C Rr (nar_bv (by first | decide | omega)) ⟨_, rfl, rfl, by omega⟩ (by omega) (by omega) dX3_isOf_46
    · refine n_aload_n C dX3_isOf_17 rfl ?_
      refine r_get C hM 23 (by decide) w4_151 rfl rfl dX3_isOf_18 ?_
      refine n_iload_n C dX3_isOf_21 rfl ?_
      refine r_iald C hM 23 rfl rfl q rfl (show _ < 24 by omega) dX3_isOf_22 ?_
      refine n_aload_n C dX3_isOf_23 rfl ?_
      refine r_get C hM 22 (by decide) w4_150 rfl rfl dX3_isOf_24 ?_
      refine n_iload_n C dX3_isOf_27 rfl ?_
      refine r_iald C hM 22 rfl rfl q rfl (show _ < 24 by omega) dX3_isOf_28 ?_
      refine n_icmp_le C 45 dX3_isOf_29 (by decide) (by unfold rg; omega) (by unfold rg; omega) (fun b29 => ?_) (fun b29 => ?_)
      · refine n_iconst (x := 0) C dX3_isOf_45 ?_
        exact n_ireturn C Rr (nar_bv (by first | decide | omega)) ⟨_, rfl, rfl, by omega⟩ (by omega) (by omega) dX3_isOf_46
      · refine n_aload_n C dX3_isOf_32 rfl ?_
        refine n_iload_n C dX3_isOf_33 rfl ?_
        refine n_invV C (c_workerOf hst I hM hc hw hq) ⟨w5_88, w5_91, w1_5, ⟨by decide, by decide⟩, by show _ = some 1; decide +kernel, by decide⟩ w5_90 wp_35 hM.1 (show vwCl[6]? = some ("OperaMachinesModel", TX3, 27) from rfl) (by decide) (by omega) (by omega) (Nat.le_of_ble_eq_true rfl) rfl dX3_isOf_34 (fun r σ' h => ?_) (fun _ _ h => h.elim)
        obtain ⟨rfl, rfl⟩ := h
        refine n_iload_n C dX3_isOf_37 rfl ?_
        refine n_icmp_ne C 45 dX3_isOf_38 (by decide) (by unfold rg; omega) (by unfold rg; omega) (fun b38 => ?_) (fun b38 => ?_)
        · refine n_iconst (x := 0) C dX3_isOf_45 ?_
          exact n_ireturn C Rr (nar_bv (by first | decide | omega)) ⟨_, rfl, rfl, by omega⟩ (by omega) (by omega) dX3_isOf_46
        · refine n_iconst (x := 1) C dX3_isOf_41 ?_
          refine n_goto C 46 dX3_isOf_42 (by decide) ?_
          exact n_ireturn C Rr (nar_bv (by first | decide | omega)) ⟨_, rfl, rfl, by omega⟩ (by omega) (by omega) dX3_isOf_46
set_option maxRecDepth 100000 in
set_option maxHeartbeats 4000000 in
theorem c_isAhead {g : Gx} (hst : g.1.stackTraces = false) {o : Nat} {ar : Nat → Nat} {β : Wd} {M c : Tb} (I : RI o ar) {σ : Wd} (hM : MW g.2.1 o ar β M σ) (hc : cut M = c) (hw : WF c) (hBE : ∀ q : Nat, q < 24 → (0 ≤ M 22 q ∧ M 22 q ≤ 2400) ∧ (0 ≤ M 23 q ∧ M 23 q ≤ 2400)) {q p : Nat} (hq : q < 24) (hp : p < 24) : CT g yX3_isAhead cX3_isAhead 3 (some .boolean) 0 0 0 [.ref o, iv (q : Int), iv (p : Int)] σ (fun r σ' => ∃ x : Int, r = some (iv x) ∧ σ' = σ ∧ ((x = 1 ∧ (M 22 q < M 22 p ∨ (M 22 q = M 22 p ∧ q < p))) ∨ (x = 0 ∧ ¬ ((M 22 q < M 22 p ∨ (M 22 q = M 22 p ∧ q < p)))))) (fun _ _ => False) := by
  refine CT.of hst (by decide +kernel) (Nat.le_of_ble_eq_true rfl) (fun Φ C Rr hY hN => ?_)
  show N Φ 0 0 σ 0 [(0, .ref o), (1, iv (q : Int)), (2, iv (p : Int))] []
  obtain ⟨w0, w6, w12, w13, w14, w15, w16, wm, wq, ww⟩ := id hw
  have b0 := hBE q hq
  have b1 := hBE p hp
  refine n_aload_n C dX3_isAhead_0 rfl ?_
  refine r_get C hM 22 (by decide) w4_150 rfl rfl dX3_isAhead_1 ?_
  refine n_iload_n C dX3_isAhead_4 rfl ?_
  refine r_iald C hM 22 rfl rfl q rfl (show _ < 24 by omega) dX3_isAhead_5 ?_
  refine n_aload_n C dX3_isAhead_6 rfl ?_
  refine r_get C hM 22 (by decide) w4_150 rfl rfl dX3_isAhead_7 ?_
  refine n_iload_n C dX3_isAhead_10 rfl ?_
  refine r_iald C hM 22 rfl rfl p rfl (show _ < 24 by omega) dX3_isAhead_11 ?_
  refine n_icmp_lt C 35 dX3_isAhead_12 (by decide) (by unfold rg; omega) (by unfold rg; omega) (fun b12 => ?_) (fun b12 => ?_)
  · refine n_iconst (x := 1) C dX3_isAhead_35 ?_
    refine n_goto C 40 dX3_isAhead_36 (by decide) ?_
    exact n_ireturn C Rr (nar_bv (by first | decide | omega)) ⟨_, rfl, rfl, by omega⟩ (by omega) (by omega) dX3_isAhead_40
  · refine n_aload_n C dX3_isAhead_15 rfl ?_
    refine r_get C hM 22 (by decide) w4_150 rfl rfl dX3_isAhead_16 ?_
    refine n_iload_n C dX3_isAhead_19 rfl ?_
    refine r_iald C hM 22 rfl rfl q rfl (show _ < 24 by omega) dX3_isAhead_20 ?_
    refine n_aload_n C dX3_isAhead_21 rfl ?_
    refine r_get C hM 22 (by decide) w4_150 rfl rfl dX3_isAhead_22 ?_
    refine n_iload_n C dX3_isAhead_25 rfl ?_
    refine r_iald C hM 22 rfl rfl p rfl (show _ < 24 by omega) dX3_isAhead_26 ?_
    refine n_icmp_ne C 39 dX3_isAhead_27 (by decide) (by unfold rg; omega) (by unfold rg; omega) (fun b27 => ?_) (fun b27 => ?_)
    · refine n_iconst (x := 0) C dX3_isAhead_39 ?_
      exact n_ireturn C Rr (nar_bv (by first | decide | omega)) ⟨_, rfl, rfl, by omega⟩ (by omega) (by omega) dX3_isAhead_40
    · refine n_iload_n C dX3_isAhead_30 rfl ?_
      refine n_iload_n C dX3_isAhead_31 rfl ?_
      refine n_icmp_ge C 39 dX3_isAhead_32 (by decide) (by unfold rg; omega) (by unfold rg; omega) (fun b32 => ?_) (fun b32 => ?_)
      · refine n_iconst (x := 0) C dX3_isAhead_39 ?_
        exact n_ireturn C Rr (nar_bv (by first | decide | omega)) ⟨_, rfl, rfl, by omega⟩ (by omega) (by omega) dX3_isAhead_40
      · refine n_iconst (x := 1) C dX3_isAhead_35 ?_
        refine n_goto C 40 dX3_isAhead_36 (by decide) ?_
        exact n_ireturn C Rr (nar_bv (by first | decide | omega)) ⟨_, rfl, rfl, by omega⟩ (by omega) (by omega) dX3_isAhead_40
set_option maxRecDepth 100000 in
set_option maxHeartbeats 4000000 in
theorem c_nextOf {g : Gx} (hst : g.1.stackTraces = false) {o : Nat} {ar : Nat → Nat} {β : Wd} {M c : Tb} (I : RI o ar) {σ : Wd} (hM : MW g.2.1 o ar β M σ) (hc : cut M = c) (hw : WF c) (hBE : ∀ q : Nat, q < 24 → (0 ≤ M 22 q ∧ M 22 q ≤ 2400) ∧ (0 ≤ M 23 q ∧ M 23 q ≤ 2400)) {q : Nat} (hq : q < 24) {v : Int} (hv : -1 ≤ v ∧ v ≤ 5) : CT g yX3_nextOf cX3_nextOf 5 (some .int) 2 0 0 [.ref o, iv (q : Int), iv v] σ (fun r σ' => r = some (iv (nxO c (M 22) (M 23) q v)) ∧ σ' = σ) (fun _ _ => False) := by
  refine CT.of hst (by decide +kernel) (Nat.le_of_ble_eq_true rfl) (fun Φ C Rr hY hN => ?_)
  show N Φ 0 0 σ 0 [(0, .ref o), (1, iv (q : Int)), (2, iv v)] []
  obtain ⟨w0, w6, w12, w13, w14, w15, w16, wm, wq, ww⟩ := id hw
  refine n_iconst (x := (-1)) C dX3_nextOf_0 ?_
  refine n_istore_n (lv' := [(3, iv (-1)), (0, .ref o), (1, iv (q : Int)), (2, iv v)]) C dX3_nextOf_1 (by rw [hN]; decide) rfl ?_
  refine n_iconst (x := 0) C dX3_nextOf_2 ?_
  refine n_istore (lv' := [(4, iv 0), (3, iv (-1)), (0, .ref o), (1, iv (q : Int)), (2, iv v)]) C dX3_nextOf_3 (by rw [hN]; decide) rfl ?_
  have LP : ∀ (fu : Nat) (k : Nat) (f : Int) (hf : f = nxN c (M 22) (M 23) q v k) (h1 : k ≤ c 6 0) (h2 : c 6 0 + 1 ≤ k + fu), N Φ 0 0 σ 5 [(4, iv (k : Int)), (3, iv f), (0, .ref o), (1, iv (q : Int)), (2, iv v)] [] := by
    intro fu
    induction fu with
    | zero =>
      intro k f hf h1 h2
      omega
    | succ fu ih =>
      intro k f hf h1 h2
      have b1 := nxN_rg c (M 22) (M 23) q v k
      refine n_iload C dX3_nextOf_5 rfl ?_
      refine n_aload_n C dX3_nextOf_7 rfl ?_
      refine r_getc C hM hc 6 (by decide) w4_134 rfl rfl dX3_nextOf_8 ?_
      refine n_icmp_ge C 62 dX3_nextOf_11 (by decide) (by unfold rg; omega) (by unfold rg; omega) (fun b11 => ?_) (fun b11 => ?_)
      · refine n_iload_n C dX3_nextOf_62 rfl ?_
        exact n_ireturn C Rr rfl ⟨by rw [hf]; unfold nxO; rw [show (c 6 0).toNat = k by omega], rfl⟩ (by omega) (by omega) dX3_nextOf_63
      · refine n_aload_n C dX3_nextOf_14 rfl ?_
        refine n_iload C dX3_nextOf_15 rfl ?_
        refine n_iload_n C dX3_nextOf_17 rfl ?_
        refine n_invV C (c_isOf hst I hM hc hw hBE (q := k) (by omega) hv) ⟨w5_104, w5_107, w1_5, ⟨by decide, by decide⟩, by show _ = some 2; decide +kernel, by decide⟩ w5_106 wp_37 hM.1 (show vwCl[6]? = some ("OperaMachinesModel", TX3, 27) from rfl) (by decide) (by omega) (by omega) (Nat.le_of_ble_eq_true rfl) rfl dX3_nextOf_18 (fun r σ' h => ?_) (fun _ _ h => h.elim)
        obtain ⟨x14, rfl, rfl, hx14⟩ := h
        refine n_if_eq C 54 dX3_nextOf_21 (by decide) (by unfold rg; omega) (fun b21 => ?_) (fun b21 => ?_)
        · refine n_iload_n C dX3_nextOf_54 rfl ?_
          refine n_istore_n (lv' := [(3, iv f), (4, iv (k : Int)), (0, .ref o), (1, iv (q : Int)), (2, iv v)]) C dX3_nextOf_55 (by rw [hN]; decide) rfl ?_
          refine n_iinc (lv' := [(4, iv ((k : Int) + 1)), (3, iv f), (0, .ref o), (1, iv (q : Int)), (2, iv v)]) C dX3_nextOf_56 rfl (by rw [hN]; decide) rfl ?_
          refine n_goto C 5 dX3_nextOf_59 (by decide) ?_
          refine n_keep (lv' := [(4, iv ((k : Int) + 1)), (3, iv f), (0, .ref o), (1, iv (q : Int)), (2, iv v)]) [4, 3, 0, 1, 2] rfl ?_
          exact ih (k + 1) _ (by unfold nxN; rw [if_neg (by omega)]; exact hf) (by omega) (by omega)
        · refine n_aload_n C dX3_nextOf_24 rfl ?_
          refine n_iload_n C dX3_nextOf_25 rfl ?_
          refine n_iload C dX3_nextOf_26 rfl ?_
          refine n_invV C (c_isAhead hst I hM hc hw hBE (q := q) (p := k) hq (by omega)) ⟨w5_112, w5_115, w1_5, ⟨by decide, by decide⟩, by show _ = some 2; decide +kernel, by decide⟩ w5_114 wp_39 hM.1 (show vwCl[6]? = some ("OperaMachinesModel", TX3, 27) from rfl) (by decide) (by omega) (by omega) (Nat.le_of_ble_eq_true rfl) rfl dX3_nextOf_28 (fun r σ' h => ?_) (fun _ _ h => h.elim)
          obtain ⟨x24, rfl, rfl, hx24⟩ := h
          refine n_if_eq C 54 dX3_nextOf_31 (by decide) (by unfold rg; omega) (fun b31 => ?_) (fun b31 => ?_)
          · refine n_iload_n C dX3_nextOf_54 rfl ?_
            refine n_istore_n (lv' := [(3, iv f), (4, iv (k : Int)), (0, .ref o), (1, iv (q : Int)), (2, iv v)]) C dX3_nextOf_55 (by rw [hN]; decide) rfl ?_
            refine n_iinc (lv' := [(4, iv ((k : Int) + 1)), (3, iv f), (0, .ref o), (1, iv (q : Int)), (2, iv v)]) C dX3_nextOf_56 rfl (by rw [hN]; decide) rfl ?_
            refine n_goto C 5 dX3_nextOf_59 (by decide) ?_
            refine n_keep (lv' := [(4, iv ((k : Int) + 1)), (3, iv f), (0, .ref o), (1, iv (q : Int)), (2, iv v)]) [4, 3, 0, 1, 2] rfl ?_
            exact ih (k + 1) _ (by unfold nxN; rw [if_neg (by omega)]; exact hf) (by omega) (by omega)
          · refine n_iload_n C dX3_nextOf_34 rfl ?_
            refine n_iconst (x := (-1)) C dX3_nextOf_35 ?_
            refine n_icmp_eq C 49 dX3_nextOf_36 (by decide) (by unfold rg; omega) (by unfold rg; omega) (fun b36 => ?_) (fun b36 => ?_)
            · refine n_iload C dX3_nextOf_49 rfl ?_
              refine n_goto C 55 dX3_nextOf_51 (by decide) ?_
              refine n_istore_n (lv' := [(3, iv (k : Int)), (4, iv (k : Int)), (0, .ref o), (1, iv (q : Int)), (2, iv v)]) C dX3_nextOf_55 (by rw [hN]; decide) rfl ?_
              refine n_iinc (lv' := [(4, iv ((k : Int) + 1)), (3, iv (k : Int)), (0, .ref o), (1, iv (q : Int)), (2, iv v)]) C dX3_nextOf_56 rfl (by rw [hN]; decide) rfl ?_
              refine n_goto C 5 dX3_nextOf_59 (by decide) ?_
              refine n_keep (lv' := [(4, iv ((k : Int) + 1)), (3, iv (k : Int)), (0, .ref o), (1, iv (q : Int)), (2, iv v)]) [4, 3, 0, 1, 2] rfl ?_
              exact ih (k + 1) _ (by unfold nxN; rw [if_pos ⟨by omega, by omega, Or.inl (by omega)⟩]) (by omega) (by omega)
            · obtain ⟨fn, hfn⟩ : ∃ fn : Nat, f = fn := ⟨f.toNat, by omega⟩
              have hft : f.toNat = fn := by omega
              rw [hfn]
              refine n_aload_n C dX3_nextOf_39 rfl ?_
              refine n_iload C dX3_nextOf_40 rfl ?_
              refine n_iload_n C dX3_nextOf_42 rfl ?_
              refine n_invV C (c_isAhead hst I hM hc hw hBE (q := k) (p := fn) (by omega) (by omega)) ⟨w5_112, w5_115, w1_5, ⟨by decide, by decide⟩, by show _ = some 2; decide +kernel, by decide⟩ w5_114 wp_39 hM.1 (show vwCl[6]? = some ("OperaMachinesModel", TX3, 27) from rfl) (by decide) (by omega) (by omega) (Nat.le_of_ble_eq_true rfl) rfl dX3_nextOf_43 (fun r σ' h => ?_) (fun _ _ h => h.elim)
              obtain ⟨x39, rfl, rfl, hx39⟩ := h
              refine n_if_eq C 54 dX3_nextOf_46 (by decide) (by unfold rg; omega) (fun b46 => ?_) (fun b46 => ?_)
              · refine n_iload_n C dX3_nextOf_54 rfl ?_
                refine n_istore_n (lv' := [(3, iv (fn : Int)), (4, iv (k : Int)), (0, .ref o), (1, iv (q : Int)), (2, iv v)]) C dX3_nextOf_55 (by rw [hN]; decide) rfl ?_
                refine n_iinc (lv' := [(4, iv ((k : Int) + 1)), (3, iv (fn : Int)), (0, .ref o), (1, iv (q : Int)), (2, iv v)]) C dX3_nextOf_56 rfl (by rw [hN]; decide) rfl ?_
                refine n_goto C 5 dX3_nextOf_59 (by decide) ?_
                refine n_keep (lv' := [(4, iv ((k : Int) + 1)), (3, iv (fn : Int)), (0, .ref o), (1, iv (q : Int)), (2, iv v)]) [4, 3, 0, 1, 2] rfl ?_
                exact ih (k + 1) _ (by unfold nxN; rw [← hf, hft, if_neg (by omega)]; exact hfn.symm) (by omega) (by omega)
              · refine n_iload C dX3_nextOf_49 rfl ?_
                refine n_goto C 55 dX3_nextOf_51 (by decide) ?_
                refine n_istore_n (lv' := [(3, iv (k : Int)), (4, iv (k : Int)), (0, .ref o), (1, iv (q : Int)), (2, iv v)]) C dX3_nextOf_55 (by rw [hN]; decide) rfl ?_
                refine n_iinc (lv' := [(4, iv ((k : Int) + 1)), (3, iv (k : Int)), (0, .ref o), (1, iv (q : Int)), (2, iv v)]) C dX3_nextOf_56 rfl (by rw [hN]; decide) rfl ?_
                refine n_goto C 5 dX3_nextOf_59 (by decide) ?_
                refine n_keep (lv' := [(4, iv ((k : Int) + 1)), (3, iv (k : Int)), (0, .ref o), (1, iv (q : Int)), (2, iv v)]) [4, 3, 0, 1, 2] rfl ?_
                exact ih (k + 1) _ (by unfold nxN; rw [← hf, hft, if_pos ⟨by omega, by omega, by omega⟩]) (by omega) (by omega)
  exact LP 25 0 _ rfl (by omega) (by omega)
set_option maxRecDepth 100000 in
set_option maxHeartbeats 4000000 in
theorem c_clashesOf {g : Gx} (hst : g.1.stackTraces = false) {o : Nat} {ar : Nat → Nat} {β : Wd} {M c : Tb} (I : RI o ar) {σ : Wd} (hM : MW g.2.1 o ar β M σ) (hc : cut M = c) (hw : WF c) (hBE : ∀ q : Nat, q < 24 → (0 ≤ M 22 q ∧ M 22 q ≤ 2400) ∧ (0 ≤ M 23 q ∧ M 23 q ≤ 2400)) {v : Int} (hv : -1 ≤ v ∧ v ≤ 5) : CT g yX3_clashesOf cX3_clashesOf 5 (some .int) 3 0 0 [.ref o, iv v] σ (fun r σ' => r = some (iv (clN c (M 22) (M 23) v (c 6 0).toNat)) ∧ σ' = σ) (fun _ _ => False) := by
  refine CT.of hst (by decide +kernel) (Nat.le_of_ble_eq_true rfl) (fun Φ C Rr hY hN => ?_)
  show N Φ 0 0 σ 0 [(0, .ref o), (1, iv v)] []
  obtain ⟨w0, w6, w12, w13, w14, w15, w16, wm, wq, ww⟩ := id hw
  refine n_iconst (x := 0) C dX3_clashesOf_0 ?_
  refine n_istore_n (lv' := [(2, iv 0), (0, .ref o), (1, iv v)]) C dX3_clashesOf_1 (by rw [hN]; decide) rfl ?_
  refine n_iconst (x := 0) C dX3_clashesOf_2 ?_
  refine n_istore_n (lv' := [(3, iv 0), (2, iv 0), (0, .ref o), (1, iv v)]) C dX3_clashesOf_3 (by rw [hN]; decide) rfl ?_
  have LP : ∀ (fu : Nat) (k : Nat) (f : Int) (hf : f = clN c (M 22) (M 23) v k) (h1 : k ≤ c 6 0) (h2 : c 6 0 + 1 ≤ k + fu), N Φ 0 0 σ 4 [(3, iv (k : Int)), (2, iv f), (0, .ref o), (1, iv v)] [] := by
    intro fu
    induction fu with
    | zero =>
      intro k f hf h1 h2
      omega
    | succ fu ih =>
      intro k f hf h1 h2
      have b1 := clN_rg c (M 22) (M 23) v k
      have b2 := nxN_rg c (M 22) (M 23) k v (c 6 0).toNat
      have b3 : nxO c (M 22) (M 23) k v = nxN c (M 22) (M 23) k v (c 6 0).toNat := rfl
      refine n_iload_n C dX3_clashesOf_4 rfl ?_
      refine n_aload_n C dX3_clashesOf_5 rfl ?_
      refine r_getc C hM hc 6 (by decide) w4_134 rfl rfl dX3_clashesOf_6 ?_
      refine n_icmp_ge C 74 dX3_clashesOf_9 (by decide) (by unfold rg; omega) (by unfold rg; omega) (fun b9 => ?_) (fun b9 => ?_)
      · refine n_iload_n C dX3_clashesOf_74 rfl ?_
        exact n_ireturn C Rr rfl ⟨by rw [hf, show (c 6 0).toNat = k by omega], rfl⟩ (by omega) (by omega) dX3_clashesOf_75
      · have e0 := hBE k (by omega)
        refine n_aload_n C dX3_clashesOf_12 rfl ?_
        refine n_iload_n C dX3_clashesOf_13 rfl ?_
        refine n_iload_n C dX3_clashesOf_14 rfl ?_
        refine n_invV C (c_isOf hst I hM hc hw hBE (q := k) (by omega) hv) ⟨w5_104, w5_107, w1_5, ⟨by decide, by decide⟩, by show _ = some 2; decide +kernel, by decide⟩ w5_106 wp_37 hM.1 (show vwCl[6]? = some ("OperaMachinesModel", TX3, 27) from rfl) (by decide) (by omega) (by omega) (Nat.le_of_ble_eq_true rfl) rfl dX3_clashesOf_15 (fun r σ' h => ?_) (fun _ _ h => h.elim)
        obtain ⟨x12, rfl, rfl, hx12⟩ := h
        refine n_if_eq C 30 dX3_clashesOf_18 (by decide) (by unfold rg; omega) (fun b18 => ?_) (fun b18 => ?_)
        · refine n_iconst (x := (-1)) C dX3_clashesOf_30 ?_
          refine n_istore (lv' := [(4, iv (-1)), (3, iv (k : Int)), (2, iv f), (0, .ref o), (1, iv v)]) C dX3_clashesOf_31 (by rw [hN]; decide) rfl ?_
          refine n_iload_n C dX3_clashesOf_33 rfl ?_
          refine n_iload C dX3_clashesOf_34 rfl ?_
          refine n_iconst (x := (-1)) C dX3_clashesOf_36 ?_
          refine n_icmp_eq C 65 dX3_clashesOf_37 (by decide) (by unfold rg; omega) (by unfold rg; omega) (fun b37 => ?_) (fun b37 => ?_)
          · refine n_iconst (x := 0) C dX3_clashesOf_65 ?_
            refine n_iadd C dX3_clashesOf_66 ?_
            refine n_istore_n (lv' := [(2, iv (f + 0)), (4, iv (-1)), (3, iv (k : Int)), (0, .ref o), (1, iv v)]) C dX3_clashesOf_67 (by rw [hN]; decide) rfl ?_
            refine n_iinc (lv' := [(3, iv ((k : Int) + 1)), (2, iv (f + 0)), (4, iv (-1)), (0, .ref o), (1, iv v)]) C dX3_clashesOf_68 rfl (by rw [hN]; decide) rfl ?_
            refine n_goto C 4 dX3_clashesOf_71 (by decide) ?_
            refine n_keep (lv' := [(3, iv ((k : Int) + 1)), (2, iv (f + 0)), (0, .ref o), (1, iv v)]) [3, 2, 0, 1] rfl ?_
            exact ih (k + 1) _ (by rw [hf]; (conv => rhs; unfold clN); rw [if_neg (by omega)]) (by omega) (by omega)
          · exfalso; omega
        · refine n_aload_n C dX3_clashesOf_21 rfl ?_
          refine n_iload_n C dX3_clashesOf_22 rfl ?_
          refine n_iload_n C dX3_clashesOf_23 rfl ?_
          refine n_invV C (c_nextOf hst I hM hc hw hBE (by omega) hv) ⟨w5_108, w5_111, w1_5, ⟨by decide, by decide⟩, by show _ = some 2; decide +kernel, by decide⟩ w5_110 wp_38 hM.1 (show vwCl[6]? = some ("OperaMachinesModel", TX3, 27) from rfl) (by decide) (by omega) (by omega) (Nat.le_of_ble_eq_true rfl) rfl dX3_clashesOf_24 (fun r σ' h => ?_) (fun _ _ h => h.elim)
          obtain ⟨rfl, rfl⟩ := h
          refine n_goto C 31 dX3_clashesOf_27 (by decide) ?_
          refine n_istore (lv' := [(4, iv (nxO c (M 22) (M 23) k v)), (3, iv (k : Int)), (2, iv f), (0, .ref o), (1, iv v)]) C dX3_clashesOf_31 (by rw [hN]; decide) rfl ?_
          refine n_iload_n C dX3_clashesOf_33 rfl ?_
          refine n_iload C dX3_clashesOf_34 rfl ?_
          refine n_iconst (x := (-1)) C dX3_clashesOf_36 ?_
          refine n_icmp_eq C 65 dX3_clashesOf_37 (by decide) (by unfold rg; omega) (by unfold rg; omega) (fun b37 => ?_) (fun b37 => ?_)
          · refine n_iconst (x := 0) C dX3_clashesOf_65 ?_
            refine n_iadd C dX3_clashesOf_66 ?_
            refine n_istore_n (lv' := [(2, iv (f + 0)), (4, iv (nxO c (M 22) (M 23) k v)), (3, iv (k : Int)), (0, .ref o), (1, iv v)]) C dX3_clashesOf_67 (by rw [hN]; decide) rfl ?_
            refine n_iinc (lv' := [(3, iv ((k : Int) + 1)), (2, iv (f + 0)), (4, iv (nxO c (M 22) (M 23) k v)), (0, .ref o), (1, iv v)]) C dX3_clashesOf_68 rfl (by rw [hN]; decide) rfl ?_
            refine n_goto C 4 dX3_clashesOf_71 (by decide) ?_
            refine n_keep (lv' := [(3, iv ((k : Int) + 1)), (2, iv (f + 0)), (0, .ref o), (1, iv v)]) [3, 2, 0, 1] rfl ?_
            exact ih (k + 1) _ (by rw [hf]; (conv => rhs; unfold clN); rw [if_neg (by omega)]) (by omega) (by omega)
          · obtain ⟨p, hp⟩ : ∃ p : Nat, nxO c (M 22) (M 23) k v = p := ⟨(nxO c (M 22) (M 23) k v).toNat, by omega⟩
            have hpt : (nxO c (M 22) (M 23) k v).toNat = p := by omega
            rw [hp]
            have e1 := hBE p (by omega)
            refine n_aload_n C dX3_clashesOf_40 rfl ?_
            refine r_get C hM 22 (by decide) w4_150 rfl rfl dX3_clashesOf_41 ?_
            refine n_iload C dX3_clashesOf_44 rfl ?_
            refine r_iald C hM 22 rfl rfl p rfl (show _ < 24 by omega) dX3_clashesOf_46 ?_
            refine n_aload_n C dX3_clashesOf_47 rfl ?_
            refine r_get C hM 23 (by decide) w4_151 rfl rfl dX3_clashesOf_48 ?_
            refine n_iload_n C dX3_clashesOf_51 rfl ?_
            refine r_iald C hM 23 rfl rfl k rfl (show _ < 24 by omega) dX3_clashesOf_52 ?_
            refine n_aload_n C dX3_clashesOf_53 rfl ?_
            refine r_getc C hM hc 15 (by decide) w4_143 rfl rfl dX3_clashesOf_54 ?_
            refine n_iadd C dX3_clashesOf_57 ?_
            refine n_icmp_ge C 65 dX3_clashesOf_58 (by decide) (by unfold rg; omega) (by unfold rg; omega) (fun b58 => ?_) (fun b58 => ?_)
            · refine n_iconst (x := 0) C dX3_clashesOf_65 ?_
              refine n_iadd C dX3_clashesOf_66 ?_
              refine n_istore_n (lv' := [(2, iv (f + 0)), (4, iv (p : Int)), (3, iv (k : Int)), (0, .ref o), (1, iv v)]) C dX3_clashesOf_67 (by rw [hN]; decide) rfl ?_
              refine n_iinc (lv' := [(3, iv ((k : Int) + 1)), (2, iv (f + 0)), (4, iv (p : Int)), (0, .ref o), (1, iv v)]) C dX3_clashesOf_68 rfl (by rw [hN]; decide) rfl ?_
              refine n_goto C 4 dX3_clashesOf_71 (by decide) ?_
              refine n_keep (lv' := [(3, iv ((k : Int) + 1)), (2, iv (f + 0)), (0, .ref o), (1, iv v)]) [3, 2, 0, 1] rfl ?_
              exact ih (k + 1) _ (by rw [hf]; (conv => rhs; unfold clN); rw [if_neg (by rw [hpt]; omega)]) (by omega) (by omega)
            · refine n_iconst (x := 1) C dX3_clashesOf_61 ?_
              refine n_goto C 66 dX3_clashesOf_62 (by decide) ?_
              refine n_iadd C dX3_clashesOf_66 ?_
              refine n_istore_n (lv' := [(2, iv (f + 1)), (4, iv (p : Int)), (3, iv (k : Int)), (0, .ref o), (1, iv v)]) C dX3_clashesOf_67 (by rw [hN]; decide) rfl ?_
              refine n_iinc (lv' := [(3, iv ((k : Int) + 1)), (2, iv (f + 1)), (4, iv (p : Int)), (0, .ref o), (1, iv v)]) C dX3_clashesOf_68 rfl (by rw [hN]; decide) rfl ?_
              refine n_goto C 4 dX3_clashesOf_71 (by decide) ?_
              refine n_keep (lv' := [(3, iv ((k : Int) + 1)), (2, iv (f + 1)), (0, .ref o), (1, iv v)]) [3, 2, 0, 1] rfl ?_
              exact ih (k + 1) _ (by rw [hf]; (conv => rhs; unfold clN); rw [if_pos ⟨by omega, by omega, by rw [hpt]; omega⟩]) (by omega) (by omega)
  exact LP 25 0 _ rfl (by omega) (by omega)
