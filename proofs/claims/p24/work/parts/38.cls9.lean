set_option maxRecDepth 100000 in
set_option maxHeartbeats 4000000 in
theorem k_highest {g : Gx} (hst : g.1.stackTraces = false) {A : ShT} {c D : Tb} {σ : Wd} {mo : Int} {row m cap : Nat} {f : Nat → Option Nat} (hw : WF c) (hX : σ (shA A 0) = some (.inr (5, ctO A c))) (hL : ALst g σ (shA A 2) mo row m cap f) (hm6 : c 6 0 = m) (hf : ∀ q : Nat, (q : Int) < c 6 0 → f q = some (shA A (30 + q))) (hQ : ∀ q : Nat, (q : Int) < c 6 0 → σ (shA A (30 + q)) = some (.inr (3, ctC A c D q))) (hj : ∀ i j : Nat, (i : Int) < c 0 0 → (j : Int) < c 0 0 → shA A (10 + i) = shA A (10 + j) → i = j) {i b : Nat} (hi : (i : Int) < c 0 0) (hb : b < 30)  : CT g yX2_highestCue cX2_highestCue 5 (some (.object "OperaMachines$Cue")) 3 0 0 [.ref (shA A 0), .ref (shA A (10 + i)), iv (b : Int)] σ (fun r σ' => r = some (va_rf (rfQ A (eff c i b))) ∧ σ' = σ) (fun _ _ => False) := by
  refine CT.of hst (by decide +kernel) (Nat.le_of_ble_eq_true rfl) (fun Φ C Rr hY hN => ?_)
  show N Φ 0 0 σ 0 [(0, .ref (shA A 0)), (1, .ref (shA A (10 + i))), (2, iv (b : Int))] []
  obtain ⟨w0, w6, w12, w13, w14, w15, w16, wm, wq, ww⟩ := id hw
  refine n_aload_n C dX2_highestCue_0 rfl ?_
  refine n_get C hX vC5 vI5 1 (by decide) t1_64 rfl rfl dX2_highestCue_1 ?_
  refine n_invV C (c_size hst hL) ⟨t1_188, t1_191, t1_4, ⟨by decide, by decide⟩, by show _ = some 0; decide +kernel, by decide⟩ t1_189 t1_190 hL.1 cJ (by decide) (by omega) (by omega) (Nat.le_of_ble_eq_true rfl) rfl dX2_highestCue_4 (fun r σ' h' => ?_) (fun _ _ h => h.elim)
  obtain ⟨rfl, hσ⟩ := h'
  rw [hσ]
  refine n_iconst (x := 1) C dX2_highestCue_7 ?_
  refine n_isub C dX2_highestCue_8 ?_
  refine n_istore_n (lv' := [(3, iv ((m : Int) - 1)), (0, .ref (shA A 0)), (1, .ref (shA A (10 + i))), (2, iv (b : Int))]) C dX2_highestCue_9 (by rw [hN]; decide) rfl ?_
  have LP : ∀ (fu : Nat) (k : Nat) (hk : effN c i b (c 6 0).toNat = effN c i b k) (h1 : k ≤ m) (h2 : k < fu), N Φ 0 0 σ 10 [(3, iv ((k : Int) - 1)), (0, .ref (shA A 0)), (1, .ref (shA A (10 + i))), (2, iv (b : Int))] [] := by
    intro fu
    induction fu with
    | zero =>
      intro k hk h1 h2
      omega
    | succ fu ih =>
      intro k hk h1 h2
      refine n_iload_n C dX2_highestCue_10 rfl ?_
      refine n_if_lt C 62 dX2_highestCue_11 (by decide) (by unfold rg; omega) (fun b11 => ?_) (fun b11 => ?_)
      · refine n_null C dX2_highestCue_62 ?_
        have he0 : eff c i b = -1 := by unfold eff; rw [hk, show k = 0 by omega]; rfl
        exact n_areturn C Rr (Or.inl ⟨_, rfl⟩) (Or.inl rfl) ⟨by rw [he0, rfQ_m]; rfl, rfl⟩ (by omega) (by omega) dX2_highestCue_63
      · obtain ⟨p, rfl⟩ : ∃ p : Nat, k = p + 1 := ⟨k - 1, by omega⟩
        have e1 : ((p + 1 : Nat) : Int) - 1 = (p : Int) := by omega
        rw [e1]
        have wp := wq p
        have wp8 := (wq p).2.2.2.1 (by omega)
        obtain ⟨u, hu⟩ : ∃ u : Nat, c 8 p = u := ⟨(c 8 p).toNat, by omega⟩
        have hu2 : (c 8 p).toNat = u := by omega
        refine n_aload_n C dX2_highestCue_14 rfl ?_
        refine n_get C hX vC5 vI5 1 (by decide) t1_64 rfl rfl dX2_highestCue_15 ?_
        refine n_iload_n C dX2_highestCue_18 rfl ?_
        refine n_invV C (c_get hst hL (i := p) (by omega) (hf p (by omega))) ⟨t2_87, t2_90, t1_4, ⟨by decide, by decide⟩, by show _ = some 1; decide +kernel, by decide⟩ t2_88 t2_89 hL.1 cJ (by decide) (by omega) (by omega) (Nat.le_of_ble_eq_true rfl) rfl dX2_highestCue_19 (fun r σ' h' => ?_) (fun _ _ h => h.elim)
        obtain ⟨rfl, hσ⟩ := h'
        rw [hσ]
        refine n_cast C (hQ p (by omega)) vC3 t2_113 dX2_highestCue_22 ?_
        refine n_astore (lv' := [(4, .ref (shA A (30 + p))), (3, iv (p : Int)), (0, .ref (shA A 0)), (1, .ref (shA A (10 + i))), (2, iv (b : Int))]) C dX2_highestCue_25 (by rw [hN]; decide) rfl ?_
        refine n_aload C dX2_highestCue_27 rfl ?_
        refine n_get C (hQ p (by omega)) vC3 vI3 4 (by decide) t2_127 rfl rfl dX2_highestCue_29 ?_
        refine n_if_ne C 56 dX2_highestCue_32 (by decide) (by unfold rg; omega) (fun b32 => ?_) (fun b32 => ?_)
        · refine n_iinc (lv' := [(3, iv ((p : Int) + (-1))), (4, .ref (shA A (30 + p))), (0, .ref (shA A 0)), (1, .ref (shA A (10 + i))), (2, iv (b : Int))]) C dX2_highestCue_56 rfl (by rw [hN]; decide) rfl ?_
          refine n_goto C 10 dX2_highestCue_59 (by decide) ?_
          refine n_keep (lv' := [(3, iv ((p : Int) + (-1))), (0, .ref (shA A 0)), (1, .ref (shA A (10 + i))), (2, iv (b : Int))]) [3, 0, 1, 2] rfl ?_
          have e2 : (p : Int) + -1 = (p : Int) - 1 := by omega
          rw [e2]
          exact ih p (by rw [hk, show effN c i b (p + 1) = if c 11 p = 0 ∧ c 8 p = i ∧ c 7 p = b then (p : Int) else effN c i b p from rfl, if_neg (by omega)]) (by omega) (by omega)
        · refine n_aload C dX2_highestCue_35 rfl ?_
          refine n_get C (hQ p (by omega)) vC3 vI3 0 (by decide) t2_120 rfl rfl dX2_highestCue_37 ?_
          refine n_aload_n C dX2_highestCue_40 rfl ?_
          rw [hu2]
          refine n_acmp_ne C 56 dX2_highestCue_41 (by decide) (fun b41 => ?_) (fun b41 => ?_)
          · have hui : u ≠ i := fun z => b41 (by rw [z])
            refine n_iinc (lv' := [(3, iv ((p : Int) + (-1))), (4, .ref (shA A (30 + p))), (0, .ref (shA A 0)), (1, .ref (shA A (10 + i))), (2, iv (b : Int))]) C dX2_highestCue_56 rfl (by rw [hN]; decide) rfl ?_
            refine n_goto C 10 dX2_highestCue_59 (by decide) ?_
            refine n_keep (lv' := [(3, iv ((p : Int) + (-1))), (0, .ref (shA A 0)), (1, .ref (shA A (10 + i))), (2, iv (b : Int))]) [3, 0, 1, 2] rfl ?_
            have e2 : (p : Int) + -1 = (p : Int) - 1 := by omega
            rw [e2]
            exact ih p (by rw [hk, show effN c i b (p + 1) = if c 11 p = 0 ∧ c 8 p = i ∧ c 7 p = b then (p : Int) else effN c i b p from rfl, if_neg (by omega)]) (by omega) (by omega)
          · have hui := hj u i (by omega) hi b41
            refine n_aload C dX2_highestCue_44 rfl ?_
            refine n_get C (hQ p (by omega)) vC3 vI3 1 (by decide) t2_122 rfl rfl dX2_highestCue_46 ?_
            refine n_iload_n C dX2_highestCue_49 rfl ?_
            refine n_icmp_ne C 56 dX2_highestCue_50 (by decide) (by unfold rg; omega) (by unfold rg; omega) (fun b50 => ?_) (fun b50 => ?_)
            · refine n_iinc (lv' := [(3, iv ((p : Int) + (-1))), (4, .ref (shA A (30 + p))), (0, .ref (shA A 0)), (1, .ref (shA A (10 + i))), (2, iv (b : Int))]) C dX2_highestCue_56 rfl (by rw [hN]; decide) rfl ?_
              refine n_goto C 10 dX2_highestCue_59 (by decide) ?_
              refine n_keep (lv' := [(3, iv ((p : Int) + (-1))), (0, .ref (shA A 0)), (1, .ref (shA A (10 + i))), (2, iv (b : Int))]) [3, 0, 1, 2] rfl ?_
              have e2 : (p : Int) + -1 = (p : Int) - 1 := by omega
              rw [e2]
              exact ih p (by rw [hk, show effN c i b (p + 1) = if c 11 p = 0 ∧ c 8 p = i ∧ c 7 p = b then (p : Int) else effN c i b p from rfl, if_neg (by omega)]) (by omega) (by omega)
            · refine n_aload C dX2_highestCue_53 rfl ?_
              have he0 : eff c i b = p := by unfold eff; rw [hk, show effN c i b (p + 1) = if c 11 p = 0 ∧ c 8 p = i ∧ c 7 p = b then (p : Int) else effN c i b p from rfl, if_pos ⟨by omega, by omega, by omega⟩]
              exact n_areturn C Rr (Or.inl ⟨_, rfl⟩) (Or.inr ⟨_, rfl⟩) ⟨by rw [he0, rfQ_n]; rfl, rfl⟩ (by omega) (by omega) dX2_highestCue_55
  exact LP 25 m (by rw [show (c 6 0).toNat = m by omega]) (Nat.le_refl m) (by omega)
set_option maxRecDepth 100000 in
set_option maxHeartbeats 4000000 in
theorem p_strikeOut {g : Gx} (hst : g.1.stackTraces = false) {a : Int} (ha : rg a) {A : ShT} {β : Wd} {c D : Tb} {σ : Wd} (hM : CB g.2.1 A β c D σ) (hw : WF c) (hI : CI g c A)  : CT g yX2_strikeOut cX2_strikeOut 3 (some .int) 4 1 6 [.ref (shA A 0), iv a] σ (fun r σ' => ∃ (x : Int) (e : Nat → Int → Int), r = some (iv x) ∧ CB g.2.1 (shS A e) β (nxOut c a) D σ' ∧ CI g (nxOut c a) (shS A e) ∧ cdIs c a = 0 ∧ x = c 7 a.toNat) (fun E σ' => σ' = σ ∧ ((E = "java/lang/IndexOutOfBoundsException" ∧ cdIs c a = 1))) := by
  refine CT.of hst (by decide +kernel) (Nat.le_of_ble_eq_true rfl) (fun Φ C Rr hY hN => ?_)
  show N Φ 0 0 σ 0 [(0, .ref (shA A 0)), (1, iv a)] []
  unfold rg at ha
  obtain ⟨w0, w6, w12, w13, w14, w15, w16, wm, wq, ww⟩ := id hw
  obtain ⟨n0, hn0⟩ : ∃ n : Nat, c 0 0 = n := ⟨(c 0 0).toNat, by omega⟩
  obtain ⟨n6, hn6⟩ : ∃ n : Nat, c 6 0 = n := ⟨(c 6 0).toNat, by omega⟩
  have hl0 : nL3 c 0 = n0 := hn0
  have hl1 : nL3 c 1 = n6 := hn6
  have hl2 : nL3 c 2 = n6 := hn6
  refine n_aload_n C dX2_strikeOut_0 rfl ?_
  refine n_iload_n C dX2_strikeOut_1 rfl ?_
  refine n_invV C (k_cueN hst (by unfold rg; omega) hM hw hI) ⟨t3_161, t3_164, t1_1, ⟨by decide, by decide⟩, by show _ = some 1; decide +kernel, by decide⟩ t3_163 tp_10 hM.1.1 vC5 (by decide) (by omega) (by omega) (Nat.le_of_ble_eq_true rfl) rfl dX2_strikeOut_2 (fun r σ' h' => ?_) (fun E σ' h' => by
      obtain ⟨rfl, rfl, hz⟩ := h'
      exact n_out C Rr ⟨rfl, ⟨rfl, by unfold cdIs; rw [if_neg hz]⟩⟩ (by omega) (by omega))
  obtain ⟨q, rfl, rfl, hi, hi2, hσ⟩ := h'
  rw [hσ]
  have hcd : cdIs c (q : Int) = 0 := by unfold cdIs; rw [if_pos ⟨by omega, by omega, by rw [Int.toNat_natCast]; exact hi2⟩]
  have wp := wq q
  have wp8 := (wq q).2.2.2.1 hi
  obtain ⟨i, hu⟩ : ∃ i : Nat, c 8 q = i := ⟨(c 8 q).toNat, by omega⟩
  have hu2 : (c 8 q).toNat = i := by omega
  obtain ⟨b, hb⟩ : ∃ b : Nat, c 7 q = b := ⟨(c 7 q).toNat, by omega⟩
  have hQq := hM.qi hi
  unfold ctC at hQq
  rw [hu2, hb] at hQq
  refine n_astore_n (lv' := [(2, .ref (shA A (30 + q))), (0, .ref (shA A 0)), (1, iv (q : Int))]) C dX2_strikeOut_5 (by rw [hN]; decide) rfl ?_
  refine n_aload_n C dX2_strikeOut_6 rfl ?_
  refine n_iconst (x := 1) C dX2_strikeOut_7 ?_
  refine n_put C hQq vC3 vI3 tyX0 tyX0_ok nmX0 4 (by decide) t2_127 rfl rfl (nar_bv (by omega)) rfl (show (4 : Nat) < 6 by decide) dX2_strikeOut_8 ?_
  refine wab (e := (.inr (3, [.ref (shA A (10 + i)), iv (b : Int), iv (c 9 q), iv (c 10 q), iv 1, iv (D 2 q)]))) (fun σ0 H0 O0 => ?_)
  have hMo : CB g.2.1 A β (tu c 11 q 1) D σ0 := CB.out hw hI hM hi (by
    unfold ctC
    rw [tu_s, tu_k (show (8 : Nat) ≠ 11 by decide), tu_k (show (7 : Nat) ≠ 11 by decide), tu_k (show (9 : Nat) ≠ 11 by decide), tu_k (show (10 : Nat) ≠ 11 by decide), hu2, hb]
    exact H0) O0
  have hwo := WF_out hw hi
  have hLo : ALst g σ0 (shA A 2) (shM A 1) (shA A 7) n6 (shC A 1) (shF A 1) := by
    have hL1 := hM.1.lst hw hI (j := 1) (by decide) hl1
    refine ⟨(O0 _ (hI.ne (lv0 (by omega)) (lvQ hi) (by omega))).trans hL1.1, hL1.2.1.imp id (fun z => ⟨z.1, (O0 _ (hI.ne (Or.inr (Or.inl ⟨by omega, by omega, z.1⟩)) (lvQ hi) (by omega))).trans z.2⟩), hL1.2.2⟩
  refine n_aload_n C dX2_strikeOut_11 rfl ?_
  refine n_get C H0 vC3 vI3 0 (by decide) t2_120 rfl rfl dX2_strikeOut_12 ?_
  refine n_aload_n C dX2_strikeOut_15 rfl ?_
  refine n_get C H0 vC3 vI3 1 (by decide) t2_122 rfl rfl dX2_strikeOut_16 ?_
  refine n_aload_n C dX2_strikeOut_19 rfl ?_
  refine n_aload_n C dX2_strikeOut_20 rfl ?_
  refine n_get C H0 vC3 vI3 0 (by decide) t2_120 rfl rfl dX2_strikeOut_21 ?_
  refine n_aload_n C dX2_strikeOut_24 rfl ?_
  refine n_get C H0 vC3 vI3 1 (by decide) t2_122 rfl rfl dX2_strikeOut_25 ?_
  refine n_invV C (k_highest hst (i := i) (b := b) hwo hMo.1.1 hLo hn6 hI.2.2.1 hMo.1.2.2.2.2.2.2 (fun i j h1 h2 hz => by have := hI.1 _ _ (lvM hw h1).1 (lvM hw h2).1 hz; omega) (by show (i : Int) < c 0 0; omega) (by omega)) ⟨t3_166, t3_169, t1_1, ⟨by decide, by decide⟩, by show _ = some 2; decide +kernel, by decide⟩ t3_168 tp_11 hMo.1.1 vC5 (by decide) (by omega) (by omega) (Nat.le_of_ble_eq_true rfl) rfl dX2_strikeOut_28 (fun r σ' h' => ?_) (fun _ _ h => h.elim)
  obtain ⟨rfl, hσ2⟩ := h'
  rw [hσ2]
  refine n_invV C (c_setCue hst (hMo.mi (i := i) (by show (i : Int) < c 0 0; omega)) (tk_rg hwo i) (hMo.ro (i := i) (by show (i : Int) < c 0 0; omega)) (b := b) (by omega) (rr := rfQ A (eff (tu c 11 q 1) i b)) (fun y hy => by
    rcases eff_q hwo i b with z1 | ⟨p, z1, z2⟩
    · rw [z1] at hy; cases hy
    · rw [z1, rfQ_n] at hy; cases hy; exact ⟨_, hMo.qi z2⟩)) ⟨t3_145, t3_148, t1_10, ⟨by decide, by decide⟩, by show _ = some 2; decide +kernel, by decide⟩ t3_146 t3_147 (hMo.mi (i := i) (by show (i : Int) < c 0 0; omega)) vC4 (by decide) (by omega) (by omega) (Nat.le_of_ble_eq_true rfl) rfl dX2_strikeOut_31 (fun r σ1 h' => ?_) (fun _ _ h => h.elim)
  obtain ⟨rfl, p1, p2⟩ := h'
  have hM1 := CB.rows (e := fun j z => if j = i ∧ z = b then eff (tu c 11 q 1) i b else shE A j z) hwo hI.1 hMo (i := i) (by show (i : Int) < c 0 0; omega) (by
    rw [p1]
    congr 2
    funext z
    show va_up (fun b => rfQ A (shE A i b)) b (rfQ A (eff (tu c 11 q 1) i b)) z = rfQ A (if i = i ∧ (z : Int) = b then eff (tu c 11 q 1) i b else shE A i z)
    unfold va_up
    by_cases y : z = b
    · rw [if_pos y, if_pos ⟨rfl, by omega⟩]
    · rw [if_neg y, if_neg (fun x => y (by omega))]) (fun j hj => by
    funext z
    exact if_neg (fun x => hj x.1)) p2
  have hI1 : CI g (tu c 11 q 1) (shS A (fun j z => if j = i ∧ z = b then eff (tu c 11 q 1) i b else shE A j z)) := by
    obtain ⟨i1, i2, i3, i4, i5, i6, i7, i8⟩ := hI
    refine ⟨i1, i2, i3, i4, i5, i6, i7, fun j z hj => ?_⟩
    show (if j = i ∧ (z : Int) = b then eff (tu c 11 q 1) i b else shE A j z) = eff (tu c 11 q 1) j z
    by_cases y : j = i ∧ (z : Int) = b
    · rw [if_pos y, y.1, y.2]
    · rw [if_neg y, i8 j z hj]
      unfold eff
      exact (eff_out (fun x => y ⟨by omega, by omega⟩) _).symm
  refine n_aload_n C dX2_strikeOut_34 rfl ?_
  refine n_get C (hM1.1.2.2.2.2.2.2 q hi) vC3 vI3 1 (by decide) t2_122 rfl rfl dX2_strikeOut_35 ?_
  exact n_ireturn C Rr rfl ⟨_, _, rfl, by unfold nxOut; rw [Int.toNat_natCast]; exact hM1, by unfold nxOut; rw [Int.toNat_natCast]; exact hI1, hcd, by rw [Int.toNat_natCast]; rfl⟩ (by omega) (by omega) dX2_strikeOut_38
