theorem hfsJ : ∀ j, j < 3 → defaultValue (tyJx4a65c j) = vp_V [iv 0, .null, iv 0] j := by
  intro j hj
  match j, hj with
  | 0, _ => rfl
  | 1, _ => rfl
  | 2, _ => rfl
  | j + 3, hj => exfalso; omega
set_option maxRecDepth 100000 in
set_option maxHeartbeats 4000000 in
theorem c_omInit {g : Gx} (hst : g.1.stackTraces = false) {x : Nat} {σ0 σ : Wd} (hσ0 : σ = σ0) (hy : σ x = some (.inr (5, [.null, .null, .null, .null, .null, iv 0, iv 0, iv 0, iv 0, iv 0])))  : CT g yX2_init cX2_init 2 none 4 5 21 [.ref x] σ (fun r σ' => r = none ∧ ∃ A : ShT, shA A 0 = x ∧ CW g.2.1 A (c0T 6) (fun _ _ => 0) σ' ∧ CI g (c0T 6) A ∧ (∀ a, ownQ A (c0T 6) a → a = x ∨ σ0 a = none) ∧ ∀ a, ¬ ownQ A (c0T 6) a → σ' a = σ0 a) (fun _ _ => False) := by
  refine CT.of hst (by decide +kernel) (Nat.le_of_ble_eq_true rfl) (fun Φ C Rr hY hN => ?_)
  show N Φ 0 0 σ 0 [(0, .ref x)] []
  have h : FC σ0 x [(x, .inr (5, [.null, .null, .null, .null, .null, iv 0, iv 0, iv 0, iv 0, iv 0]))] σ := by
    rw [hσ0] at hy ⊢
    exact FC.one hy
  refine n_aload_n C dX2_init_0 rfl ?_
  refine n_objInit C t1_34 t1_35 t1_36 (Nat.le_of_ble_eq_true rfl) dX2_init_1 ?_
  refine n_aload_n C dX2_init_4 rfl ?_
  refine n_new C [iv 0, .null, iv 0] cJ inJ tyJx4a65c tyJx4a65c_ok t1_37 t1_38 t1_4 hfsJ (by omega) (by omega) dX2_init_5 (fun l0 hl0 => ?_)
  refine wab (fun σ' H1 O1 => ?_)
  have h : FC σ0 x [(x, .inr (5, [.null, .null, .null, .null, .null, iv 0, iv 0, iv 0, iv 0, iv 0])), (l0, .inr (2, [iv 0, .null, iv 0]))] σ' := h.push hl0 H1 O1 rfl
  refine n_dup C dX2_init_8 rfl ?_
  refine n_invI C (c_alInit hst (h.at 1 rfl)) ⟨t1_39, t1_41, t1_4, ⟨by decide, by decide⟩, by show _ = some 0; decide +kernel, by decide⟩ t1_40 (by decide) (by decide) (by omega) (by omega) (Nat.le_of_ble_eq_true rfl) rfl dX2_init_9 (fun r σ' h' => ?_) (fun _ _ h => h.elim)
  obtain ⟨rfl, H2, O2⟩ := h'
  have h : FC σ0 x [(x, .inr (5, [.null, .null, .null, .null, .null, iv 0, iv 0, iv 0, iv 0, iv 0])), (l0, .inr (2, [iv 0, .ref g.2.2.1, iv 0]))] σ' := h.set 1 rfl H2.1 O2 rfl
  refine n_putF C hY (h.at 0 rfl) vC5 vI5 tyX2 tyX2_ok nmX2 0 (by decide) t1_63 rfl rfl rfl rfl rfl (show (0 : Nat) < 10 by decide) dX2_init_12 ?_
  refine wab (e := .inr (5, [.ref l0, .null, .null, .null, .null, iv 0, iv 0, iv 0, iv 0, iv 0])) (fun σ' H1 O1 => ?_)
  have h : FC σ0 x [(x, .inr (5, [.ref l0, .null, .null, .null, .null, iv 0, iv 0, iv 0, iv 0, iv 0])), (l0, .inr (2, [iv 0, .ref g.2.2.1, iv 0]))] σ' := h.set 0 rfl H1 O1 rfl
  refine n_aload_n C dX2_init_15 rfl ?_
  refine n_new C [iv 0, .null, iv 0] cJ inJ tyJx4a65c tyJx4a65c_ok t1_37 t1_38 t1_4 hfsJ (by omega) (by omega) dX2_init_16 (fun l1 hl1 => ?_)
  refine wab (fun σ' H1 O1 => ?_)
  have h : FC σ0 x [(x, .inr (5, [.ref l0, .null, .null, .null, .null, iv 0, iv 0, iv 0, iv 0, iv 0])), (l0, .inr (2, [iv 0, .ref g.2.2.1, iv 0])), (l1, .inr (2, [iv 0, .null, iv 0]))] σ' := h.push hl1 H1 O1 rfl
  refine n_dup C dX2_init_19 rfl ?_
  refine n_invI C (c_alInit hst (h.at 2 rfl)) ⟨t1_39, t1_41, t1_4, ⟨by decide, by decide⟩, by show _ = some 0; decide +kernel, by decide⟩ t1_40 (by decide) (by decide) (by omega) (by omega) (Nat.le_of_ble_eq_true rfl) rfl dX2_init_20 (fun r σ' h' => ?_) (fun _ _ h => h.elim)
  obtain ⟨rfl, H2, O2⟩ := h'
  have h : FC σ0 x [(x, .inr (5, [.ref l0, .null, .null, .null, .null, iv 0, iv 0, iv 0, iv 0, iv 0])), (l0, .inr (2, [iv 0, .ref g.2.2.1, iv 0])), (l1, .inr (2, [iv 0, .ref g.2.2.1, iv 0]))] σ' := h.set 2 rfl H2.1 O2 rfl
  refine n_putF C hY (h.at 0 rfl) vC5 vI5 tyX2 tyX2_ok nmX2 1 (by decide) t1_64 rfl rfl rfl rfl rfl (show (1 : Nat) < 10 by decide) dX2_init_23 ?_
  refine wab (e := .inr (5, [.ref l0, .ref l1, .null, .null, .null, iv 0, iv 0, iv 0, iv 0, iv 0])) (fun σ' H1 O1 => ?_)
  have h : FC σ0 x [(x, .inr (5, [.ref l0, .ref l1, .null, .null, .null, iv 0, iv 0, iv 0, iv 0, iv 0])), (l0, .inr (2, [iv 0, .ref g.2.2.1, iv 0])), (l1, .inr (2, [iv 0, .ref g.2.2.1, iv 0]))] σ' := h.set 0 rfl H1 O1 rfl
  refine n_aload_n C dX2_init_26 rfl ?_
  refine n_new C [iv 0, .null, iv 0] cJ inJ tyJx4a65c tyJx4a65c_ok t1_37 t1_38 t1_4 hfsJ (by omega) (by omega) dX2_init_27 (fun l2 hl2 => ?_)
  refine wab (fun σ' H1 O1 => ?_)
  have h : FC σ0 x [(x, .inr (5, [.ref l0, .ref l1, .null, .null, .null, iv 0, iv 0, iv 0, iv 0, iv 0])), (l0, .inr (2, [iv 0, .ref g.2.2.1, iv 0])), (l1, .inr (2, [iv 0, .ref g.2.2.1, iv 0])), (l2, .inr (2, [iv 0, .null, iv 0]))] σ' := h.push hl2 H1 O1 rfl
  refine n_dup C dX2_init_30 rfl ?_
  refine n_invI C (c_alInit hst (h.at 3 rfl)) ⟨t1_39, t1_41, t1_4, ⟨by decide, by decide⟩, by show _ = some 0; decide +kernel, by decide⟩ t1_40 (by decide) (by decide) (by omega) (by omega) (Nat.le_of_ble_eq_true rfl) rfl dX2_init_31 (fun r σ' h' => ?_) (fun _ _ h => h.elim)
  obtain ⟨rfl, H2, O2⟩ := h'
  have h : FC σ0 x [(x, .inr (5, [.ref l0, .ref l1, .null, .null, .null, iv 0, iv 0, iv 0, iv 0, iv 0])), (l0, .inr (2, [iv 0, .ref g.2.2.1, iv 0])), (l1, .inr (2, [iv 0, .ref g.2.2.1, iv 0])), (l2, .inr (2, [iv 0, .ref g.2.2.1, iv 0]))] σ' := h.set 3 rfl H2.1 O2 rfl
  refine n_putF C hY (h.at 0 rfl) vC5 vI5 tyX2 tyX2_ok nmX2 2 (by decide) t1_65 rfl rfl rfl rfl rfl (show (2 : Nat) < 10 by decide) dX2_init_34 ?_
  refine wab (e := .inr (5, [.ref l0, .ref l1, .ref l2, .null, .null, iv 0, iv 0, iv 0, iv 0, iv 0])) (fun σ' H1 O1 => ?_)
  have h : FC σ0 x [(x, .inr (5, [.ref l0, .ref l1, .ref l2, .null, .null, iv 0, iv 0, iv 0, iv 0, iv 0])), (l0, .inr (2, [iv 0, .ref g.2.2.1, iv 0])), (l1, .inr (2, [iv 0, .ref g.2.2.1, iv 0])), (l2, .inr (2, [iv 0, .ref g.2.2.1, iv 0]))] σ' := h.set 0 rfl H1 O1 rfl
  refine n_aload_n C dX2_init_37 rfl ?_
  refine n_bipush (x := 6) C dX2_init_38 (by decide) ?_
  refine n_newZ C (M := 6) (by omega) t1_94 (by omega) (by omega) dX2_init_40 (fun z hz => ?_)
  refine wab (fun σ' H1 O1 => ?_)
  have h : FC σ0 x [(x, .inr (5, [.ref l0, .ref l1, .ref l2, .null, .null, iv 0, iv 0, iv 0, iv 0, iv 0])), (l0, .inr (2, [iv 0, .ref g.2.2.1, iv 0])), (l1, .inr (2, [iv 0, .ref g.2.2.1, iv 0])), (l2, .inr (2, [iv 0, .ref g.2.2.1, iv 0])), (z, eZ g.2.1 6 (fun _ => 0))] σ' := h.push hz H1 O1 rfl
  refine n_putF C hY (h.at 0 rfl) vC5 vI5 tyX2 tyX2_ok nmX2 3 (by decide) t1_66 rfl rfl rfl rfl rfl (show (3 : Nat) < 10 by decide) dX2_init_42 ?_
  refine wab (e := .inr (5, [.ref l0, .ref l1, .ref l2, .ref z, .null, iv 0, iv 0, iv 0, iv 0, iv 0])) (fun σ' H1 O1 => ?_)
  have h : FC σ0 x [(x, .inr (5, [.ref l0, .ref l1, .ref l2, .ref z, .null, iv 0, iv 0, iv 0, iv 0, iv 0])), (l0, .inr (2, [iv 0, .ref g.2.2.1, iv 0])), (l1, .inr (2, [iv 0, .ref g.2.2.1, iv 0])), (l2, .inr (2, [iv 0, .ref g.2.2.1, iv 0])), (z, eZ g.2.1 6 (fun _ => 0))] σ' := h.set 0 rfl H1 O1 rfl
  refine n_aload_n C dX2_init_45 rfl ?_
  refine n_bipush (x := 6) C dX2_init_46 (by decide) ?_
  refine n_newI C (M := 6) (by omega) t1_95 (by omega) (by omega) dX2_init_48 (fun s hs => ?_)
  refine wab (fun σ' H1 O1 => ?_)
  have h : FC σ0 x [(x, .inr (5, [.ref l0, .ref l1, .ref l2, .ref z, .null, iv 0, iv 0, iv 0, iv 0, iv 0])), (l0, .inr (2, [iv 0, .ref g.2.2.1, iv 0])), (l1, .inr (2, [iv 0, .ref g.2.2.1, iv 0])), (l2, .inr (2, [iv 0, .ref g.2.2.1, iv 0])), (z, eZ g.2.1 6 (fun _ => 0)), (s, eI g.2.1 6 (fun _ => 0))] σ' := h.push hs H1 O1 rfl
  refine n_putF C hY (h.at 0 rfl) vC5 vI5 tyX2 tyX2_ok nmX2 4 (by decide) t1_67 rfl rfl rfl rfl rfl (show (4 : Nat) < 10 by decide) dX2_init_50 ?_
  refine wab (e := .inr (5, [.ref l0, .ref l1, .ref l2, .ref z, .ref s, iv 0, iv 0, iv 0, iv 0, iv 0])) (fun σ' H1 O1 => ?_)
  have h : FC σ0 x [(x, .inr (5, [.ref l0, .ref l1, .ref l2, .ref z, .ref s, iv 0, iv 0, iv 0, iv 0, iv 0])), (l0, .inr (2, [iv 0, .ref g.2.2.1, iv 0])), (l1, .inr (2, [iv 0, .ref g.2.2.1, iv 0])), (l2, .inr (2, [iv 0, .ref g.2.2.1, iv 0])), (z, eZ g.2.1 6 (fun _ => 0)), (s, eI g.2.1 6 (fun _ => 0))] σ' := h.set 0 rfl H1 O1 rfl
  refine n_aload_n C dX2_init_53 rfl ?_
  refine n_bipush (x := 16) C dX2_init_54 (by decide) ?_
  refine n_put C (h.at 0 rfl) vC5 vI5 tyX2 tyX2_ok nmX2 5 (by decide) t1_68 rfl rfl rfl rfl (show (5 : Nat) < 10 by decide) dX2_init_56 ?_
  refine wab (e := .inr (5, [.ref l0, .ref l1, .ref l2, .ref z, .ref s, iv 16, iv 0, iv 0, iv 0, iv 0])) (fun σ' H1 O1 => ?_)
  have h : FC σ0 x [(x, .inr (5, [.ref l0, .ref l1, .ref l2, .ref z, .ref s, iv 16, iv 0, iv 0, iv 0, iv 0])), (l0, .inr (2, [iv 0, .ref g.2.2.1, iv 0])), (l1, .inr (2, [iv 0, .ref g.2.2.1, iv 0])), (l2, .inr (2, [iv 0, .ref g.2.2.1, iv 0])), (z, eZ g.2.1 6 (fun _ => 0)), (s, eI g.2.1 6 (fun _ => 0))] σ' := h.set 0 rfl H1 O1 rfl
  refine n_aload_n C dX2_init_59 rfl ?_
  refine n_bipush (x := 20) C dX2_init_60 (by decide) ?_
  refine n_put C (h.at 0 rfl) vC5 vI5 tyX2 tyX2_ok nmX2 6 (by decide) t1_69 rfl rfl rfl rfl (show (6 : Nat) < 10 by decide) dX2_init_62 ?_
  refine wab (e := .inr (5, [.ref l0, .ref l1, .ref l2, .ref z, .ref s, iv 16, iv 20, iv 0, iv 0, iv 0])) (fun σ' H1 O1 => ?_)
  have h : FC σ0 x [(x, .inr (5, [.ref l0, .ref l1, .ref l2, .ref z, .ref s, iv 16, iv 20, iv 0, iv 0, iv 0])), (l0, .inr (2, [iv 0, .ref g.2.2.1, iv 0])), (l1, .inr (2, [iv 0, .ref g.2.2.1, iv 0])), (l2, .inr (2, [iv 0, .ref g.2.2.1, iv 0])), (z, eZ g.2.1 6 (fun _ => 0)), (s, eI g.2.1 6 (fun _ => 0))] σ' := h.set 0 rfl H1 O1 rfl
  refine n_aload_n C dX2_init_65 rfl ?_
  refine n_bipush (x := 100) C dX2_init_66 (by decide) ?_
  refine n_put C (h.at 0 rfl) vC5 vI5 tyX2 tyX2_ok nmX2 7 (by decide) t1_70 rfl rfl rfl rfl (show (7 : Nat) < 10 by decide) dX2_init_68 ?_
  refine wab (e := .inr (5, [.ref l0, .ref l1, .ref l2, .ref z, .ref s, iv 16, iv 20, iv 100, iv 0, iv 0])) (fun σ' H1 O1 => ?_)
  have h : FC σ0 x [(x, .inr (5, [.ref l0, .ref l1, .ref l2, .ref z, .ref s, iv 16, iv 20, iv 100, iv 0, iv 0])), (l0, .inr (2, [iv 0, .ref g.2.2.1, iv 0])), (l1, .inr (2, [iv 0, .ref g.2.2.1, iv 0])), (l2, .inr (2, [iv 0, .ref g.2.2.1, iv 0])), (z, eZ g.2.1 6 (fun _ => 0)), (s, eI g.2.1 6 (fun _ => 0))] σ' := h.set 0 rfl H1 O1 rfl
  refine n_aload_n C dX2_init_71 rfl ?_
  refine n_iconst (x := 5) C dX2_init_72 ?_
  refine n_put C (h.at 0 rfl) vC5 vI5 tyX2 tyX2_ok nmX2 8 (by decide) t1_71 rfl rfl rfl rfl (show (8 : Nat) < 10 by decide) dX2_init_73 ?_
  refine wab (e := .inr (5, [.ref l0, .ref l1, .ref l2, .ref z, .ref s, iv 16, iv 20, iv 100, iv 5, iv 0])) (fun σ' H1 O1 => ?_)
  have h : FC σ0 x [(x, .inr (5, [.ref l0, .ref l1, .ref l2, .ref z, .ref s, iv 16, iv 20, iv 100, iv 5, iv 0])), (l0, .inr (2, [iv 0, .ref g.2.2.1, iv 0])), (l1, .inr (2, [iv 0, .ref g.2.2.1, iv 0])), (l2, .inr (2, [iv 0, .ref g.2.2.1, iv 0])), (z, eZ g.2.1 6 (fun _ => 0)), (s, eI g.2.1 6 (fun _ => 0))] σ' := h.set 0 rfl H1 O1 rfl
  refine n_aload_n C dX2_init_76 rfl ?_
  refine n_sipush (x := 400) C dX2_init_77 (by decide) ?_
  refine n_put C (h.at 0 rfl) vC5 vI5 tyX2 tyX2_ok nmX2 9 (by decide) t1_72 rfl rfl rfl rfl (show (9 : Nat) < 10 by decide) dX2_init_80 ?_
  refine wab (e := .inr (5, [.ref l0, .ref l1, .ref l2, .ref z, .ref s, iv 16, iv 20, iv 100, iv 5, iv 400])) (fun σ' H1 O1 => ?_)
  have h : FC σ0 x [(x, .inr (5, [.ref l0, .ref l1, .ref l2, .ref z, .ref s, iv 16, iv 20, iv 100, iv 5, iv 400])), (l0, .inr (2, [iv 0, .ref g.2.2.1, iv 0])), (l1, .inr (2, [iv 0, .ref g.2.2.1, iv 0])), (l2, .inr (2, [iv 0, .ref g.2.2.1, iv 0])), (z, eZ g.2.1 6 (fun _ => 0)), (s, eI g.2.1 6 (fun _ => 0))] σ' := h.set 0 rfl H1 O1 rfl
  refine n_iconst (x := 0) C dX2_init_83 ?_
  refine n_istore_n (lv' := [(1, iv 0), (0, .ref x)]) C dX2_init_84 (by rw [hN]; decide) rfl ?_
  have LP : ∀ (fu : Nat) (i : Nat) (σ : Wd) (_ : i ≤ 6) (_ : 6 < fu + i) (h : FC σ0 x [(x, .inr (5, [.ref l0, .ref l1, .ref l2, .ref z, .ref s, iv 16, iv 20, iv 100, iv 5, iv 400])), (l0, .inr (2, [iv 0, .ref g.2.2.1, iv 0])), (l1, .inr (2, [iv 0, .ref g.2.2.1, iv 0])), (l2, .inr (2, [iv 0, .ref g.2.2.1, iv 0])), (z, eZ g.2.1 6 (fun _ => 0)), (s, eI g.2.1 6 (c0T i 18))] σ), N Φ 5 21 σ 85 [(1, iv (i : Int)), (0, .ref x)] [] := by
    intro fu
    induction fu with
    | zero =>
      intro i σ h6 hfu h
      omega
    | succ fu ih =>
      intro i σ h6 hfu h
      refine n_iload_n C dX2_init_85 rfl ?_
      refine n_bipush (x := 6) C dX2_init_86 (by decide) ?_
      refine n_icmp_ge C 104 dX2_init_88 (by decide) (by unfold rg; omega) (by unfold rg; omega) (fun b88 => ?_) (fun b88 => ?_)
      · obtain rfl : i = 6 := by omega
        obtain ⟨A, q1, q2⟩ := fc_done h
        exact n_return C Rr ⟨rfl, A, q1, q2⟩ (by omega) (by omega) dX2_init_104
      · refine n_aload_n C dX2_init_91 rfl ?_
        refine n_get C (h.at 0 rfl) vC5 vI5 4 (by decide) t1_67 rfl rfl dX2_init_92 ?_
        refine n_iload_n C dX2_init_95 rfl ?_
        refine n_iconst (x := (-1)) C dX2_init_96 ?_
        refine n_iast C (h.at 5 rfl) (by omega) (by omega) (by omega) dX2_init_97 ?_
        refine wab (fun σ' H1 O1 => ?_)
        rw [Int.toNat_natCast, c0_upI] at H1
        have h : FC σ0 x [(x, .inr (5, [.ref l0, .ref l1, .ref l2, .ref z, .ref s, iv 16, iv 20, iv 100, iv 5, iv 400])), (l0, .inr (2, [iv 0, .ref g.2.2.1, iv 0])), (l1, .inr (2, [iv 0, .ref g.2.2.1, iv 0])), (l2, .inr (2, [iv 0, .ref g.2.2.1, iv 0])), (z, eZ g.2.1 6 (fun _ => 0)), (s, eI g.2.1 6 (c0T (i + 1) 18))] σ' := h.set 5 rfl H1 O1 rfl
        refine n_iinc (lv' := [(1, iv ((i : Int) + 1)), (0, .ref x)]) C dX2_init_98 rfl (by rw [hN]; decide) rfl ?_
        refine n_goto C 85 dX2_init_101 (by decide) ?_
        have e1 : ((i : Int) + 1) = ((i + 1 : Nat) : Int) := by omega
        rw [e1]
        exact ih (i + 1) σ' (by omega) (by omega) h
  exact LP 7 0 _ (by omega) (by omega) (by rw [c0_r18]; exact h)
theorem hfsO : ∀ j, j < 10 → defaultValue (tyX2 j) = vp_V [.null, .null, .null, .null, .null, iv 0, iv 0, iv 0, iv 0, iv 0] j := by
  intro j hj
  match j, hj with
  | 0, _ => rfl
  | 1, _ => rfl
  | 2, _ => rfl
  | 3, _ => rfl
  | 4, _ => rfl
  | 5, _ => rfl
  | 6, _ => rfl
  | 7, _ => rfl
  | 8, _ => rfl
  | 9, _ => rfl
  | j + 10, hj => exfalso; omega
