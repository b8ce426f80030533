theorem mcS : ∀ k : Nat, k < 27 → isA k = true → k ∈ [23, 22, 21, 20, 19, 18, 17, 11, 10, 9, 8, 7, 5, 4, 3, 2, 1] := by decide
theorem mcS2 : ∀ k : Nat, k ∈ [23, 22, 21, 20, 19, 18, 17, 11, 10, 9, 8, 7, 5, 4, 3, 2, 1] → isA k = true := by decide
theorem c0_row0 : ∀ k : Nat, k < 27 → isA k = true → sc0 k = 0 := by decide
theorem c0_row (k : Nat) (hk : isA k = true) : c0T 0 k = fun _ => 0 := by
  funext j
  unfold c0T
  split
  · rw [if_neg (by omega)]
  · exact c0_row0 k (isA_lt hk) hk
set_option maxRecDepth 100000 in
set_option maxHeartbeats 4000000 in
theorem c_refInit {g : Gx} (hst : g.1.stackTraces = false) {o : Nat} {σ0 σ : Wd} (hσ0 : σ = σ0) (hy : σ o = some (.inr (6, [iv 0, .null, .null, .null, .null, .null, iv 0, .null, .null, .null, .null, .null, iv 0, iv 0, iv 0, iv 0, iv 0, .null, .null, .null, .null, .null, .null, .null, iv 0, iv 0, iv 0])))  : CT g yX3_init cX3_init 2 none 1 17 228 [.ref o] σ (fun r σ' => r = none ∧ ∃ ar : Nat → Nat, RI o ar ∧ MW g.2.1 o ar σ0 (c0T 6) σ' ∧ ∀ k, isA k = true → σ0 (ar k) = none) (fun _ _ => False) := by
  refine CT.of hst (by decide +kernel) (Nat.le_of_ble_eq_true rfl) (fun Φ C Rr hY hN => ?_)
  show N Φ 0 0 σ 0 [(0, .ref o)] []
  have h : MC g.2.1 o (fun _ => 0) σ0 [iv 0, .null, .null, .null, .null, .null, iv 0, .null, .null, .null, .null, .null, iv 0, iv 0, iv 0, iv 0, iv 0, .null, .null, .null, .null, .null, .null, .null, iv 0, iv 0, iv 0] [] σ := ⟨hy, fun k hk => absurd hk List.not_mem_nil, fun k hk => absurd hk List.not_mem_nil, fun a _ _ => by rw [hσ0]⟩
  refine n_aload_n C dX3_init_0 rfl ?_
  refine n_objInit C w4_127 w1_33 w1_34 (Nat.le_of_ble_eq_true rfl) dX3_init_1 ?_
  refine n_aload_n C dX3_init_4 rfl ?_
  refine n_bipush (x := 6) C dX3_init_5 (by decide) ?_
  refine mc_newZ C h 1 (M := 6) (by decide) rfl rfl (by omega) w1_92 (by omega) (by omega) dX3_init_7 (fun q1 σ h => ?_)
  refine mc_putF C hY h 1 [iv 0, .ref q1, .null, .null, .null, .null, iv 0, .null, .null, .null, .null, .null, iv 0, iv 0, iv 0, iv 0, iv 0, .null, .null, .null, .null, .null, .null, .null, iv 0, iv 0, iv 0] rfl (by decide) w4_129 rfl rfl rfl rfl (show (1 : Nat) < 27 by decide) dX3_init_9 (fun σ h => ?_)
  refine n_aload_n C dX3_init_12 rfl ?_
  refine n_bipush (x := 6) C dX3_init_13 (by decide) ?_
  refine mc_newI C h 2 (M := 6) (by decide) rfl rfl (by omega) w1_93 (by omega) (by omega) dX3_init_15 (fun q2 σ h => ?_)
  refine mc_putF C hY h 2 [iv 0, .ref q1, .ref q2, .null, .null, .null, iv 0, .null, .null, .null, .null, .null, iv 0, iv 0, iv 0, iv 0, iv 0, .null, .null, .null, .null, .null, .null, .null, iv 0, iv 0, iv 0] rfl (by decide) w4_130 rfl rfl rfl rfl (show (2 : Nat) < 27 by decide) dX3_init_17 (fun σ h => ?_)
  refine n_aload_n C dX3_init_20 rfl ?_
  refine n_bipush (x := 6) C dX3_init_21 (by decide) ?_
  refine mc_newI C h 3 (M := 6) (by decide) rfl rfl (by omega) w1_93 (by omega) (by omega) dX3_init_23 (fun q3 σ h => ?_)
  refine mc_putF C hY h 3 [iv 0, .ref q1, .ref q2, .ref q3, .null, .null, iv 0, .null, .null, .null, .null, .null, iv 0, iv 0, iv 0, iv 0, iv 0, .null, .null, .null, .null, .null, .null, .null, iv 0, iv 0, iv 0] rfl (by decide) w4_131 rfl rfl rfl rfl (show (3 : Nat) < 27 by decide) dX3_init_25 (fun σ h => ?_)
  refine n_aload_n C dX3_init_28 rfl ?_
  refine n_bipush (x := 6) C dX3_init_29 (by decide) ?_
  refine mc_newI C h 4 (M := 6) (by decide) rfl rfl (by omega) w1_93 (by omega) (by omega) dX3_init_31 (fun q4 σ h => ?_)
  refine mc_putF C hY h 4 [iv 0, .ref q1, .ref q2, .ref q3, .ref q4, .null, iv 0, .null, .null, .null, .null, .null, iv 0, iv 0, iv 0, iv 0, iv 0, .null, .null, .null, .null, .null, .null, .null, iv 0, iv 0, iv 0] rfl (by decide) w4_132 rfl rfl rfl rfl (show (4 : Nat) < 27 by decide) dX3_init_33 (fun σ h => ?_)
  refine n_aload_n C dX3_init_36 rfl ?_
  refine n_bipush (x := 6) C dX3_init_37 (by decide) ?_
  refine mc_newI C h 5 (M := 6) (by decide) rfl rfl (by omega) w1_93 (by omega) (by omega) dX3_init_39 (fun q5 σ h => ?_)
  refine mc_putF C hY h 5 [iv 0, .ref q1, .ref q2, .ref q3, .ref q4, .ref q5, iv 0, .null, .null, .null, .null, .null, iv 0, iv 0, iv 0, iv 0, iv 0, .null, .null, .null, .null, .null, .null, .null, iv 0, iv 0, iv 0] rfl (by decide) w4_133 rfl rfl rfl rfl (show (5 : Nat) < 27 by decide) dX3_init_41 (fun σ h => ?_)
  refine n_aload_n C dX3_init_44 rfl ?_
  refine n_bipush (x := 24) C dX3_init_45 (by decide) ?_
  refine mc_newI C h 7 (M := 24) (by decide) rfl rfl (by omega) w1_93 (by omega) (by omega) dX3_init_47 (fun q7 σ h => ?_)
  refine mc_putF C hY h 7 [iv 0, .ref q1, .ref q2, .ref q3, .ref q4, .ref q5, iv 0, .ref q7, .null, .null, .null, .null, iv 0, iv 0, iv 0, iv 0, iv 0, .null, .null, .null, .null, .null, .null, .null, iv 0, iv 0, iv 0] rfl (by decide) w4_135 rfl rfl rfl rfl (show (7 : Nat) < 27 by decide) dX3_init_49 (fun σ h => ?_)
  refine n_aload_n C dX3_init_52 rfl ?_
  refine n_bipush (x := 24) C dX3_init_53 (by decide) ?_
  refine mc_newI C h 8 (M := 24) (by decide) rfl rfl (by omega) w1_93 (by omega) (by omega) dX3_init_55 (fun q8 σ h => ?_)
  refine mc_putF C hY h 8 [iv 0, .ref q1, .ref q2, .ref q3, .ref q4, .ref q5, iv 0, .ref q7, .ref q8, .null, .null, .null, iv 0, iv 0, iv 0, iv 0, iv 0, .null, .null, .null, .null, .null, .null, .null, iv 0, iv 0, iv 0] rfl (by decide) w4_136 rfl rfl rfl rfl (show (8 : Nat) < 27 by decide) dX3_init_57 (fun σ h => ?_)
  refine n_aload_n C dX3_init_60 rfl ?_
  refine n_bipush (x := 24) C dX3_init_61 (by decide) ?_
  refine mc_newI C h 9 (M := 24) (by decide) rfl rfl (by omega) w1_93 (by omega) (by omega) dX3_init_63 (fun q9 σ h => ?_)
  refine mc_putF C hY h 9 [iv 0, .ref q1, .ref q2, .ref q3, .ref q4, .ref q5, iv 0, .ref q7, .ref q8, .ref q9, .null, .null, iv 0, iv 0, iv 0, iv 0, iv 0, .null, .null, .null, .null, .null, .null, .null, iv 0, iv 0, iv 0] rfl (by decide) w4_137 rfl rfl rfl rfl (show (9 : Nat) < 27 by decide) dX3_init_65 (fun σ h => ?_)
  refine n_aload_n C dX3_init_68 rfl ?_
  refine n_bipush (x := 24) C dX3_init_69 (by decide) ?_
  refine mc_newI C h 10 (M := 24) (by decide) rfl rfl (by omega) w1_93 (by omega) (by omega) dX3_init_71 (fun q10 σ h => ?_)
  refine mc_putF C hY h 10 [iv 0, .ref q1, .ref q2, .ref q3, .ref q4, .ref q5, iv 0, .ref q7, .ref q8, .ref q9, .ref q10, .null, iv 0, iv 0, iv 0, iv 0, iv 0, .null, .null, .null, .null, .null, .null, .null, iv 0, iv 0, iv 0] rfl (by decide) w4_138 rfl rfl rfl rfl (show (10 : Nat) < 27 by decide) dX3_init_73 (fun σ h => ?_)
  refine n_aload_n C dX3_init_76 rfl ?_
  refine n_bipush (x := 24) C dX3_init_77 (by decide) ?_
  refine mc_newZ C h 11 (M := 24) (by decide) rfl rfl (by omega) w1_92 (by omega) (by omega) dX3_init_79 (fun q11 σ h => ?_)
  refine mc_putF C hY h 11 [iv 0, .ref q1, .ref q2, .ref q3, .ref q4, .ref q5, iv 0, .ref q7, .ref q8, .ref q9, .ref q10, .ref q11, iv 0, iv 0, iv 0, iv 0, iv 0, .null, .null, .null, .null, .null, .null, .null, iv 0, iv 0, iv 0] rfl (by decide) w4_139 rfl rfl rfl rfl (show (11 : Nat) < 27 by decide) dX3_init_81 (fun σ h => ?_)
  refine n_aload_n C dX3_init_84 rfl ?_
  refine n_bipush (x := 16) C dX3_init_85 (by decide) ?_
  refine mc_put C h 12 [iv 0, .ref q1, .ref q2, .ref q3, .ref q4, .ref q5, iv 0, .ref q7, .ref q8, .ref q9, .ref q10, .ref q11, iv 16, iv 0, iv 0, iv 0, iv 0, .null, .null, .null, .null, .null, .null, .null, iv 0, iv 0, iv 0] rfl (by decide) w4_140 rfl rfl rfl rfl (show (12 : Nat) < 27 by decide) dX3_init_87 (fun σ h => ?_)
  refine n_aload_n C dX3_init_90 rfl ?_
  refine n_bipush (x := 20) C dX3_init_91 (by decide) ?_
  refine mc_put C h 13 [iv 0, .ref q1, .ref q2, .ref q3, .ref q4, .ref q5, iv 0, .ref q7, .ref q8, .ref q9, .ref q10, .ref q11, iv 16, iv 20, iv 0, iv 0, iv 0, .null, .null, .null, .null, .null, .null, .null, iv 0, iv 0, iv 0] rfl (by decide) w4_141 rfl rfl rfl rfl (show (13 : Nat) < 27 by decide) dX3_init_93 (fun σ h => ?_)
  refine n_aload_n C dX3_init_96 rfl ?_
  refine n_bipush (x := 100) C dX3_init_97 (by decide) ?_
  refine mc_put C h 14 [iv 0, .ref q1, .ref q2, .ref q3, .ref q4, .ref q5, iv 0, .ref q7, .ref q8, .ref q9, .ref q10, .ref q11, iv 16, iv 20, iv 100, iv 0, iv 0, .null, .null, .null, .null, .null, .null, .null, iv 0, iv 0, iv 0] rfl (by decide) w4_142 rfl rfl rfl rfl (show (14 : Nat) < 27 by decide) dX3_init_99 (fun σ h => ?_)
  refine n_aload_n C dX3_init_102 rfl ?_
  refine n_iconst (x := 5) C dX3_init_103 ?_
  refine mc_put C h 15 [iv 0, .ref q1, .ref q2, .ref q3, .ref q4, .ref q5, iv 0, .ref q7, .ref q8, .ref q9, .ref q10, .ref q11, iv 16, iv 20, iv 100, iv 5, iv 0, .null, .null, .null, .null, .null, .null, .null, iv 0, iv 0, iv 0] rfl (by decide) w4_143 rfl rfl rfl rfl (show (15 : Nat) < 27 by decide) dX3_init_104 (fun σ h => ?_)
  refine n_aload_n C dX3_init_107 rfl ?_
  refine n_sipush (x := 400) C dX3_init_108 (by decide) ?_
  refine mc_put C h 16 [iv 0, .ref q1, .ref q2, .ref q3, .ref q4, .ref q5, iv 0, .ref q7, .ref q8, .ref q9, .ref q10, .ref q11, iv 16, iv 20, iv 100, iv 5, iv 400, .null, .null, .null, .null, .null, .null, .null, iv 0, iv 0, iv 0] rfl (by decide) w4_144 rfl rfl rfl rfl (show (16 : Nat) < 27 by decide) dX3_init_111 (fun σ h => ?_)
  refine n_aload_n C dX3_init_114 rfl ?_
  refine n_bipush (x := 6) C dX3_init_115 (by decide) ?_
  refine mc_newZ C h 17 (M := 6) (by decide) rfl rfl (by omega) w1_92 (by omega) (by omega) dX3_init_117 (fun q17 σ h => ?_)
  refine mc_putF C hY h 17 [iv 0, .ref q1, .ref q2, .ref q3, .ref q4, .ref q5, iv 0, .ref q7, .ref q8, .ref q9, .ref q10, .ref q11, iv 16, iv 20, iv 100, iv 5, iv 400, .ref q17, .null, .null, .null, .null, .null, .null, iv 0, iv 0, iv 0] rfl (by decide) w4_145 rfl rfl rfl rfl (show (17 : Nat) < 27 by decide) dX3_init_119 (fun σ h => ?_)
  refine n_aload_n C dX3_init_122 rfl ?_
  refine n_bipush (x := 6) C dX3_init_123 (by decide) ?_
  refine mc_newI C h 18 (M := 6) (by decide) rfl rfl (by omega) w1_93 (by omega) (by omega) dX3_init_125 (fun q18 σ h => ?_)
  refine mc_putF C hY h 18 [iv 0, .ref q1, .ref q2, .ref q3, .ref q4, .ref q5, iv 0, .ref q7, .ref q8, .ref q9, .ref q10, .ref q11, iv 16, iv 20, iv 100, iv 5, iv 400, .ref q17, .ref q18, .null, .null, .null, .null, .null, iv 0, iv 0, iv 0] rfl (by decide) w4_146 rfl rfl rfl rfl (show (18 : Nat) < 27 by decide) dX3_init_127 (fun σ h => ?_)
  refine n_aload_n C dX3_init_130 rfl ?_
  refine n_bipush (x := 6) C dX3_init_131 (by decide) ?_
  refine mc_newI C h 19 (M := 6) (by decide) rfl rfl (by omega) w1_93 (by omega) (by omega) dX3_init_133 (fun q19 σ h => ?_)
  refine mc_putF C hY h 19 [iv 0, .ref q1, .ref q2, .ref q3, .ref q4, .ref q5, iv 0, .ref q7, .ref q8, .ref q9, .ref q10, .ref q11, iv 16, iv 20, iv 100, iv 5, iv 400, .ref q17, .ref q18, .ref q19, .null, .null, .null, .null, iv 0, iv 0, iv 0] rfl (by decide) w4_147 rfl rfl rfl rfl (show (19 : Nat) < 27 by decide) dX3_init_135 (fun σ h => ?_)
  refine n_aload_n C dX3_init_138 rfl ?_
  refine n_bipush (x := 6) C dX3_init_139 (by decide) ?_
  refine mc_newI C h 20 (M := 6) (by decide) rfl rfl (by omega) w1_93 (by omega) (by omega) dX3_init_141 (fun q20 σ h => ?_)
  refine mc_putF C hY h 20 [iv 0, .ref q1, .ref q2, .ref q3, .ref q4, .ref q5, iv 0, .ref q7, .ref q8, .ref q9, .ref q10, .ref q11, iv 16, iv 20, iv 100, iv 5, iv 400, .ref q17, .ref q18, .ref q19, .ref q20, .null, .null, .null, iv 0, iv 0, iv 0] rfl (by decide) w4_148 rfl rfl rfl rfl (show (20 : Nat) < 27 by decide) dX3_init_143 (fun σ h => ?_)
  refine n_aload_n C dX3_init_146 rfl ?_
  refine n_bipush (x := 6) C dX3_init_147 (by decide) ?_
  refine mc_newI C h 21 (M := 6) (by decide) rfl rfl (by omega) w1_93 (by omega) (by omega) dX3_init_149 (fun q21 σ h => ?_)
  refine mc_putF C hY h 21 [iv 0, .ref q1, .ref q2, .ref q3, .ref q4, .ref q5, iv 0, .ref q7, .ref q8, .ref q9, .ref q10, .ref q11, iv 16, iv 20, iv 100, iv 5, iv 400, .ref q17, .ref q18, .ref q19, .ref q20, .ref q21, .null, .null, iv 0, iv 0, iv 0] rfl (by decide) w4_149 rfl rfl rfl rfl (show (21 : Nat) < 27 by decide) dX3_init_151 (fun σ h => ?_)
  refine n_aload_n C dX3_init_154 rfl ?_
  refine n_bipush (x := 24) C dX3_init_155 (by decide) ?_
  refine mc_newI C h 22 (M := 24) (by decide) rfl rfl (by omega) w1_93 (by omega) (by omega) dX3_init_157 (fun q22 σ h => ?_)
  refine mc_putF C hY h 22 [iv 0, .ref q1, .ref q2, .ref q3, .ref q4, .ref q5, iv 0, .ref q7, .ref q8, .ref q9, .ref q10, .ref q11, iv 16, iv 20, iv 100, iv 5, iv 400, .ref q17, .ref q18, .ref q19, .ref q20, .ref q21, .ref q22, .null, iv 0, iv 0, iv 0] rfl (by decide) w4_150 rfl rfl rfl rfl (show (22 : Nat) < 27 by decide) dX3_init_159 (fun σ h => ?_)
  refine n_aload_n C dX3_init_162 rfl ?_
  refine n_bipush (x := 24) C dX3_init_163 (by decide) ?_
  refine mc_newI C h 23 (M := 24) (by decide) rfl rfl (by omega) w1_93 (by omega) (by omega) dX3_init_165 (fun q23 σ h => ?_)
  refine mc_putF C hY h 23 [iv 0, .ref q1, .ref q2, .ref q3, .ref q4, .ref q5, iv 0, .ref q7, .ref q8, .ref q9, .ref q10, .ref q11, iv 16, iv 20, iv 100, iv 5, iv 400, .ref q17, .ref q18, .ref q19, .ref q20, .ref q21, .ref q22, .ref q23, iv 0, iv 0, iv 0] rfl (by decide) w4_151 rfl rfl rfl rfl (show (23 : Nat) < 27 by decide) dX3_init_167 (fun σ h => ?_)
  refine n_iconst (x := 0) C dX3_init_170 ?_
  refine n_istore_n (lv' := [(1, iv 0), (0, .ref o)]) C dX3_init_171 (by rw [hN]; decide) rfl ?_
  obtain ⟨I, hM, hZ⟩ := MC.done (M := c0T 0) h (fun k hk => mcS k (isA_lt hk) hk) (fun k hk => mcS2 k hk) rfl (fun k hk => c0_row k hk)
  obtain ⟨ar, har⟩ : ∃ ar : Nat → Nat, (upN (upN (upN (upN (upN (upN (upN (upN (upN (upN (upN (upN (upN (upN (upN (upN (upN (fun _ => 0) 1 q1) 2 q2) 3 q3) 4 q4) 5 q5) 7 q7) 8 q8) 9 q9) 10 q10) 11 q11) 17 q17) 18 q18) 19 q19) 20 q20) 21 q21) 22 q22) 23 q23) = ar := ⟨_, rfl⟩
  rw [har] at I hM hZ
  clear h har
  have LP : ∀ (fu : Nat) (i : Nat) (σ : Wd) (_ : i ≤ 6) (_ : 6 < fu + i) (hM : MW g.2.1 o ar σ0 (c0T i) σ), N Φ 17 228 σ 172 [(1, iv (i : Int)), (0, .ref o)] [] := by
    intro fu
    induction fu with
    | zero =>
      intro i σ h6 hfu hM
      omega
    | succ fu ih =>
      intro i σ h6 hfu hM
      refine n_iload_n C dX3_init_172 rfl ?_
      refine n_bipush (x := 6) C dX3_init_173 (by decide) ?_
      refine n_icmp_ge C 191 dX3_init_175 (by decide) (by unfold rg; omega) (by unfold rg; omega) (fun b175 => ?_) (fun b175 => ?_)
      · obtain rfl : i = 6 := by omega
        exact n_return C Rr ⟨rfl, ar, I, hM, hZ⟩ (by omega) (by omega) dX3_init_191
      · refine n_aload_n C dX3_init_178 rfl ?_
        refine r_get C hM 18 (by decide) w4_146 rfl rfl dX3_init_179 ?_
        refine n_iload_n C dX3_init_182 rfl ?_
        refine n_iconst (x := (-1)) C dX3_init_183 ?_
        refine r_iast C I hM 18 rfl rfl i rfl (show _ < 6 by omega) dX3_init_184 (fun σ hM => ?_)
        rw [c0_up] at hM
        refine n_iinc (lv' := [(1, iv ((i : Int) + 1)), (0, .ref o)]) C dX3_init_185 rfl (by rw [hN]; decide) rfl ?_
        refine n_goto C 172 dX3_init_188 (by decide) ?_
        have e1 : ((i : Int) + 1) = ((i + 1 : Nat) : Int) := by omega
        rw [e1]
        exact ih (i + 1) σ (by omega) (by omega) hM
  exact LP 7 0 _ (by omega) (by omega) hM
theorem hfsJ : ∀ j, j < 3 → defaultValue (tyJx4a65c j) = vp_V [iv 0, .null, iv 0] j := by
  intro j hj
  match j, hj with
  | 0, _ => rfl
  | 1, _ => rfl
  | 2, _ => rfl
  | j + 3, hj => exfalso; omega
set_option maxRecDepth 100000 in
set_option maxHeartbeats 4000000 in
theorem c_omInit {g : Gx} (hst : g.1.stackTraces = false) {x : Nat} {σ0 σ : Wd} (hσ0 : σ = σ0) (hy : σ x = some (.inr (5, [.null, .null, .null, .null, .null, iv 0, iv 0, iv 0, iv 0, iv 0])))  : CT g yX2_init cX2_init 2 none 4 5 21 [.ref x] σ (fun r σ' => r = none ∧ ∃ A : ShT, shA A 0 = x ∧ CW g.2.1 A (c0T 6) (fun _ _ => 0) σ' ∧ CI g (c0T 6) A ∧ (∀ a, ownQ A (c0T 6) a → a = x ∨ σ0 a = none) ∧ ∀ a, ¬ ownQ A (c0T 6) a → σ' a = σ0 a) (fun _ _ => False) := by
  refine CT.of hst (by decide +kernel) (Nat.le_of_ble_eq_true rfl) (fun Φ C Rr hY hN => ?_)
  show N Φ 0 0 σ 0 [(0, .ref x)] []
  have h : FC σ0 x [(x, .inr (5, [.null, .null, .null, .null, .null, iv 0, iv 0, iv 0, iv 0, iv 0]))] σ := by
    rw [hσ0] at hy ⊢
    exact FC.one hy
  refine n_aload_n C dX2_init_0 rfl ?_
  refine n_objInit C w1_32 w1_33 w1_34 (Nat.le_of_ble_eq_true rfl) dX2_init_1 ?_
  refine n_aload_n C dX2_init_4 rfl ?_
  refine n_new C [iv 0, .null, iv 0] cJ inJ tyJx4a65c tyJx4a65c_ok w1_35 w1_36 w1_4 hfsJ (by omega) (by omega) dX2_init_5 (fun l0 hl0 => ?_)
  refine wab (fun σ' H1 O1 => ?_)
  have h : FC σ0 x [(x, .inr (5, [.null, .null, .null, .null, .null, iv 0, iv 0, iv 0, iv 0, iv 0])), (l0, .inr (2, [iv 0, .null, iv 0]))] σ' := h.push hl0 H1 O1 rfl
  refine n_dup C dX2_init_8 rfl ?_
  refine n_invI C (c_alInit hst (h.at 1 rfl)) ⟨w1_37, w1_39, w1_4, ⟨by decide, by decide⟩, by show _ = some 0; decide +kernel, by decide⟩ w1_38 (by decide) (by decide) (by omega) (by omega) (Nat.le_of_ble_eq_true rfl) rfl dX2_init_9 (fun r σ' h' => ?_) (fun _ _ h => h.elim)
  obtain ⟨rfl, H2, O2⟩ := h'
  have h : FC σ0 x [(x, .inr (5, [.null, .null, .null, .null, .null, iv 0, iv 0, iv 0, iv 0, iv 0])), (l0, .inr (2, [iv 0, .ref g.2.2.1, iv 0]))] σ' := h.set 1 rfl H2.1 O2 rfl
  refine n_putF C hY (h.at 0 rfl) vC5 vI5 tyX2 tyX2_ok nmX2 0 (by decide) w1_61 rfl rfl rfl rfl rfl (show (0 : Nat) < 10 by decide) dX2_init_12 ?_
  refine wab (e := .inr (5, [.ref l0, .null, .null, .null, .null, iv 0, iv 0, iv 0, iv 0, iv 0])) (fun σ' H1 O1 => ?_)
  have h : FC σ0 x [(x, .inr (5, [.ref l0, .null, .null, .null, .null, iv 0, iv 0, iv 0, iv 0, iv 0])), (l0, .inr (2, [iv 0, .ref g.2.2.1, iv 0]))] σ' := h.set 0 rfl H1 O1 rfl
  refine n_aload_n C dX2_init_15 rfl ?_
  refine n_new C [iv 0, .null, iv 0] cJ inJ tyJx4a65c tyJx4a65c_ok w1_35 w1_36 w1_4 hfsJ (by omega) (by omega) dX2_init_16 (fun l1 hl1 => ?_)
  refine wab (fun σ' H1 O1 => ?_)
  have h : FC σ0 x [(x, .inr (5, [.ref l0, .null, .null, .null, .null, iv 0, iv 0, iv 0, iv 0, iv 0])), (l0, .inr (2, [iv 0, .ref g.2.2.1, iv 0])), (l1, .inr (2, [iv 0, .null, iv 0]))] σ' := h.push hl1 H1 O1 rfl
  refine n_dup C dX2_init_19 rfl ?_
  refine n_invI C (c_alInit hst (h.at 2 rfl)) ⟨w1_37, w1_39, w1_4, ⟨by decide, by decide⟩, by show _ = some 0; decide +kernel, by decide⟩ w1_38 (by decide) (by decide) (by omega) (by omega) (Nat.le_of_ble_eq_true rfl) rfl dX2_init_20 (fun r σ' h' => ?_) (fun _ _ h => h.elim)
  obtain ⟨rfl, H2, O2⟩ := h'
  have h : FC σ0 x [(x, .inr (5, [.ref l0, .null, .null, .null, .null, iv 0, iv 0, iv 0, iv 0, iv 0])), (l0, .inr (2, [iv 0, .ref g.2.2.1, iv 0])), (l1, .inr (2, [iv 0, .ref g.2.2.1, iv 0]))] σ' := h.set 2 rfl H2.1 O2 rfl
  refine n_putF C hY (h.at 0 rfl) vC5 vI5 tyX2 tyX2_ok nmX2 1 (by decide) w1_62 rfl rfl rfl rfl rfl (show (1 : Nat) < 10 by decide) dX2_init_23 ?_
  refine wab (e := .inr (5, [.ref l0, .ref l1, .null, .null, .null, iv 0, iv 0, iv 0, iv 0, iv 0])) (fun σ' H1 O1 => ?_)
  have h : FC σ0 x [(x, .inr (5, [.ref l0, .ref l1, .null, .null, .null, iv 0, iv 0, iv 0, iv 0, iv 0])), (l0, .inr (2, [iv 0, .ref g.2.2.1, iv 0])), (l1, .inr (2, [iv 0, .ref g.2.2.1, iv 0]))] σ' := h.set 0 rfl H1 O1 rfl
  refine n_aload_n C dX2_init_26 rfl ?_
  refine n_new C [iv 0, .null, iv 0] cJ inJ tyJx4a65c tyJx4a65c_ok w1_35 w1_36 w1_4 hfsJ (by omega) (by omega) dX2_init_27 (fun l2 hl2 => ?_)
  refine wab (fun σ' H1 O1 => ?_)
  have h : FC σ0 x [(x, .inr (5, [.ref l0, .ref l1, .null, .null, .null, iv 0, iv 0, iv 0, iv 0, iv 0])), (l0, .inr (2, [iv 0, .ref g.2.2.1, iv 0])), (l1, .inr (2, [iv 0, .ref g.2.2.1, iv 0])), (l2, .inr (2, [iv 0, .null, iv 0]))] σ' := h.push hl2 H1 O1 rfl
  refine n_dup C dX2_init_30 rfl ?_
  refine n_invI C (c_alInit hst (h.at 3 rfl)) ⟨w1_37, w1_39, w1_4, ⟨by decide, by decide⟩, by show _ = some 0; decide +kernel, by decide⟩ w1_38 (by decide) (by decide) (by omega) (by omega) (Nat.le_of_ble_eq_true rfl) rfl dX2_init_31 (fun r σ' h' => ?_) (fun _ _ h => h.elim)
  obtain ⟨rfl, H2, O2⟩ := h'
  have h : FC σ0 x [(x, .inr (5, [.ref l0, .ref l1, .null, .null, .null, iv 0, iv 0, iv 0, iv 0, iv 0])), (l0, .inr (2, [iv 0, .ref g.2.2.1, iv 0])), (l1, .inr (2, [iv 0, .ref g.2.2.1, iv 0])), (l2, .inr (2, [iv 0, .ref g.2.2.1, iv 0]))] σ' := h.set 3 rfl H2.1 O2 rfl
  refine n_putF C hY (h.at 0 rfl) vC5 vI5 tyX2 tyX2_ok nmX2 2 (by decide) w1_63 rfl rfl rfl rfl rfl (show (2 : Nat) < 10 by decide) dX2_init_34 ?_
  refine wab (e := .inr (5, [.ref l0, .ref l1, .ref l2, .null, .null, iv 0, iv 0, iv 0, iv 0, iv 0])) (fun σ' H1 O1 => ?_)
  have h : FC σ0 x [(x, .inr (5, [.ref l0, .ref l1, .ref l2, .null, .null, iv 0, iv 0, iv 0, iv 0, iv 0])), (l0, .inr (2, [iv 0, .ref g.2.2.1, iv 0])), (l1, .inr (2, [iv 0, .ref g.2.2.1, iv 0])), (l2, .inr (2, [iv 0, .ref g.2.2.1, iv 0]))] σ' := h.set 0 rfl H1 O1 rfl
  refine n_aload_n C dX2_init_37 rfl ?_
  refine n_bipush (x := 6) C dX2_init_38 (by decide) ?_
  refine n_newZ C (M := 6) (by omega) w1_92 (by omega) (by omega) dX2_init_40 (fun z hz => ?_)
  refine wab (fun σ' H1 O1 => ?_)
  have h : FC σ0 x [(x, .inr (5, [.ref l0, .ref l1, .ref l2, .null, .null, iv 0, iv 0, iv 0, iv 0, iv 0])), (l0, .inr (2, [iv 0, .ref g.2.2.1, iv 0])), (l1, .inr (2, [iv 0, .ref g.2.2.1, iv 0])), (l2, .inr (2, [iv 0, .ref g.2.2.1, iv 0])), (z, eZ g.2.1 6 (fun _ => 0))] σ' := h.push hz H1 O1 rfl
  refine n_putF C hY (h.at 0 rfl) vC5 vI5 tyX2 tyX2_ok nmX2 3 (by decide) w1_64 rfl rfl rfl rfl rfl (show (3 : Nat) < 10 by decide) dX2_init_42 ?_
  refine wab (e := .inr (5, [.ref l0, .ref l1, .ref l2, .ref z, .null, iv 0, iv 0, iv 0, iv 0, iv 0])) (fun σ' H1 O1 => ?_)
  have h : FC σ0 x [(x, .inr (5, [.ref l0, .ref l1, .ref l2, .ref z, .null, iv 0, iv 0, iv 0, iv 0, iv 0])), (l0, .inr (2, [iv 0, .ref g.2.2.1, iv 0])), (l1, .inr (2, [iv 0, .ref g.2.2.1, iv 0])), (l2, .inr (2, [iv 0, .ref g.2.2.1, iv 0])), (z, eZ g.2.1 6 (fun _ => 0))] σ' := h.set 0 rfl H1 O1 rfl
  refine n_aload_n C dX2_init_45 rfl ?_
  refine n_bipush (x := 6) C dX2_init_46 (by decide) ?_
  refine n_newI C (M := 6) (by omega) w1_93 (by omega) (by omega) dX2_init_48 (fun s hs => ?_)
  refine wab (fun σ' H1 O1 => ?_)
  have h : FC σ0 x [(x, .inr (5, [.ref l0, .ref l1, .ref l2, .ref z, .null, iv 0, iv 0, iv 0, iv 0, iv 0])), (l0, .inr (2, [iv 0, .ref g.2.2.1, iv 0])), (l1, .inr (2, [iv 0, .ref g.2.2.1, iv 0])), (l2, .inr (2, [iv 0, .ref g.2.2.1, iv 0])), (z, eZ g.2.1 6 (fun _ => 0)), (s, eI g.2.1 6 (fun _ => 0))] σ' := h.push hs H1 O1 rfl
  refine n_putF C hY (h.at 0 rfl) vC5 vI5 tyX2 tyX2_ok nmX2 4 (by decide) w1_65 rfl rfl rfl rfl rfl (show (4 : Nat) < 10 by decide) dX2_init_50 ?_
  refine wab (e := .inr (5, [.ref l0, .ref l1, .ref l2, .ref z, .ref s, iv 0, iv 0, iv 0, iv 0, iv 0])) (fun σ' H1 O1 => ?_)
  have h : FC σ0 x [(x, .inr (5, [.ref l0, .ref l1, .ref l2, .ref z, .ref s, iv 0, iv 0, iv 0, iv 0, iv 0])), (l0, .inr (2, [iv 0, .ref g.2.2.1, iv 0])), (l1, .inr (2, [iv 0, .ref g.2.2.1, iv 0])), (l2, .inr (2, [iv 0, .ref g.2.2.1, iv 0])), (z, eZ g.2.1 6 (fun _ => 0)), (s, eI g.2.1 6 (fun _ => 0))] σ' := h.set 0 rfl H1 O1 rfl
  refine n_aload_n C dX2_init_53 rfl ?_
  refine n_bipush (x := 16) C dX2_init_54 (by decide) ?_
  refine n_put C (h.at 0 rfl) vC5 vI5 tyX2 tyX2_ok nmX2 5 (by decide) w1_66 rfl rfl rfl rfl (show (5 : Nat) < 10 by decide) dX2_init_56 ?_
  refine wab (e := .inr (5, [.ref l0, .ref l1, .ref l2, .ref z, .ref s, iv 16, iv 0, iv 0, iv 0, iv 0])) (fun σ' H1 O1 => ?_)
  have h : FC σ0 x [(x, .inr (5, [.ref l0, .ref l1, .ref l2, .ref z, .ref s, iv 16, iv 0, iv 0, iv 0, iv 0])), (l0, .inr (2, [iv 0, .ref g.2.2.1, iv 0])), (l1, .inr (2, [iv 0, .ref g.2.2.1, iv 0])), (l2, .inr (2, [iv 0, .ref g.2.2.1, iv 0])), (z, eZ g.2.1 6 (fun _ => 0)), (s, eI g.2.1 6 (fun _ => 0))] σ' := h.set 0 rfl H1 O1 rfl
  refine n_aload_n C dX2_init_59 rfl ?_
  refine n_bipush (x := 20) C dX2_init_60 (by decide) ?_
  refine n_put C (h.at 0 rfl) vC5 vI5 tyX2 tyX2_ok nmX2 6 (by decide) w1_67 rfl rfl rfl rfl (show (6 : Nat) < 10 by decide) dX2_init_62 ?_
  refine wab (e := .inr (5, [.ref l0, .ref l1, .ref l2, .ref z, .ref s, iv 16, iv 20, iv 0, iv 0, iv 0])) (fun σ' H1 O1 => ?_)
  have h : FC σ0 x [(x, .inr (5, [.ref l0, .ref l1, .ref l2, .ref z, .ref s, iv 16, iv 20, iv 0, iv 0, iv 0])), (l0, .inr (2, [iv 0, .ref g.2.2.1, iv 0])), (l1, .inr (2, [iv 0, .ref g.2.2.1, iv 0])), (l2, .inr (2, [iv 0, .ref g.2.2.1, iv 0])), (z, eZ g.2.1 6 (fun _ => 0)), (s, eI g.2.1 6 (fun _ => 0))] σ' := h.set 0 rfl H1 O1 rfl
  refine n_aload_n C dX2_init_65 rfl ?_
  refine n_bipush (x := 100) C dX2_init_66 (by decide) ?_
  refine n_put C (h.at 0 rfl) vC5 vI5 tyX2 tyX2_ok nmX2 7 (by decide) w1_68 rfl rfl rfl rfl (show (7 : Nat) < 10 by decide) dX2_init_68 ?_
  refine wab (e := .inr (5, [.ref l0, .ref l1, .ref l2, .ref z, .ref s, iv 16, iv 20, iv 100, iv 0, iv 0])) (fun σ' H1 O1 => ?_)
  have h : FC σ0 x [(x, .inr (5, [.ref l0, .ref l1, .ref l2, .ref z, .ref s, iv 16, iv 20, iv 100, iv 0, iv 0])), (l0, .inr (2, [iv 0, .ref g.2.2.1, iv 0])), (l1, .inr (2, [iv 0, .ref g.2.2.1, iv 0])), (l2, .inr (2, [iv 0, .ref g.2.2.1, iv 0])), (z, eZ g.2.1 6 (fun _ => 0)), (s, eI g.2.1 6 (fun _ => 0))] σ' := h.set 0 rfl H1 O1 rfl
  refine n_aload_n C dX2_init_71 rfl ?_
  refine n_iconst (x := 5) C dX2_init_72 ?_
  refine n_put C (h.at 0 rfl) vC5 vI5 tyX2 tyX2_ok nmX2 8 (by decide) w1_69 rfl rfl rfl rfl (show (8 : Nat) < 10 by decide) dX2_init_73 ?_
  refine wab (e := .inr (5, [.ref l0, .ref l1, .ref l2, .ref z, .ref s, iv 16, iv 20, iv 100, iv 5, iv 0])) (fun σ' H1 O1 => ?_)
  have h : FC σ0 x [(x, .inr (5, [.ref l0, .ref l1, .ref l2, .ref z, .ref s, iv 16, iv 20, iv 100, iv 5, iv 0])), (l0, .inr (2, [iv 0, .ref g.2.2.1, iv 0])), (l1, .inr (2, [iv 0, .ref g.2.2.1, iv 0])), (l2, .inr (2, [iv 0, .ref g.2.2.1, iv 0])), (z, eZ g.2.1 6 (fun _ => 0)), (s, eI g.2.1 6 (fun _ => 0))] σ' := h.set 0 rfl H1 O1 rfl
  refine n_aload_n C dX2_init_76 rfl ?_
  refine n_sipush (x := 400) C dX2_init_77 (by decide) ?_
  refine n_put C (h.at 0 rfl) vC5 vI5 tyX2 tyX2_ok nmX2 9 (by decide) w1_70 rfl rfl rfl rfl (show (9 : Nat) < 10 by decide) dX2_init_80 ?_
  refine wab (e := .inr (5, [.ref l0, .ref l1, .ref l2, .ref z, .ref s, iv 16, iv 20, iv 100, iv 5, iv 400])) (fun σ' H1 O1 => ?_)
  have h : FC σ0 x [(x, .inr (5, [.ref l0, .ref l1, .ref l2, .ref z, .ref s, iv 16, iv 20, iv 100, iv 5, iv 400])), (l0, .inr (2, [iv 0, .ref g.2.2.1, iv 0])), (l1, .inr (2, [iv 0, .ref g.2.2.1, iv 0])), (l2, .inr (2, [iv 0, .ref g.2.2.1, iv 0])), (z, eZ g.2.1 6 (fun _ => 0)), (s, eI g.2.1 6 (fun _ => 0))] σ' := h.set 0 rfl H1 O1 rfl
  refine n_iconst (x := 0) C dX2_init_83 ?_
  refine n_istore_n (lv' := [(1, iv 0), (0, .ref x)]) C dX2_init_84 (by rw [hN]; decide) rfl ?_
  have LP : ∀ (fu : Nat) (i : Nat) (σ : Wd) (_ : i ≤ 6) (_ : 6 < fu + i) (h : FC σ0 x [(x, .inr (5, [.ref l0, .ref l1, .ref l2, .ref z, .ref s, iv 16, iv 20, iv 100, iv 5, iv 400])), (l0, .inr (2, [iv 0, .ref g.2.2.1, iv 0])), (l1, .inr (2, [iv 0, .ref g.2.2.1, iv 0])), (l2, .inr (2, [iv 0, .ref g.2.2.1, iv 0])), (z, eZ g.2.1 6 (fun _ => 0)), (s, eI g.2.1 6 (c0T i 18))] σ), N Φ 5 21 σ 85 [(1, iv (i : Int)), (0, .ref x)] [] := by
    intro fu
    induction fu with
    | zero =>
      intro i σ h6 hfu h
      omega
    | succ fu ih =>
      intro i σ h6 hfu h
      refine n_iload_n C dX2_init_85 rfl ?_
      refine n_bipush (x := 6) C dX2_init_86 (by decide) ?_
      refine n_icmp_ge C 104 dX2_init_88 (by decide) (by unfold rg; omega) (by unfold rg; omega) (fun b88 => ?_) (fun b88 => ?_)
      · obtain rfl : i = 6 := by omega
        obtain ⟨A, q1, q2⟩ := fc_done h
        exact n_return C Rr ⟨rfl, A, q1, q2⟩ (by omega) (by omega) dX2_init_104
      · refine n_aload_n C dX2_init_91 rfl ?_
        refine n_get C (h.at 0 rfl) vC5 vI5 4 (by decide) w1_65 rfl rfl dX2_init_92 ?_
        refine n_iload_n C dX2_init_95 rfl ?_
        refine n_iconst (x := (-1)) C dX2_init_96 ?_
        refine n_iast C (h.at 5 rfl) (by omega) (by omega) (by omega) dX2_init_97 ?_
        refine wab (fun σ' H1 O1 => ?_)
        rw [Int.toNat_natCast, c0_upI] at H1
        have h : FC σ0 x [(x, .inr (5, [.ref l0, .ref l1, .ref l2, .ref z, .ref s, iv 16, iv 20, iv 100, iv 5, iv 400])), (l0, .inr (2, [iv 0, .ref g.2.2.1, iv 0])), (l1, .inr (2, [iv 0, .ref g.2.2.1, iv 0])), (l2, .inr (2, [iv 0, .ref g.2.2.1, iv 0])), (z, eZ g.2.1 6 (fun _ => 0)), (s, eI g.2.1 6 (c0T (i + 1) 18))] σ' := h.set 5 rfl H1 O1 rfl
        refine n_iinc (lv' := [(1, iv ((i : Int) + 1)), (0, .ref x)]) C dX2_init_98 rfl (by rw [hN]; decide) rfl ?_
        refine n_goto C 85 dX2_init_101 (by decide) ?_
        have e1 : ((i : Int) + 1) = ((i + 1 : Nat) : Int) := by omega
        rw [e1]
        exact ih (i + 1) σ' (by omega) (by omega) h
  exact LP 7 0 _ (by omega) (by omega) (by rw [c0_row 18 rfl]; exact h)
