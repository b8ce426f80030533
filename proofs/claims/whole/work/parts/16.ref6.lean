section RS6
theorem lookN_ok {c : Tb} {L t : Nat} {M : Tb} (hL : 0 < L) (h6 : c 6 0 ≤ 24) (h : ∀ k : Nat, (k : Int) < c 0 0 → GK c L t (tr c L k t).2 M k) : ∀ n : Nat, (n : Int) ≤ c 0 0 →
    (∀ k : Nat, k < n → GK c L t (tr c L k (t + 1)).2 (lookN c L t M n) k ∧ (lookN c L t M n 21 k ≠ -1 → (tr c L k t).1 ≠ aimOf c k (tr c L k (t + 1)).2)) ∧
    (∀ k : Nat, n ≤ k → (k : Int) < c 0 0 → GK c L t (tr c L k t).2 (lookN c L t M n) k) ∧ (∀ a j, (a < 20 ∨ 24 ≤ a) → lookN c L t M n a j = M a j) ∧
    (∀ q : Nat, (lookN c L t M n 22 q = M 22 q ∨ lookN c L t M n 22 q = t) ∧ (lookN c L t M n 23 q = M 23 q ∨ lookN c L t M n 23 q = t))
  | 0, _ => ⟨fun k hk => absurd hk (Nat.not_lt_zero k), fun k _ hk => h k hk, fun _ _ _ => rfl, fun _ => ⟨Or.inl rfl, Or.inl rfl⟩⟩
  | n + 1, hn => by
    obtain ⟨i1, i2, i3, i4⟩ := lookN_ok hL h6 h n (by omega)
    have g := i2 n (Nat.le_refl n) (by omega)
    have g2 := look2_ok (look1_ok hL h6 g)
    obtain ⟨f1, f2, f3, f4⟩ := lookK_frame hL h6 g
    show (∀ k : Nat, k < n + 1 → GK c L t (tr c L k (t + 1)).2 (lookK c L t n (lookN c L t M n)) k ∧ (lookK c L t n (lookN c L t M n) 21 k ≠ -1 → _)) ∧ (∀ k : Nat, n + 1 ≤ k → (k : Int) < c 0 0 → GK c L t (tr c L k t).2 (lookK c L t n (lookN c L t M n)) k) ∧ (∀ a j, (a < 20 ∨ 24 ≤ a) → lookK c L t n (lookN c L t M n) a j = M a j) ∧ _
    refine ⟨fun k hk => ?_, fun k hk hk2 => ?_, fun a j ha => (f1 a j ha).trans (i3 a j ha), fun q => ⟨?_, ?_⟩⟩
    · by_cases q : k = n
      · subst q
        exact g2
      · obtain ⟨j1, j2⟩ := i1 k (by omega)
        refine ⟨GK_eq j1 (f1 19 k (by omega)) (f2 k q).1 (f2 k q).2 (fun z hz => f3 z (by omega)), fun z => j2 ?_⟩
        rw [(f2 k q).2] at z
        exact z
    · have q : k ≠ n := by omega
      exact GK_eq (i2 k (by omega) hk2) (f1 19 k (by omega)) (f2 k q).1 (f2 k q).2 (fun z hz => f3 z (by omega))
    · rcases (f4 q).1 with z | z
      · rcases (i4 q).1 with y | y
        · exact Or.inl (z.trans y)
        · exact Or.inr (z.trans y)
      · exact Or.inr z
    · rcases (f4 q).2 with z | z
      · rcases (i4 q).2 with y | y
        · exact Or.inl (z.trans y)
        · exact Or.inr (z.trans y)
      · exact Or.inr z
theorem GK_21 {c : Tb} {L t k : Nat} {r : Int} {M : Tb} (h6 : c 6 0 ≤ 24) (h : GK c L t r M k) : -1 ≤ M 21 k ∧ M 21 k < 24 := by
  rcases h.2.2.1 with h3 | ⟨q, h1, h2, -⟩ <;> omega
theorem lpJ_p {c : Tb} {P : Nat → Int} {k : Nat} {a : Int} (h : a ≠ -1) : ∀ n : Nat, lpJ c P k a n = a
  | 0 => rfl
  | n + 1 => by
    unfold lpJ
    rw [lpJ_p h n, if_neg (fun z => h z.1)]
theorem lpK_p {c : Tb} {P : Nat → Int} {a : Int} (h : a ≠ -1) : ∀ n : Nat, lpK c P a n = a
  | 0 => rfl
  | n + 1 => by
    unfold lpK
    rw [lpK_p h n, lpJ_p h]
theorem lpJ_rg {c : Tb} {P : Nat → Int} {k : Nat} {a : Int} (h : -1 ≤ a ∧ a ≤ 100) (hk : k < 6) : ∀ n : Nat, k + n < 8 → -1 ≤ lpJ c P k a n ∧ lpJ c P k a n ≤ 100
  | 0, _ => h
  | n + 1, hn => by
    have := lpJ_rg (c := c) (P := P) h hk n (by omega)
    unfold lpJ
    split <;> omega
theorem lpK_rg {c : Tb} {P : Nat → Int} {a : Int} (h0 : c 0 0 ≤ 6) (h : -1 ≤ a ∧ a ≤ 100) : ∀ n : Nat, n ≤ 6 → -1 ≤ lpK c P a n ∧ lpK c P a n ≤ 100
  | 0, _ => h
  | n + 1, hn => by
    unfold lpK
    exact lpJ_rg (lpK_rg h0 h n (by omega)) (by omega) _ (by omega)
theorem lpJ_congr {c : Tb} {P P' : Nat → Int} {k : Nat} (a : Int) (hk : P k = P' k) : ∀ n : Nat, (∀ j, j < n → P (k + 1 + j) = P' (k + 1 + j)) → lpJ c P k a n = lpJ c P' k a n
  | 0, _ => rfl
  | n + 1, h => by
    unfold lpJ
    rw [lpJ_congr a hk n (fun j hj => h j (by omega))]
    unfold mtB
    rw [hk, h n (by omega)]
theorem lpK_congr {c : Tb} {P P' : Nat → Int} (a : Int) (h : ∀ k : Nat, (k : Int) < c 0 0 → P k = P' k) : ∀ n : Nat, (n : Int) ≤ c 0 0 → lpK c P a n = lpK c P' a n
  | 0, _ => rfl
  | n + 1, hn => by
    unfold lpK
    rw [lpK_congr a h n (by omega), lpJ_congr _ (h n (by omega)) _ (fun j hj => h _ (by omega))]
end RS6
set_option maxRecDepth 100000 in
set_option maxHeartbeats 4000000 in
theorem c_looks {g : Gx} (hst : g.1.stackTraces = false) {o : Nat} {ar : Nat → Nat} {β : Wd} {M c : Tb} (I : RI o ar) {σ : Wd} (hM : MW g.2.1 o ar β M σ) (hc : cut M = c) (hw : WF c) {t L : Nat} (hL : 1 ≤ L) (hL2 : L ≤ 80) (ht : t ≤ 2400) (hdI : (0 : Int) ≤ ((t / L : Nat) : Int) ∧ ((t / L : Nat) : Int) ≤ 30) (hG : ∀ k : Nat, (k : Int) < c 0 0 → GK c L t (tr c L k t).2 M k) : CT g yX3_looks cX3_looks 5 none 1 0 0 [.ref o, iv (t : Int), iv (L : Int)] σ (fun r σ' => ∃ M', r = none ∧ MW g.2.1 o ar β M' σ' ∧ cut M' = c ∧ M' = lookN c L t M (c 0 0).toNat) (fun _ _ => False) := by
  refine CT.of hst (by decide +kernel) (Nat.le_of_ble_eq_true rfl) (fun Φ C Rr hY hN => ?_)
  show N Φ 0 0 σ 0 [(0, .ref o), (1, iv (t : Int)), (2, iv (L : Int))] []
  obtain ⟨w0, w6, w12, w13, w14, w15, w16, wm, wq, ww⟩ := id hw
  refine n_iconst (x := 0) C dX3_looks_0 ?_
  refine n_istore_n (lv' := [(3, iv 0), (0, .ref o), (1, iv (t : Int)), (2, iv (L : Int))]) C dX3_looks_1 (by rw [hN]; decide) rfl ?_
  have LP : ∀ (fu : Nat) (k : Nat) (σ : Wd) (M1 : Tb) (hM : MW g.2.1 o ar β M1 σ) (hc : cut M1 = c) (hM1 : M1 = lookN c L t M k) (h1 : k ≤ c 0 0) (h2 : c 0 0 + 1 ≤ k + fu), N Φ 0 0 σ 2 [(3, iv (k : Int)), (0, .ref o), (1, iv (t : Int)), (2, iv (L : Int))] [] := by
    intro fu
    induction fu with
    | zero =>
      intro k σ M1 hM hc hM1 h1 h2
      omega
    | succ fu ih =>
      intro k σ M1 hM hc hM1 h1 h2
      obtain ⟨i1, i2, i3, i4⟩ := lookN_ok hL w6.2 hG k h1
      rw [← hM1] at i1 i2 i3 i4
      refine n_iload_n C dX3_looks_2 rfl ?_
      refine n_aload_n C dX3_looks_3 rfl ?_
      refine r_getc C hM hc 0 (by decide) w4_128 rfl rfl dX3_looks_4 ?_
      refine n_icmp_ge C 137 dX3_looks_7 (by decide) (by unfold rg; omega) (by unfold rg; omega) (fun b7 => ?_) (fun b7 => ?_)
      · exact n_return C Rr ⟨_, rfl, hM, hc, by rw [hM1, show (c 0 0).toNat = k by omega]⟩ (by omega) (by omega) dX3_looks_137
      · have gk := i2 k (Nat.le_refl k) (by omega)
        have g21 := GK_21 w6.2 gk
        have g1 := look1_ok (Nat.lt_of_lt_of_le (Nat.zero_lt_one) hL) w6.2 gk
        have g121 := GK_21 w6.2 g1
        have gq := tr_rg hw L k t
        have q19 : 0 ≤ M1 19 k ∧ M1 19 k ≤ 359 := by rw [gk.1]; exact gq
        have J87 : ∀ (σ : Wd) (hM : MW g.2.1 o ar β (look1 c L t k M1) σ) (hc : cut (look1 c L t k M1) = c), N Φ 0 0 σ 87 [(3, iv (k : Int)), (0, .ref o), (1, iv (t : Int)), (2, iv (L : Int))] [] := by
          intro σ hM hc
          have q19b : look1 c L t k M1 19 k = M1 19 k := by rw [g1.1, gk.1]
          have q20 := aim_rg hw (i := k) (r := (tr c L k (t + 1)).2)
          rw [← g1.2.1] at q20
          rw [← q19b] at q19
          obtain ⟨M2, hM2⟩ : ∃ z, z = look1 c L t k M1 := ⟨_, rfl⟩
          rw [← hM2] at hM hc q19 q20 g121 q19b
          refine n_aload_n C dX3_looks_87 rfl ?_
          refine r_get C hM 21 (by decide) w4_149 rfl rfl dX3_looks_88 ?_
          refine n_iload_n C dX3_looks_91 rfl ?_
          refine r_iald C hM 21 rfl rfl k rfl (show _ < 6 by omega) dX3_looks_92 ?_
          refine n_iconst (x := (-1)) C dX3_looks_93 ?_
          refine n_icmp_eq C 131 dX3_looks_94 (by decide) (by unfold rg; omega) (by unfold rg; omega) (fun b94 => ?_) (fun b94 => ?_)
          · refine n_iinc (lv' := [(3, iv ((k : Int) + 1)), (0, .ref o), (1, iv (t : Int)), (2, iv (L : Int))]) C dX3_looks_131 rfl (by rw [hN]; decide) rfl ?_
            refine n_goto C 2 dX3_looks_134 (by decide) ?_
            refine n_keep (lv' := [(3, iv ((k : Int) + 1)), (0, .ref o), (1, iv (t : Int)), (2, iv (L : Int))]) [3, 0, 1, 2] rfl ?_
            exact ih (k + 1) _ _ hM hc (by show _ = lookK c L t k (lookN c L t M k); rw [← hM1]; unfold lookK; rw [← hM2]; unfold look2; rw [if_neg (by omega)]) (by omega) (by omega)
          · refine n_aload_n C dX3_looks_97 rfl ?_
            refine r_get C hM 19 (by decide) w4_147 rfl rfl dX3_looks_98 ?_
            refine n_iload_n C dX3_looks_101 rfl ?_
            refine r_iald C hM 19 rfl rfl k rfl (show _ < 6 by omega) dX3_looks_102 ?_
            refine n_aload_n C dX3_looks_103 rfl ?_
            refine r_get C hM 20 (by decide) w4_148 rfl rfl dX3_looks_104 ?_
            refine n_iload_n C dX3_looks_107 rfl ?_
            refine r_iald C hM 20 rfl rfl k rfl (show _ < 6 by omega) dX3_looks_108 ?_
            refine n_icmp_ne C 131 dX3_looks_109 (by decide) (by unfold rg; omega) (by unfold rg; omega) (fun b109 => ?_) (fun b109 => ?_)
            · refine n_iinc (lv' := [(3, iv ((k : Int) + 1)), (0, .ref o), (1, iv (t : Int)), (2, iv (L : Int))]) C dX3_looks_131 rfl (by rw [hN]; decide) rfl ?_
              refine n_goto C 2 dX3_looks_134 (by decide) ?_
              refine n_keep (lv' := [(3, iv ((k : Int) + 1)), (0, .ref o), (1, iv (t : Int)), (2, iv (L : Int))]) [3, 0, 1, 2] rfl ?_
              exact ih (k + 1) _ _ hM hc (by show _ = lookK c L t k (lookN c L t M k); rw [← hM1]; unfold lookK; rw [← hM2]; unfold look2; rw [if_neg (by omega)]) (by omega) (by omega)
            · refine n_aload_n C dX3_looks_112 rfl ?_
              refine r_get C hM 23 (by decide) w4_151 rfl rfl dX3_looks_113 ?_
              refine n_aload_n C dX3_looks_116 rfl ?_
              refine r_get C hM 21 (by decide) w4_149 rfl rfl dX3_looks_117 ?_
              refine n_iload_n C dX3_looks_120 rfl ?_
              refine r_iald C hM 21 rfl rfl k rfl (show _ < 6 by omega) dX3_looks_121 ?_
              refine n_iload_n C dX3_looks_122 rfl ?_
              refine r_iast C I hM 23 rfl rfl (((M2 21 k)).toNat) (by omega) (show _ < 24 by omega) dX3_looks_123 (fun σ hM => ?_)
              replace hc : cut (tu M2 23 (((M2 21 k)).toNat) (t : Int)) = c := (cut_tu (by decide)).trans hc
              refine n_aload_n C dX3_looks_124 rfl ?_
              refine r_get C hM 21 (by decide) w4_149 rfl rfl dX3_looks_125 ?_
              refine n_iload_n C dX3_looks_128 rfl ?_
              refine n_iconst (x := (-1)) C dX3_looks_129 ?_
              refine r_iast C I hM 21 rfl rfl k rfl (show _ < 6 by omega) dX3_looks_130 (fun σ hM => ?_)
              replace hc : cut (tu (tu M2 23 (((M2 21 k)).toNat) (t : Int)) 21 k (-1)) = c := (cut_tu (by decide)).trans hc
              refine n_iinc (lv' := [(3, iv ((k : Int) + 1)), (0, .ref o), (1, iv (t : Int)), (2, iv (L : Int))]) C dX3_looks_131 rfl (by rw [hN]; decide) rfl ?_
              refine n_goto C 2 dX3_looks_134 (by decide) ?_
              refine n_keep (lv' := [(3, iv ((k : Int) + 1)), (0, .ref o), (1, iv (t : Int)), (2, iv (L : Int))]) [3, 0, 1, 2] rfl ?_
              exact ih (k + 1) _ _ hM hc (by show _ = lookK c L t k (lookN c L t M k); rw [← hM1]; unfold lookK; rw [← hM2]; unfold look2; rw [if_pos ⟨by omega, by omega⟩]) (by omega) (by omega)
        have J30 : ∀ (e : Int) (he : e = lookE c L t k) (hr : -1 ≤ e ∧ e < 24), N Φ 0 0 σ 30 [(4, iv e), (3, iv (k : Int)), (0, .ref o), (1, iv (t : Int)), (2, iv (L : Int))] [] := by
          intro e he hr
          refine n_iload C dX3_looks_30 rfl ?_
          refine n_iconst (x := (-1)) C dX3_looks_32 ?_
          refine n_icmp_eq C 87 dX3_looks_33 (by decide) (by unfold rg; omega) (by unfold rg; omega) (fun b33 => ?_) (fun b33 => ?_)
          · have e1 : look1 c L t k M1 = M1 := by unfold look1; rw [if_pos (by omega)]
            refine n_keep (lv' := [(3, iv (k : Int)), (0, .ref o), (1, iv (t : Int)), (2, iv (L : Int))]) [3, 0, 1, 2] rfl ?_
            exact J87 _ (by rw [e1]; exact hM) (by rw [e1]; exact hc)
          · obtain ⟨en, hen, en1, en2, en3, en4⟩ : ∃ q : Nat, e = q ∧ (q : Int) < c 6 0 ∧ c 11 q = 0 ∧ c 8 q = k ∧ c 7 q * L = t := by
              rcases lookE_q (c := c) (t := t) (k := k) (Nat.lt_of_lt_of_le (Nat.zero_lt_one) hL) w6.2 with h | ⟨q, h1, h2⟩
              · exact absurd (he.trans h) b33
              · exact ⟨q, he.trans h1, h2⟩
            subst hen
            have we := wq en
            refine n_aload_n C dX3_looks_36 rfl ?_
            refine r_get C hM 21 (by decide) w4_149 rfl rfl dX3_looks_37 ?_
            refine n_iload_n C dX3_looks_40 rfl ?_
            refine r_iald C hM 21 rfl rfl k rfl (show _ < 6 by omega) dX3_looks_41 ?_
            refine n_iconst (x := (-1)) C dX3_looks_42 ?_
            refine n_icmp_eq C 58 dX3_looks_43 (by decide) (by unfold rg; omega) (by unfold rg; omega) (fun b43 => ?_) (fun b43 => ?_)
            · refine n_aload_n C dX3_looks_58 rfl ?_
              refine r_get C hM 22 (by decide) w4_150 rfl rfl dX3_looks_59 ?_
              refine n_iload C dX3_looks_62 rfl ?_
              refine n_iload_n C dX3_looks_64 rfl ?_
              refine r_iast C I hM 22 rfl rfl en rfl (show _ < 24 by omega) dX3_looks_65 (fun σ hM => ?_)
              replace hc : cut (tu M1 22 en (t : Int)) = c := (cut_tu (by decide)).trans hc
              refine n_aload_n C dX3_looks_66 rfl ?_
              refine r_get C hM 21 (by decide) w4_149 rfl rfl dX3_looks_67 ?_
              refine n_iload_n C dX3_looks_70 rfl ?_
              refine n_iload C dX3_looks_71 rfl ?_
              refine r_iast C I hM 21 rfl rfl k rfl (show _ < 6 by omega) dX3_looks_73 (fun σ hM => ?_)
              replace hc : cut (tu (tu M1 22 en (t : Int)) 21 k (en : Int)) = c := (cut_tu (by decide)).trans hc
              refine n_aload_n C dX3_looks_74 rfl ?_
              refine r_get C hM 20 (by decide) w4_148 rfl rfl dX3_looks_75 ?_
              refine n_iload_n C dX3_looks_78 rfl ?_
              refine n_aload_n C dX3_looks_79 rfl ?_
              refine r_get C hM 9 (by decide) w4_137 rfl rfl dX3_looks_80 ?_
              refine n_iload C dX3_looks_83 rfl ?_
              refine r_ialdc C hM hc 9 (by decide) rfl rfl en rfl (show _ < 24 by omega) dX3_looks_85 ?_
              refine r_iast C I hM 20 rfl rfl k rfl (show _ < 6 by omega) dX3_looks_86 (fun σ hM => ?_)
              replace hc : cut (tu (tu (tu M1 22 en (t : Int)) 21 k (en : Int)) 20 k (c 9 en)) = c := (cut_tu (by decide)).trans hc
              refine n_keep (lv' := [(3, iv (k : Int)), (0, .ref o), (1, iv (t : Int)), (2, iv (L : Int))]) [3, 0, 1, 2] rfl ?_
              have e1 : look1 c L t k M1 = (tu (tu (tu M1 22 en (t : Int)) 21 k (en : Int)) 20 k (c 9 en)) := by unfold look1; rw [if_neg (by omega), ← he, Int.toNat_natCast, if_pos (by omega)]
              exact J87 _ (by rw [e1]; exact hM) (by rw [e1]; exact hc)
            · refine n_aload_n C dX3_looks_46 rfl ?_
              refine r_get C hM 23 (by decide) w4_151 rfl rfl dX3_looks_47 ?_
              refine n_aload_n C dX3_looks_50 rfl ?_
              refine r_get C hM 21 (by decide) w4_149 rfl rfl dX3_looks_51 ?_
              refine n_iload_n C dX3_looks_54 rfl ?_
              refine r_iald C hM 21 rfl rfl k rfl (show _ < 6 by omega) dX3_looks_55 ?_
              refine n_iload_n C dX3_looks_56 rfl ?_
              refine r_iast C I hM 23 rfl rfl (((M1 21 k)).toNat) (by omega) (show _ < 24 by omega) dX3_looks_57 (fun σ hM => ?_)
              replace hc : cut (tu M1 23 (((M1 21 k)).toNat) (t : Int)) = c := (cut_tu (by decide)).trans hc
              refine n_aload_n C dX3_looks_58 rfl ?_
              refine r_get C hM 22 (by decide) w4_150 rfl rfl dX3_looks_59 ?_
              refine n_iload C dX3_looks_62 rfl ?_
              refine n_iload_n C dX3_looks_64 rfl ?_
              refine r_iast C I hM 22 rfl rfl en rfl (show _ < 24 by omega) dX3_looks_65 (fun σ hM => ?_)
              replace hc : cut (tu (tu M1 23 (((M1 21 k)).toNat) (t : Int)) 22 en (t : Int)) = c := (cut_tu (by decide)).trans hc
              refine n_aload_n C dX3_looks_66 rfl ?_
              refine r_get C hM 21 (by decide) w4_149 rfl rfl dX3_looks_67 ?_
              refine n_iload_n C dX3_looks_70 rfl ?_
              refine n_iload C dX3_looks_71 rfl ?_
              refine r_iast C I hM 21 rfl rfl k rfl (show _ < 6 by omega) dX3_looks_73 (fun σ hM => ?_)
              replace hc : cut (tu (tu (tu M1 23 (((M1 21 k)).toNat) (t : Int)) 22 en (t : Int)) 21 k (en : Int)) = c := (cut_tu (by decide)).trans hc
              refine n_aload_n C dX3_looks_74 rfl ?_
              refine r_get C hM 20 (by decide) w4_148 rfl rfl dX3_looks_75 ?_
              refine n_iload_n C dX3_looks_78 rfl ?_
              refine n_aload_n C dX3_looks_79 rfl ?_
              refine r_get C hM 9 (by decide) w4_137 rfl rfl dX3_looks_80 ?_
              refine n_iload C dX3_looks_83 rfl ?_
              refine r_ialdc C hM hc 9 (by decide) rfl rfl en rfl (show _ < 24 by omega) dX3_looks_85 ?_
              refine r_iast C I hM 20 rfl rfl k rfl (show _ < 6 by omega) dX3_looks_86 (fun σ hM => ?_)
              replace hc : cut (tu (tu (tu (tu M1 23 (((M1 21 k)).toNat) (t : Int)) 22 en (t : Int)) 21 k (en : Int)) 20 k (c 9 en)) = c := (cut_tu (by decide)).trans hc
              refine n_keep (lv' := [(3, iv (k : Int)), (0, .ref o), (1, iv (t : Int)), (2, iv (L : Int))]) [3, 0, 1, 2] rfl ?_
              have e1 : look1 c L t k M1 = (tu (tu (tu (tu M1 23 (((M1 21 k)).toNat) (t : Int)) 22 en (t : Int)) 21 k (en : Int)) 20 k (c 9 en)) := by unfold look1; rw [if_neg (by omega), ← he, Int.toNat_natCast, if_neg (by omega)]
              exact J87 _ (by rw [e1]; exact hM) (by rw [e1]; exact hc)
        refine n_iload_n C dX3_looks_10 rfl ?_
        refine n_iload_n C dX3_looks_11 rfl ?_
        refine n_iremP C dX3_looks_12 (by unfold rg; omega) (by unfold rg; omega) (by omega) (by omega) ?_
        have hm0 : ((t : Int) % (L : Int)) = ((t % L : Nat) : Int) := rfl
        have hm1 : t % L < L := Nat.mod_lt _ (by omega)
        rw [hm0]
        have er : -1 ≤ lookE c L t k ∧ lookE c L t k < 24 := by
          rcases lookE_q (c := c) (t := t) (k := k) (Nat.lt_of_lt_of_le (Nat.zero_lt_one) hL) w6.2 with h | ⟨q, h1, h2, -⟩ <;> omega
        refine n_if_ne C 27 dX3_looks_13 (by decide) (by unfold rg; omega) (fun b13 => ?_) (fun b13 => ?_)
        · have hm : ¬ t % L = 0 := by omega
          have e0 : lookE c L t k = -1 := by unfold lookE; rw [if_neg hm]
          refine n_iconst (x := (-1)) C dX3_looks_27 ?_
          refine n_istore (lv' := [(4, iv (-1)), (3, iv (k : Int)), (0, .ref o), (1, iv (t : Int)), (2, iv (L : Int))]) C dX3_looks_28 (by rw [hN]; decide) rfl ?_
          refine n_keep (lv' := [(4, iv (-1)), (3, iv (k : Int)), (0, .ref o), (1, iv (t : Int)), (2, iv (L : Int))]) [4, 3, 0, 1, 2] rfl ?_
          exact J30 _ e0.symm (by omega)
        · have hm : t % L = 0 := by omega
          have e0 : lookE c L t k = eff c k (t / L : Nat) := by unfold lookE; rw [if_pos hm]
          refine n_aload_n C dX3_looks_16 rfl ?_
          refine n_iload_n C dX3_looks_17 rfl ?_
          refine n_iload_n C dX3_looks_18 rfl ?_
          refine n_iload_n C dX3_looks_19 rfl ?_
          refine n_idivP C dX3_looks_20 (by unfold rg; omega) (by unfold rg; omega) (by omega) (by omega) ?_
          refine n_invV C (c_effect (b := ((t / L : Nat) : Int)) hst (by omega) hdI I hM hc hw) ⟨w5_52, w5_55, w1_5, ⟨by decide, by decide⟩, by show _ = some 2; decide +kernel, by decide⟩ w5_54 wp_30 hM.1 (show vwCl[6]? = some ("OperaMachinesModel", TX3, 27) from rfl) (by decide) (by omega) (by omega) (Nat.le_of_ble_eq_true rfl) rfl dX3_looks_21 (fun r σ' h => ?_) (fun _ _ h => h.elim)
          obtain ⟨rfl, rfl⟩ := h
          refine n_goto C 28 dX3_looks_24 (by decide) ?_
          refine n_istore (lv' := [(4, iv (eff c k (t / L : Nat))), (3, iv (k : Int)), (0, .ref o), (1, iv (t : Int)), (2, iv (L : Int))]) C dX3_looks_28 (by rw [hN]; decide) rfl ?_
          refine n_keep (lv' := [(4, iv (eff c k (t / L : Nat))), (3, iv (k : Int)), (0, .ref o), (1, iv (t : Int)), (2, iv (L : Int))]) [4, 3, 0, 1, 2] rfl ?_
          exact J30 _ e0.symm (by omega)
  exact LP 7 0 _ _ hM hc rfl (by omega) (by omega)
set_option maxRecDepth 100000 in
set_option maxHeartbeats 4000000 in
theorem c_meetsAt {g : Gx} (hst : g.1.stackTraces = false) {o : Nat} {ar : Nat → Nat} {β : Wd} {M c : Tb} (I : RI o ar) {σ : Wd} (hM : MW g.2.1 o ar β M σ) (hc : cut M = c) (hw : WF c) {t : Nat} (ht : t ≤ 2400) (hp : -1 ≤ M 25 0 ∧ M 25 0 ≤ 100) (hP : ∀ k : Nat, (k : Int) < c 0 0 → 0 ≤ M 19 k ∧ M 19 k ≤ 359) : CT g yX3_meetsAt cX3_meetsAt 5 none 0 0 0 [.ref o, iv (t : Int)] σ (fun r σ' => ∃ M', r = none ∧ MW g.2.1 o ar β M' σ' ∧ cut M' = c ∧ (∀ a j, a ≠ 24 → a ≠ 25 → M' a j = M a j) ∧ M' 25 0 = lpK c (M 19) (M 25 0) (c 0 0).toNat ∧ M' 24 0 = if M 25 0 = -1 ∧ lpK c (M 19) (M 25 0) (c 0 0).toNat ≠ -1 then (t : Int) else M 24 0) (fun _ _ => False) := by
  refine CT.of hst (by decide +kernel) (Nat.le_of_ble_eq_true rfl) (fun Φ C Rr hY hN => ?_)
  show N Φ 0 0 σ 0 [(0, .ref o), (1, iv (t : Int))] []
  obtain ⟨w0, w6, w12, w13, w14, w15, w16, wm, wq, ww⟩ := id hw
  refine n_iconst (x := 0) C dX3_meetsAt_0 ?_
  refine n_istore_n (lv' := [(2, iv 0), (0, .ref o), (1, iv (t : Int))]) C dX3_meetsAt_1 (by rw [hN]; decide) rfl ?_
  have LP : ∀ (fu : Nat) (k : Nat) (σ : Wd) (M1 : Tb) (hM : MW g.2.1 o ar β M1 σ) (hc : cut M1 = c) (hs : ∀ a j, a ≠ 24 → a ≠ 25 → M1 a j = M a j) (h25 : M1 25 0 = lpK c (M 19) (M 25 0) k) (h24 : M1 24 0 = if M 25 0 = -1 ∧ lpK c (M 19) (M 25 0) k ≠ -1 then (t : Int) else M 24 0) (h1 : k ≤ c 0 0) (h2 : c 0 0 + 1 ≤ k + fu), N Φ 0 0 σ 2 [(2, iv (k : Int)), (0, .ref o), (1, iv (t : Int))] [] := by
    intro fu
    induction fu with
    | zero =>
      intro k σ M1 hM hc hs h25 h24 h1 h2
      omega
    | succ fu ih =>
      intro k σ M1 hM hc hs h25 h24 h1 h2
      have r0 := lpK_rg (c := c) (P := M 19) (a := M 25 0) w0.2 hp k (by omega)
      refine n_iload_n C dX3_meetsAt_2 rfl ?_
      refine n_aload_n C dX3_meetsAt_3 rfl ?_
      refine r_getc C hM hc 0 (by decide) w4_128 rfl rfl dX3_meetsAt_4 ?_
      refine n_icmp_ge C 156 dX3_meetsAt_7 (by decide) (by unfold rg; omega) (by unfold rg; omega) (fun b7 => ?_) (fun b7 => ?_)
      · exact n_return C Rr ⟨_, rfl, hM, hc, hs, by rw [h25, show (c 0 0).toNat = k by omega], by rw [h24, show (c 0 0).toNat = k by omega]⟩ (by omega) (by omega) dX3_meetsAt_156
      · have wk := wm k
        have pk := hP k (by omega)
        refine n_iload_n C dX3_meetsAt_10 rfl ?_
        refine n_iconst (x := 1) C dX3_meetsAt_11 ?_
        refine n_iadd C dX3_meetsAt_12 ?_
        refine n_istore_n (lv' := [(3, iv ((k : Int) + 1)), (2, iv (k : Int)), (0, .ref o), (1, iv (t : Int))]) C dX3_meetsAt_13 (by rw [hN]; decide) rfl ?_
        have LP2 : ∀ (fu2 : Nat) (n : Nat) (σ : Wd) (M1 : Tb) (hM : MW g.2.1 o ar β M1 σ) (hc : cut M1 = c) (hs : ∀ a j, a ≠ 24 → a ≠ 25 → M1 a j = M a j) (g25 : M1 25 0 = lpJ c (M 19) k (lpK c (M 19) (M 25 0) k) n) (g24 : M1 24 0 = if M 25 0 = -1 ∧ lpJ c (M 19) k (lpK c (M 19) (M 25 0) k) n ≠ -1 then (t : Int) else M 24 0) (n1 : k + 1 + n ≤ c 0 0) (n2 : c 0 0 + 1 ≤ k + 1 + n + fu2), N Φ 0 0 σ 14 [(3, iv ((k + 1 + n : Nat) : Int)), (2, iv (k : Int)), (0, .ref o), (1, iv (t : Int))] [] := by
          intro fu2
          induction fu2 with
          | zero =>
            intro n σ M1 hM hc hs g25 g24 n1 n2
            omega
          | succ fu2 ih2 =>
            intro n σ M1 hM hc hs g25 g24 n1 n2
            have r1 := lpJ_rg (c := c) (P := M 19) (k := k) (a := lpK c (M 19) (M 25 0) k) r0 (by omega) n (by omega)
            refine n_iload_n C dX3_meetsAt_14 rfl ?_
            refine n_aload_n C dX3_meetsAt_15 rfl ?_
            refine r_getc C hM hc 0 (by decide) w4_128 rfl rfl dX3_meetsAt_16 ?_
            refine n_icmp_ge C 150 dX3_meetsAt_19 (by decide) (by unfold rg; omega) (by unfold rg; omega) (fun b19 => ?_) (fun b19 => ?_)
            · refine n_iinc (lv' := [(2, iv ((k : Int) + 1)), (3, iv ((k + 1 + n : Nat) : Int)), (0, .ref o), (1, iv (t : Int))]) C dX3_meetsAt_150 rfl (by rw [hN]; decide) rfl ?_
              refine n_goto C 2 dX3_meetsAt_153 (by decide) ?_
              refine n_keep (lv' := [(2, iv ((k : Int) + 1)), (0, .ref o), (1, iv (t : Int))]) [2, 0, 1] rfl ?_
              have hn2 : n = (c 0 0).toNat - (k + 1) := by omega
              exact ih (k + 1) _ _ hM hc hs (by unfold lpK; rw [← hn2]; exact g25) (by unfold lpK; rw [← hn2]; exact g24) (by omega) (by omega)
            · have wj := wm (k + 1 + n)
              have pj := hP (k + 1 + n) (by omega)
              have a1 : M1 19 k = M 19 k := hs _ _ (by decide) (by decide)
              have a2 : M1 19 (k + 1 + n) = M 19 (k + 1 + n) := hs _ _ (by decide) (by decide)
              have a3 := wm k
              have J66 : ∀ (f : Int) (hf : f = if M 19 k < M 19 (k + 1 + n) then M 19 (k + 1 + n) - M 19 k else M 19 k - M 19 (k + 1 + n)) (hf2 : 0 ≤ f ∧ f ≤ 359), N Φ 0 0 σ 66 [(3, iv ((k + 1 + n : Nat) : Int)), (2, iv (k : Int)), (0, .ref o), (1, iv (t : Int))] [iv f] := by
                intro f hf hf2
                refine n_istore (lv' := [(4, iv f), (3, iv ((k + 1 + n : Nat) : Int)), (2, iv (k : Int)), (0, .ref o), (1, iv (t : Int))]) C dX3_meetsAt_66 (by rw [hN]; decide) rfl ?_
                refine n_aload_n C dX3_meetsAt_68 rfl ?_
                refine r_get C hM 25 (by decide) w4_153 rfl rfl dX3_meetsAt_69 ?_
                refine n_iconst (x := (-1)) C dX3_meetsAt_72 ?_
                refine n_icmp_ne C 144 dX3_meetsAt_73 (by decide) (by unfold rg; omega) (by unfold rg; omega) (fun b73 => ?_) (fun b73 => ?_)
                · refine n_iinc (lv' := [(3, iv (((k + 1 + n : Nat) : Int) + 1)), (4, iv f), (2, iv (k : Int)), (0, .ref o), (1, iv (t : Int))]) C dX3_meetsAt_144 rfl (by rw [hN]; decide) rfl ?_
                  refine n_goto C 14 dX3_meetsAt_147 (by decide) ?_
                  refine n_keep (lv' := [(3, iv (((k + 1 + n : Nat) : Int) + 1)), (2, iv (k : Int)), (0, .ref o), (1, iv (t : Int))]) [3, 2, 0, 1] rfl ?_
                  have e1 : lpJ c (M 19) k (lpK c (M 19) (M 25 0) k) (n + 1) = lpJ c (M 19) k (lpK c (M 19) (M 25 0) k) n := by
                    show (if _ then _ else _) = _
                    rw [if_neg (by rw [← g25]; unfold mtB; omega)]
                  exact ih2 (n + 1) _ _ hM hc hs (by rw [e1]; exact g25) (by rw [e1]; exact g24) (by omega) (by omega)
                · refine n_aload_n C dX3_meetsAt_76 rfl ?_
                  refine r_get C hM 1 (by decide) w4_129 rfl rfl dX3_meetsAt_77 ?_
                  refine n_iload_n C dX3_meetsAt_80 rfl ?_
                  refine r_zaldc C hM hc 1 (by decide) rfl rfl k rfl (show _ < 6 by omega) dX3_meetsAt_81 ?_
                  refine n_if_ne C 144 dX3_meetsAt_82 (by decide) (by unfold rg; omega) (fun b82 => ?_) (fun b82 => ?_)
                  · refine n_iinc (lv' := [(3, iv (((k + 1 + n : Nat) : Int) + 1)), (4, iv f), (2, iv (k : Int)), (0, .ref o), (1, iv (t : Int))]) C dX3_meetsAt_144 rfl (by rw [hN]; decide) rfl ?_
                    refine n_goto C 14 dX3_meetsAt_147 (by decide) ?_
                    refine n_keep (lv' := [(3, iv (((k + 1 + n : Nat) : Int) + 1)), (2, iv (k : Int)), (0, .ref o), (1, iv (t : Int))]) [3, 2, 0, 1] rfl ?_
                    have e1 : lpJ c (M 19) k (lpK c (M 19) (M 25 0) k) (n + 1) = lpJ c (M 19) k (lpK c (M 19) (M 25 0) k) n := by
                      show (if _ then _ else _) = _
                      rw [if_neg (by rw [← g25]; unfold mtB; omega)]
                    exact ih2 (n + 1) _ _ hM hc hs (by rw [e1]; exact g25) (by rw [e1]; exact g24) (by omega) (by omega)
                  · refine n_aload_n C dX3_meetsAt_85 rfl ?_
                    refine r_get C hM 1 (by decide) w4_129 rfl rfl dX3_meetsAt_86 ?_
                    refine n_iload_n C dX3_meetsAt_89 rfl ?_
                    refine r_zaldc C hM hc 1 (by decide) rfl rfl (k + 1 + n : Nat) rfl (show _ < 6 by omega) dX3_meetsAt_90 ?_
                    refine n_if_ne C 144 dX3_meetsAt_91 (by decide) (by unfold rg; omega) (fun b91 => ?_) (fun b91 => ?_)
                    · refine n_iinc (lv' := [(3, iv (((k + 1 + n : Nat) : Int) + 1)), (4, iv f), (2, iv (k : Int)), (0, .ref o), (1, iv (t : Int))]) C dX3_meetsAt_144 rfl (by rw [hN]; decide) rfl ?_
                      refine n_goto C 14 dX3_meetsAt_147 (by decide) ?_
                      refine n_keep (lv' := [(3, iv (((k + 1 + n : Nat) : Int) + 1)), (2, iv (k : Int)), (0, .ref o), (1, iv (t : Int))]) [3, 2, 0, 1] rfl ?_
                      have e1 : lpJ c (M 19) k (lpK c (M 19) (M 25 0) k) (n + 1) = lpJ c (M 19) k (lpK c (M 19) (M 25 0) k) n := by
                        show (if _ then _ else _) = _
                        rw [if_neg (by rw [← g25]; unfold mtB; omega)]
                      exact ih2 (n + 1) _ _ hM hc hs (by rw [e1]; exact g25) (by rw [e1]; exact g24) (by omega) (by omega)
                    · refine n_aload_n C dX3_meetsAt_94 rfl ?_
                      refine r_get C hM 2 (by decide) w4_130 rfl rfl dX3_meetsAt_95 ?_
                      refine n_iload_n C dX3_meetsAt_98 rfl ?_
                      refine r_ialdc C hM hc 2 (by decide) rfl rfl k rfl (show _ < 6 by omega) dX3_meetsAt_99 ?_
                      refine n_aload_n C dX3_meetsAt_100 rfl ?_
                      refine r_get C hM 2 (by decide) w4_130 rfl rfl dX3_meetsAt_101 ?_
                      refine n_iload_n C dX3_meetsAt_104 rfl ?_
                      refine r_ialdc C hM hc 2 (by decide) rfl rfl (k + 1 + n : Nat) rfl (show _ < 6 by omega) dX3_meetsAt_105 ?_
                      refine n_icmp_ne C 144 dX3_meetsAt_106 (by decide) (by unfold rg; omega) (by unfold rg; omega) (fun b106 => ?_) (fun b106 => ?_)
                      · refine n_iinc (lv' := [(3, iv (((k + 1 + n : Nat) : Int) + 1)), (4, iv f), (2, iv (k : Int)), (0, .ref o), (1, iv (t : Int))]) C dX3_meetsAt_144 rfl (by rw [hN]; decide) rfl ?_
                        refine n_goto C 14 dX3_meetsAt_147 (by decide) ?_
                        refine n_keep (lv' := [(3, iv (((k + 1 + n : Nat) : Int) + 1)), (2, iv (k : Int)), (0, .ref o), (1, iv (t : Int))]) [3, 2, 0, 1] rfl ?_
                        have e1 : lpJ c (M 19) k (lpK c (M 19) (M 25 0) k) (n + 1) = lpJ c (M 19) k (lpK c (M 19) (M 25 0) k) n := by
                          show (if _ then _ else _) = _
                          rw [if_neg (by rw [← g25]; unfold mtB; omega)]
                        exact ih2 (n + 1) _ _ hM hc hs (by rw [e1]; exact g25) (by rw [e1]; exact g24) (by omega) (by omega)
                      · refine n_iconst (x := 2) C dX3_meetsAt_109 ?_
                        refine n_iload C dX3_meetsAt_110 rfl ?_
                        refine n_imul C dX3_meetsAt_112 ?_
                        refine n_aload_n C dX3_meetsAt_113 rfl ?_
                        refine r_get C hM 3 (by decide) w4_131 rfl rfl dX3_meetsAt_114 ?_
                        refine n_iload_n C dX3_meetsAt_117 rfl ?_
                        refine r_ialdc C hM hc 3 (by decide) rfl rfl k rfl (show _ < 6 by omega) dX3_meetsAt_118 ?_
                        refine n_aload_n C dX3_meetsAt_119 rfl ?_
                        refine r_get C hM 3 (by decide) w4_131 rfl rfl dX3_meetsAt_120 ?_
                        refine n_iload_n C dX3_meetsAt_123 rfl ?_
                        refine r_ialdc C hM hc 3 (by decide) rfl rfl (k + 1 + n : Nat) rfl (show _ < 6 by omega) dX3_meetsAt_124 ?_
                        refine n_iadd C dX3_meetsAt_125 ?_
                        refine n_icmp_ge C 144 dX3_meetsAt_126 (by decide) (by unfold rg; omega) (by unfold rg; omega) (fun b126 => ?_) (fun b126 => ?_)
                        · refine n_iinc (lv' := [(3, iv (((k + 1 + n : Nat) : Int) + 1)), (4, iv f), (2, iv (k : Int)), (0, .ref o), (1, iv (t : Int))]) C dX3_meetsAt_144 rfl (by rw [hN]; decide) rfl ?_
                          refine n_goto C 14 dX3_meetsAt_147 (by decide) ?_
                          refine n_keep (lv' := [(3, iv (((k + 1 + n : Nat) : Int) + 1)), (2, iv (k : Int)), (0, .ref o), (1, iv (t : Int))]) [3, 2, 0, 1] rfl ?_
                          have e1 : lpJ c (M 19) k (lpK c (M 19) (M 25 0) k) (n + 1) = lpJ c (M 19) k (lpK c (M 19) (M 25 0) k) n := by
                            show (if _ then _ else _) = _
                            rw [if_neg (by rw [← g25]; unfold mtB; omega)]
                          exact ih2 (n + 1) _ _ hM hc hs (by rw [e1]; exact g25) (by rw [e1]; exact g24) (by omega) (by omega)
                        · have hm : lpJ c (M 19) k (lpK c (M 19) (M 25 0) k) n = -1 ∧ mtB c (M 19) k (k + 1 + n) := ⟨by omega, by omega, by omega, by omega, by omega⟩
                          have hp0 : M 25 0 = -1 := Classical.byContradiction (fun z => by have := hm.1; rw [lpK_p z, lpJ_p z] at this; exact z this)
                          refine n_aload_n C dX3_meetsAt_129 rfl ?_
                          refine n_iload_n C dX3_meetsAt_130 rfl ?_
                          refine r_put C I hM 24 (by decide) rfl w4_152 rfl rfl rfl rfl dX3_meetsAt_131 (fun σ hM => ?_)
                          replace hc : cut (tu M1 24 0 (t : Int)) = c := (cut_tu (by decide)).trans hc
                          refine n_aload_n C dX3_meetsAt_134 rfl ?_
                          refine n_bipush (x := 10) C dX3_meetsAt_135 (by decide) ?_
                          refine n_iload_n C dX3_meetsAt_137 rfl ?_
                          refine n_imul C dX3_meetsAt_138 ?_
                          refine n_iload_n C dX3_meetsAt_139 rfl ?_
                          refine n_iadd C dX3_meetsAt_140 ?_
                          refine r_put C I hM 25 (by decide) rfl w4_153 rfl rfl rfl rfl dX3_meetsAt_141 (fun σ hM => ?_)
                          replace hc : cut (tu (tu M1 24 0 (t : Int)) 25 0 ((10 * (k : Int)) + ((k + 1 + n : Nat) : Int))) = c := (cut_tu (by decide)).trans hc
                          refine n_iinc (lv' := [(3, iv (((k + 1 + n : Nat) : Int) + 1)), (4, iv f), (2, iv (k : Int)), (0, .ref o), (1, iv (t : Int))]) C dX3_meetsAt_144 rfl (by rw [hN]; decide) rfl ?_
                          refine n_goto C 14 dX3_meetsAt_147 (by decide) ?_
                          refine n_keep (lv' := [(3, iv (((k + 1 + n : Nat) : Int) + 1)), (2, iv (k : Int)), (0, .ref o), (1, iv (t : Int))]) [3, 2, 0, 1] rfl ?_
                          have e1 : lpJ c (M 19) k (lpK c (M 19) (M 25 0) k) (n + 1) = 10 * (k : Int) + (k + 1 + n : Nat) := by
                            show (if _ then _ else _) = _
                            rw [if_pos hm]
                          exact ih2 (n + 1) _ _ hM hc (fun a j ha hb => by rw [tu_k hb, tu_k ha]; exact hs a j ha hb) (by rw [e1, tu_s]) (by rw [e1, tu_k (by decide), tu_s, if_pos ⟨hp0, by omega⟩]) (by omega) (by omega)
              refine n_aload_n C dX3_meetsAt_22 rfl ?_
              refine r_get C hM 19 (by decide) w4_147 rfl rfl dX3_meetsAt_23 ?_
              refine n_iload_n C dX3_meetsAt_26 rfl ?_
              refine r_iald C hM 19 rfl rfl k rfl (show _ < 6 by omega) dX3_meetsAt_27 ?_
              refine n_aload_n C dX3_meetsAt_28 rfl ?_
              refine r_get C hM 19 (by decide) w4_147 rfl rfl dX3_meetsAt_29 ?_
              refine n_iload_n C dX3_meetsAt_32 rfl ?_
              refine r_iald C hM 19 rfl rfl (k + 1 + n : Nat) rfl (show _ < 6 by omega) dX3_meetsAt_33 ?_
              refine n_icmp_ge C 53 dX3_meetsAt_34 (by decide) (by unfold rg; omega) (by unfold rg; omega) (fun b34 => ?_) (fun b34 => ?_)
              · refine n_aload_n C dX3_meetsAt_53 rfl ?_
                refine r_get C hM 19 (by decide) w4_147 rfl rfl dX3_meetsAt_54 ?_
                refine n_iload_n C dX3_meetsAt_57 rfl ?_
                refine r_iald C hM 19 rfl rfl k rfl (show _ < 6 by omega) dX3_meetsAt_58 ?_
                refine n_aload_n C dX3_meetsAt_59 rfl ?_
                refine r_get C hM 19 (by decide) w4_147 rfl rfl dX3_meetsAt_60 ?_
                refine n_iload_n C dX3_meetsAt_63 rfl ?_
                refine r_iald C hM 19 rfl rfl (k + 1 + n : Nat) rfl (show _ < 6 by omega) dX3_meetsAt_64 ?_
                refine n_isub C dX3_meetsAt_65 ?_
                refine n_keep (lv' := [(3, iv ((k + 1 + n : Nat) : Int)), (2, iv (k : Int)), (0, .ref o), (1, iv (t : Int))]) [3, 2, 0, 1] rfl ?_
                exact J66 _ (by rw [a1, a2, if_neg (by omega)]) (by omega)
              · refine n_aload_n C dX3_meetsAt_37 rfl ?_
                refine r_get C hM 19 (by decide) w4_147 rfl rfl dX3_meetsAt_38 ?_
                refine n_iload_n C dX3_meetsAt_41 rfl ?_
                refine r_iald C hM 19 rfl rfl (k + 1 + n : Nat) rfl (show _ < 6 by omega) dX3_meetsAt_42 ?_
                refine n_aload_n C dX3_meetsAt_43 rfl ?_
                refine r_get C hM 19 (by decide) w4_147 rfl rfl dX3_meetsAt_44 ?_
                refine n_iload_n C dX3_meetsAt_47 rfl ?_
                refine r_iald C hM 19 rfl rfl k rfl (show _ < 6 by omega) dX3_meetsAt_48 ?_
                refine n_isub C dX3_meetsAt_49 ?_
                refine n_goto C 66 dX3_meetsAt_50 (by decide) ?_
                refine n_keep (lv' := [(3, iv ((k + 1 + n : Nat) : Int)), (2, iv (k : Int)), (0, .ref o), (1, iv (t : Int))]) [3, 2, 0, 1] rfl ?_
                exact J66 _ (by rw [a1, a2, if_pos (by omega)]) (by omega)
        exact LP2 7 0 _ _ hM hc hs h25 h24 (by omega) (by omega)
  exact LP 7 0 _ _ hM hc (fun _ _ _ _ => rfl) rfl (by rw [if_neg (fun z => z.2 z.1)]) (by omega) (by omega)
