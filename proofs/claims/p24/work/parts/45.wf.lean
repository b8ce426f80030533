section KW2
theorem WF_tempo {c : Tb} (hw : WF c) {T : Int} (h : cdTempo T = 0) : WF (nxTempo c T) := by
  obtain ⟨h0, h6, h12, h13, h14, h15, h16, hm, hq, hww⟩ := hw
  unfold cdTempo at h
  have hT : 50 ≤ T ∧ T ≤ 200 := by
    by_cases z : 50 ≤ T ∧ T ≤ 200
    · exact z
    · rw [if_neg z] at h; omega
  exact ⟨h0, h6, h12, h13, by show 50 ≤ tu c 14 0 T 14 0 ∧ tu c 14 0 T 14 0 ≤ 200; rw [tu_s]; exact hT, h15, h16, hm, hq, hww⟩
theorem WF_rules {c : Tb} (hw : WF c) {r l : Int} (h : cdRules r l = 0) : WF (nxRules c r l) := by
  obtain ⟨h0, h6, h12, h13, h14, h15, h16, hm, hq, hww⟩ := hw
  unfold cdRules at h
  have hT : (0 ≤ r ∧ r ≤ 100) ∧ (0 ≤ l ∧ l ≤ 2400) := by
    by_cases z : (0 ≤ r ∧ r ≤ 100) ∧ (0 ≤ l ∧ l ≤ 2400)
    · exact z
    · rw [if_neg z] at h; omega
  exact ⟨h0, h6, h12, h13, h14, by show 0 ≤ tu c 15 0 r 15 0 ∧ tu c 15 0 r 15 0 ≤ 100; rw [tu_s]; exact hT.1, by show 0 ≤ tu (tu c 15 0 r) 16 0 l 16 0 ∧ tu (tu c 15 0 r) 16 0 l 16 0 ≤ 2400; rw [tu_s]; exact hT.2, hm, hq, hww⟩
theorem WF_strike {c : Tb} (hw : WF c) {w s : Int} (hs : s = 0 ∨ s = 1) : WF (nxStrike c w s) := by
  obtain ⟨h0, h6, h12, h13, h14, h15, h16, hm, hq, hww⟩ := hw
  refine ⟨h0, h6, h12, h13, h14, h15, h16, hm, hq, fun u => ⟨?_, (hww u).2⟩⟩
  show tu c 17 w.toNat s 17 u = 0 ∨ tu c 17 w.toNat s 17 u = 1
  by_cases z : u = w.toNat
  · rw [z, tu_s]; exact hs
  · rw [tu_j z]; exact (hww u).1
theorem WF_sub {c : Tb} (hw : WF c) {w s : Int} (h : cdSub w s = 0) : WF (nxSub c w s) := by
  obtain ⟨h0, h6, h12, h13, h14, h15, h16, hm, hq, hww⟩ := hw
  unfold cdSub at h
  have hT : (0 ≤ w ∧ w ≤ 5) ∧ (-1 ≤ s ∧ s ≤ 5) := by
    by_cases z : (0 ≤ w ∧ w ≤ 5) ∧ (-1 ≤ s ∧ s ≤ 5)
    · exact z
    · rw [if_neg z] at h; omega
  refine ⟨h0, h6, h12, h13, h14, h15, h16, hm, hq, fun u => ⟨(hww u).1, ?_⟩⟩
  show -1 ≤ tu c 18 w.toNat s 18 u ∧ tu c 18 w.toNat s 18 u ≤ 5
  by_cases z : u = w.toNat
  · rw [z, tu_s]; exact hT.2
  · rw [tu_j z]; exact (hww u).2
theorem fitB_at {c : Tb} {b : Int} : ∀ k : Nat, fitB c b k = true → ∀ q, q < k → c 11 q ≠ 0 ∨ c 7 q < b
  | 0, _, q, h => absurd h (Nat.not_lt_zero q)
  | k + 1, h, q, hq => by
    unfold fitB at h
    rw [Bool.and_eq_true, Bool.or_eq_true, decide_eq_true_eq, decide_eq_true_eq] at h
    by_cases z : q = k
    · rw [z]; exact h.2
    · exact fitB_at k h.1 q (by omega)
theorem WF_score {c : Tb} (hw : WF c) {b t : Int} (h : cdScore c b t = 0) : WF (nxScore c b t) := by
  obtain ⟨h0, h6, h12, h13, h14, h15, h16, hm, hq, hww⟩ := hw
  unfold cdScore at h
  have hT : ((1 ≤ b ∧ b ≤ 30) ∧ (1 ≤ t ∧ t ≤ 40)) ∧ fitB c b (c 6 0).toNat = true := by
    by_cases z : (1 ≤ b ∧ b ≤ 30) ∧ (1 ≤ t ∧ t ≤ 40)
    · rw [if_pos z] at h
      by_cases y : fitB c b (c 6 0).toNat = true
      · exact ⟨z, y⟩
      · rw [if_neg y] at h; omega
    · rw [if_neg z] at h; omega
  refine ⟨h0, h6, by show 1 ≤ tu c 12 0 b 12 0 ∧ tu c 12 0 b 12 0 ≤ 30; rw [tu_s]; exact hT.1.1, by show 1 ≤ tu (tu c 12 0 b) 13 0 t 13 0 ∧ tu (tu c 12 0 b) 13 0 t 13 0 ≤ 40; rw [tu_s]; exact hT.1.2, h14, h15, h16, hm, fun q => ?_, hww⟩
  have g := hq q
  refine ⟨g.1, fun a e => ?_, g.2.2⟩
  show c 7 q < tu c 12 0 b 12 0
  rw [tu_s]
  have e2 : c 11 q = 0 := e
  have a2 : (q : Int) < c 6 0 := a
  rcases fitB_at _ hT.2 q (by omega) with z | z
  · exact absurd e2 z
  · exact z
end KW2
