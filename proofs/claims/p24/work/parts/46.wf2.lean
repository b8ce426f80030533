section KW3
theorem WF_wagon {c : Tb} (hw : WF c) {t p w s : Int} (h : cdWagon c t p w s = 0) : WF (nxWagon c t p w s) := by
  obtain ⟨h0, h6, h12, h13, h14, h15, h16, hm, hq, hww⟩ := hw
  unfold cdWagon at h
  have hT : ((0 ≤ t ∧ t ≤ 2) ∧ (0 ≤ p ∧ p ≤ 200) ∧ (1 ≤ w ∧ w ≤ 20) ∧ (1 ≤ s ∧ s ≤ 10)) ∧ c 0 0 ≠ 6 := by
    by_cases z : (0 ≤ t ∧ t ≤ 2) ∧ (0 ≤ p ∧ p ≤ 200) ∧ (1 ≤ w ∧ w ≤ 20) ∧ (1 ≤ s ∧ s ≤ 10)
    · rw [if_pos z] at h
      by_cases y : c 0 0 = 6
      · rw [if_pos y] at h; omega
      · exact ⟨z, y⟩
    · rw [if_neg z] at h; omega
  obtain ⟨⟨t1, t2, t3, t4⟩, t5⟩ := hT
  obtain ⟨n, hn⟩ : ∃ n : Nat, (c 0 0).toNat = n := ⟨_, rfl⟩
  have e0 : nxWagon c t p w s 0 0 = c 0 0 + 1 := by unfold nxWagon; rw [tu_s]
  have r1 : ∀ i, nxWagon c t p w s 1 i = c 1 i := fun i => rfl
  have r2 : ∀ i, nxWagon c t p w s 2 i = if i = n then t else c 2 i := fun i => by
    show tu c 2 (c 0 0).toNat t 2 i = _
    rw [hn]
    by_cases z : i = n
    · rw [if_pos z, z, tu_s]
    · rw [if_neg z, tu_j z]
  have r3 : ∀ i, nxWagon c t p w s 3 i = if i = n then w else c 3 i := fun i => by
    show tu (tu c 2 (c 0 0).toNat t) 3 (c 0 0).toNat w 3 i = _
    rw [hn]
    by_cases z : i = n
    · rw [if_pos z, z, tu_s]
    · rw [if_neg z, tu_j z]; rfl
  have r4 : ∀ i, nxWagon c t p w s 4 i = if i = n then s else c 4 i := fun i => by
    show tu (tu (tu c 2 (c 0 0).toNat t) 3 (c 0 0).toNat w) 4 (c 0 0).toNat s 4 i = _
    rw [hn]
    by_cases z : i = n
    · rw [if_pos z, z, tu_s]
    · rw [if_neg z, tu_j z]; rfl
  have r5 : ∀ i, nxWagon c t p w s 5 i = if i = n then p else c 5 i := fun i => by
    show tu (tu (tu (tu c 2 (c 0 0).toNat t) 3 (c 0 0).toNat w) 4 (c 0 0).toNat s) 5 (c 0 0).toNat p 5 i = _
    rw [hn]
    by_cases z : i = n
    · rw [if_pos z, z, tu_s]
    · rw [if_neg z, tu_j z]; rfl
  refine ⟨by rw [e0]; omega, h6, h12, h13, h14, h15, h16, fun i => ?_, fun q => ?_, hww⟩
  · have g := hm i
    rw [e0, r1, r2, r3, r4, r5]
    by_cases z : i = n
    · rw [if_pos z, if_pos z, if_pos z, if_pos z]
      have : c 1 i = 0 := g.2.1 (by omega)
      exact ⟨g.1, fun _ => this, t1, by omega, by omega, fun _ => by omega, by omega, fun _ => t2.2⟩
    · rw [if_neg z, if_neg z, if_neg z, if_neg z]
      exact ⟨g.1, fun y => g.2.1 (by omega), g.2.2.1, g.2.2.2.1, g.2.2.2.2.1, fun y => g.2.2.2.2.2.1 (by omega), g.2.2.2.2.2.2⟩
  · have g := hq q
    refine ⟨g.1, g.2.1, g.2.2.1, fun y => ?_, g.2.2.2.2⟩
    rw [e0]
    have := g.2.2.2.1 y
    show c 8 q < _
    omega
theorem WF_table {c : Tb} (hw : WF c) {a s : Int} (h : cdTable c a s = 0) : WF (nxTable c a s) := by
  obtain ⟨h0, h6, h12, h13, h14, h15, h16, hm, hq, hww⟩ := hw
  unfold cdTable at h
  have hT : ((0 ≤ a ∧ a ≤ 359) ∧ (1 ≤ s ∧ s ≤ 10)) ∧ c 0 0 ≠ 6 := by
    by_cases z : (0 ≤ a ∧ a ≤ 359) ∧ (1 ≤ s ∧ s ≤ 10)
    · rw [if_pos z] at h
      by_cases y : c 0 0 = 6
      · rw [if_pos y] at h; omega
      · exact ⟨z, y⟩
    · rw [if_neg z] at h; omega
  obtain ⟨⟨t1, t2⟩, t5⟩ := hT
  obtain ⟨n, hn⟩ : ∃ n : Nat, (c 0 0).toNat = n := ⟨_, rfl⟩
  have e0 : nxTable c a s 0 0 = c 0 0 + 1 := by unfold nxTable; rw [tu_s]
  have r1 : ∀ i, nxTable c a s 1 i = if i = n then 1 else c 1 i := fun i => by
    show tu c 1 (c 0 0).toNat 1 1 i = _
    rw [hn]
    by_cases z : i = n
    · rw [if_pos z, z, tu_s]
    · rw [if_neg z, tu_j z]
  have r4 : ∀ i, nxTable c a s 4 i = if i = n then s else c 4 i := fun i => by
    show tu (tu c 1 (c 0 0).toNat 1) 4 (c 0 0).toNat s 4 i = _
    rw [hn]
    by_cases z : i = n
    · rw [if_pos z, z, tu_s]
    · rw [if_neg z, tu_j z]; rfl
  have r5 : ∀ i, nxTable c a s 5 i = if i = n then a else c 5 i := fun i => by
    show tu (tu (tu c 1 (c 0 0).toNat 1) 4 (c 0 0).toNat s) 5 (c 0 0).toNat a 5 i = _
    rw [hn]
    by_cases z : i = n
    · rw [if_pos z, z, tu_s]
    · rw [if_neg z, tu_j z]; rfl
  refine ⟨by rw [e0]; omega, h6, h12, h13, h14, h15, h16, fun i => ?_, fun q => ?_, hww⟩
  · have g := hm i
    rw [e0, r1, r4, r5]
    by_cases z : i = n
    · rw [if_pos z, if_pos z, if_pos z]
      exact ⟨Or.inr rfl, fun y => by omega, g.2.2.1, g.2.2.2.1, by omega, fun _ => by omega, t1, fun y => by omega⟩
    · rw [if_neg z, if_neg z, if_neg z]
      exact ⟨g.1, fun y => g.2.1 (by omega), g.2.2.1, g.2.2.2.1, g.2.2.2.2.1, fun y => g.2.2.2.2.2.1 (by omega), g.2.2.2.2.2.2⟩
  · have g := hq q
    refine ⟨g.1, g.2.1, g.2.2.1, fun y => ?_, g.2.2.2.2.1, fun y => ?_, g.2.2.2.2.2.2⟩
    · rw [e0]
      have := g.2.2.2.1 y
      show c 8 q < _
      omega
    · have g8 := g.2.2.2.1 y
      have g8b := g.2.2.1
      have y2 : (q : Int) < c 6 0 := y
      show nxTable c a s 1 (c 8 q).toNat = 0 → c 9 q ≤ 200
      rw [r1, if_neg (by have := g.2.2.2.1 y2; omega)]
      exact g.2.2.2.2.2.1 y2
theorem WF_cue {c : Tb} (hw : WF c) {a b t v : Int} (h : cdCue c a b t v = 0) : WF (nxCue c a b t v) := by
  obtain ⟨h0, h6, h12, h13, h14, h15, h16, hm, hq, hww⟩ := hw
  unfold cdCue at h
  have hT : (0 ≤ a ∧ a < c 0 0) ∧ ((0 ≤ b ∧ b ≤ c 12 0 - 1) ∧ (0 ≤ t ∧ t ≤ (if c 1 a.toNat = 0 then 200 else 359)) ∧ (0 ≤ v ∧ v ≤ 5)) ∧ c 6 0 ≠ 24 := by
    by_cases x : 0 ≤ a ∧ a < c 0 0
    · rw [if_pos x] at h
      by_cases z : (0 ≤ b ∧ b ≤ c 12 0 - 1) ∧ (0 ≤ t ∧ t ≤ (if c 1 a.toNat = 0 then 200 else 359)) ∧ (0 ≤ v ∧ v ≤ 5)
      · rw [if_pos z] at h
        by_cases y : c 6 0 = 24
        · rw [if_pos y] at h; omega
        · exact ⟨x, z, y⟩
      · rw [if_neg z] at h; omega
    · rw [if_neg x] at h; omega
  obtain ⟨t1, ⟨t2, t3, t4⟩, t5⟩ := hT
  have t6 : t ≤ 359 := by
    have := t3.2
    split at this <;> omega
  have t7 : c 1 a.toNat = 0 → t ≤ 200 := fun z => by
    have := t3.2
    rw [if_pos z] at this
    exact this
  obtain ⟨n, hn⟩ : ∃ n : Nat, (c 6 0).toNat = n := ⟨_, rfl⟩
  have e6 : nxCue c a b t v 6 0 = c 6 0 + 1 := by unfold nxCue; rw [tu_s]
  have r8 : ∀ i, nxCue c a b t v 8 i = if i = n then a else c 8 i := fun i => by
    show tu c 8 (c 6 0).toNat a 8 i = _
    rw [hn]
    by_cases z : i = n
    · rw [if_pos z, z, tu_s]
    · rw [if_neg z, tu_j z]
  have r7 : ∀ i, nxCue c a b t v 7 i = if i = n then b else c 7 i := fun i => by
    show tu (tu c 8 (c 6 0).toNat a) 7 (c 6 0).toNat b 7 i = _
    rw [hn]
    by_cases z : i = n
    · rw [if_pos z, z, tu_s]
    · rw [if_neg z, tu_j z]; rfl
  have r9 : ∀ i, nxCue c a b t v 9 i = if i = n then t else c 9 i := fun i => by
    show tu (tu (tu c 8 (c 6 0).toNat a) 7 (c 6 0).toNat b) 9 (c 6 0).toNat t 9 i = _
    rw [hn]
    by_cases z : i = n
    · rw [if_pos z, z, tu_s]
    · rw [if_neg z, tu_j z]; rfl
  have r10 : ∀ i, nxCue c a b t v 10 i = if i = n then v else c 10 i := fun i => by
    show tu (tu (tu (tu c 8 (c 6 0).toNat a) 7 (c 6 0).toNat b) 9 (c 6 0).toNat t) 10 (c 6 0).toNat v 10 i = _
    rw [hn]
    by_cases z : i = n
    · rw [if_pos z, z, tu_s]
    · rw [if_neg z, tu_j z]; rfl
  refine ⟨h0, by rw [e6]; omega, h12, h13, h14, h15, h16, hm, fun q => ?_, hww⟩
  have g := hq q
  show (0 ≤ nxCue c a b t v 7 q ∧ nxCue c a b t v 7 q < 30) ∧ ((q : Int) < nxCue c a b t v 6 0 → c 11 q = 0 → nxCue c a b t v 7 q < c 12 0) ∧ 0 ≤ nxCue c a b t v 8 q ∧ ((q : Int) < nxCue c a b t v 6 0 → nxCue c a b t v 8 q < c 0 0) ∧ (0 ≤ nxCue c a b t v 9 q ∧ nxCue c a b t v 9 q ≤ 359) ∧ ((q : Int) < nxCue c a b t v 6 0 → c 1 (nxCue c a b t v 8 q).toNat = 0 → nxCue c a b t v 9 q ≤ 200) ∧ (0 ≤ nxCue c a b t v 10 q ∧ nxCue c a b t v 10 q ≤ 5) ∧ (c 11 q = 0 ∨ c 11 q = 1) ∧ (nxCue c a b t v 6 0 ≤ q → c 11 q = 0)
  rw [e6, r7, r8, r9, r10]
  by_cases z : q = n
  · rw [if_pos z, if_pos z, if_pos z, if_pos z]
    have z11 : c 11 q = 0 := g.2.2.2.2.2.2.2.2 (by omega)
    exact ⟨by omega, fun _ _ => by omega, t1.1, fun _ => t1.2, by omega, fun _ => t7, t4, Or.inl z11, fun _ => z11⟩
  · rw [if_neg z, if_neg z, if_neg z, if_neg z]
    exact ⟨g.1, fun y => g.2.1 (by omega), g.2.2.1, fun y => g.2.2.2.1 (by omega), g.2.2.2.2.1, fun y => g.2.2.2.2.2.1 (by omega), g.2.2.2.2.2.2.1, g.2.2.2.2.2.2.2.1, fun y => g.2.2.2.2.2.2.2.2 (by omega)⟩
end KW3
