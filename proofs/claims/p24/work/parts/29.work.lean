section KZ
theorem phpN : ∀ (n : Nat) (f : Nat → Nat), (∀ i, i ≤ n → f i < n) → ∃ i j : Nat, i < j ∧ j ≤ n ∧ f i = f j
  | 0, f, h => absurd (h 0 (Nat.le_refl 0)) (Nat.not_lt_zero _)
  | n + 1, f, h => by
    by_cases he : ∃ i, i ≤ n ∧ f i = f (n + 1)
    · obtain ⟨i, h1, h2⟩ := he
      exact ⟨i, n + 1, by omega, Nat.le_refl _, h2⟩
    · have hne : ∀ i, i ≤ n → f i ≠ f (n + 1) := fun i hi q => he ⟨i, hi, q⟩
      obtain ⟨i, j, h1, h2, h3⟩ := phpN n (fun i => if f i = n then f (n + 1) else f i) (fun i hi => by
        have a := h i (by omega)
        have b := h (n + 1) (Nat.le_refl _)
        have d := hne i hi
        show (if f i = n then f (n + 1) else f i) < n
        split <;> omega)
      have a := hne i (by omega)
      have b := hne j (by omega)
      refine ⟨i, j, h1, by omega, ?_⟩
      have h4 : (if f i = n then f (n + 1) else f i) = (if f j = n then f (n + 1) else f j) := h3
      by_cases z1 : f i = n
      · by_cases z2 : f j = n
        · omega
        · rw [if_pos z1, if_neg z2] at h4
          omega
      · by_cases z2 : f j = n
        · rw [if_neg z1, if_pos z2] at h4
          omega
        · rw [if_neg z1, if_neg z2] at h4
          exact h4
/-- whoever is asked behind k substitutions -/
def sqW (c : Tb) (w : Int) : Nat → Int
  | 0 => w
  | k + 1 => c 18 (sqW c w k).toNat
theorem sqW_eq {c : Tb} {w : Int} {i j : Nat} (h : sqW c w i = sqW c w j) : ∀ u : Nat, sqW c w (i + u) = sqW c w (j + u)
  | 0 => h
  | u + 1 => by
    show c 18 (sqW c w (i + u)).toNat = c 18 (sqW c w (j + u)).toNat
    rw [sqW_eq h u]
theorem sqW_6 {c : Tb} {w : Int} (h : ∀ j : Nat, j < 6 → (0 ≤ sqW c w j ∧ sqW c w j ≤ 5) ∧ c 17 (sqW c w j).toNat ≠ 0) (h6 : 0 ≤ sqW c w 6 ∧ sqW c w 6 ≤ 5) : c 17 (sqW c w 6).toNat ≠ 0 := by
  have hall : ∀ i : Nat, i ≤ 6 → 0 ≤ sqW c w i ∧ sqW c w i ≤ 5 := fun i hi => by
    by_cases z : i = 6
    · rw [z]; exact h6
    · exact (h i (by omega)).1
  obtain ⟨i, j, h1, h2, h3⟩ := phpN 6 (fun i => (sqW c w i).toNat) (fun i hi => by
    have := hall i hi
    show (sqW c w i).toNat < 6
    omega)
  have h3' : (sqW c w i).toNat = (sqW c w j).toNat := h3
  have a := hall i (by omega)
  have b := hall j h2
  have e := sqW_eq (c := c) (w := w) (i := i) (j := j) (by omega) (6 - j)
  rw [show j + (6 - j) = 6 by omega] at e
  rw [← e]
  exact (h (i + (6 - j)) (by omega)).2
theorem wkN_m1 {c : Tb} : ∀ n : Nat, wkN c n (-1) = -1
  | 0 => rfl
  | n + 1 => by
    unfold wkN
    rw [if_neg (fun z => z.1 rfl)]
theorem wkN_on {c : Tb} {w : Int} (h : c 17 w.toNat = 0) : ∀ n : Nat, wkN c n w = w
  | 0 => rfl
  | n + 1 => by
    unfold wkN
    rw [if_neg (fun z => z.2 h)]
/-- several ticks under one cue -/
theorem goV_add {tk pl w z1 z2 : Int} (hp : 0 ≤ pl ∧ pl ≤ 359) : goV tk (goV tk pl z1) z2 = goV tk pl (z1 + z2) := by
  unfold goV
  split <;> omega
theorem wayV_go {tk pl aim z : Int} (hp : 0 ≤ pl ∧ pl ≤ 359) (ha : 0 ≤ aim ∧ aim ≤ 359) (hz : 0 ≤ z) : wayV tk (goV tk pl (stV z (wayV tk pl aim))) aim = wayV tk pl aim - stV z (wayV tk pl aim) := by
  unfold wayV goV stV
  by_cases h : tk = -1
  · simp only [if_pos h]
    (repeat' split) <;> omega
  · simp only [if_neg h]
    omega
theorem stV_add {w z y : Int} (hz : 0 ≤ z) (hy : 0 ≤ y) : stV z w + stV y (w - stV z w) = stV (z + y) w := by
  unfold stV
  omega
theorem goS_0 {c : Tb} {i : Nat} {p r : Int} (hp : 0 ≤ p ∧ p ≤ 359) : goS c i p r 0 = p := by
  unfold goS
  have : stV (c 4 i * 0) (wyR r (tkQ c i) p (aimOf c i r)) = 0 := by unfold stV; omega
  rw [this, goV_0 hp]
theorem goS_s {c : Tb} (hw : WF c) {i : Nat} {p r : Int} {s : Nat} (hp : 0 ≤ p ∧ p ≤ 359) : goS c i (goS c i p r s) r 1 = goS c i p r (s + 1 : Nat) := by
  have wi := (hw.2.2.2.2.2.2.2.1 i).2.2.2.2.1
  have ha := aim_rg hw (i := i) (r := r)
  have hz : 0 ≤ c 4 i * (s : Int) := Int.mul_nonneg wi.1 (Int.natCast_nonneg s)
  have e : c 4 i * ((s + 1 : Nat) : Int) = c 4 i * (s : Int) + c 4 i * 1 := by rw [← Int.mul_add]; rfl
  unfold goS wyR
  rw [e]
  by_cases h : r = -1
  · simp only [if_pos h]
    rw [goV_add (w := 0) hp]
    congr 1
    unfold stV
    omega
  · simp only [if_neg h]
    rw [wayV_go hp ha hz, goV_add (w := 0) hp, stV_add hz (by omega)]
theorem tr_bar {c : Tb} (hw : WF c) {L b j : Nat} : ∀ s : Nat, s ≤ L → (tr c L j (b * L + s)).1 = goS c j (tr c L j (b * L)).1 (RB c L b j) s
  | 0, _ => (goS_0 (tr_rg hw L j _)).symm
  | s + 1, h => by
    have ih := tr_bar hw (L := L) (b := b) (j := j) s (by omega)
    show (tr c L j (b * L + s + 1)).1 = _
    rw [tr_in hw (by omega), ih, goS_s hw (tr_rg hw L j _)]
/-- whether it is at its target yet -/
theorem at_aim {tk pl aim z : Int} (hp : 0 ≤ pl ∧ pl ≤ 359) (ha : 0 ≤ aim ∧ aim ≤ 359) (hz : 0 ≤ z) : goV tk pl (stV z (wayV tk pl aim)) ≠ aim ↔ z < (if 0 ≤ wayV tk pl aim then wayV tk pl aim else -(wayV tk pl aim)) := by
  unfold wayV goV stV
  by_cases h : tk = -1
  · simp only [if_pos h]
    (repeat' split) <;> omega
  · simp only [if_neg h]
    (repeat' split) <;> omega
theorem lt_tk {s a sp : Int} (h : 1 ≤ sp) : sp * s < a ↔ s < (a + sp - 1) / sp := by
  have e := Int.le_ediv_iff_mul_le (a := s + 1) (b := a + sp - 1) (c := sp) (by omega)
  rw [Int.add_mul, Int.one_mul, Int.mul_comm s sp] at e
  constructor
  · intro q
    have := e.mpr (by omega)
    omega
  · intro q
    have := e.mp (by omega)
    omega
/-- what a bar adds to a cue's work -/
theorem cnt_bar {c : Tb} (hw : WF c) {L b q j : Nat} (hq : (q : Int) < c 6 0) (hj : c 8 q = j) (hj0 : (j : Int) < c 0 0) (hr : RB c L b j = q) : ∀ s : Nat, s ≤ L → cnt c L q (b * L + s) = cnt c L q (b * L) + min (s : Int) (tkV (c 4 j) (wyR (RB c L b j) (tkQ c j) (tr c L j (b * L)).1 (aimOf c j (RB c L b j))))
  | 0, _ => by
    have : 0 ≤ tkV (c 4 j) (wyR (RB c L b j) (tkQ c j) (tr c L j (b * L)).1 (aimOf c j (RB c L b j))) := by
      have := (hw.2.2.2.2.2.2.2.1 j).2.2.2.2.2.1 hj0
      unfold tkV
      exact Int.ediv_nonneg (by split <;> omega) (by omega)
    show cnt c L q (b * L) = _
    omega
  | s + 1, h => by
    have ih := cnt_bar hw (b := b) hq hj hj0 hr s (by omega)
    have hsp := (hw.2.2.2.2.2.2.2.1 j).2.2.2.2.2.1 hj0
    have h8 : (c 8 q).toNat = j := by omega
    show cnt c L q (b * L + s) + (if (tr c L (c 8 q).toNat (b * L + s + 1)).2 = q ∧ (tr c L (c 8 q).toNat (b * L + s)).1 ≠ c 9 q then 1 else 0) = _
    rw [h8, ih]
    have e1 : (tr c L j (b * L + s + 1)).2 = q := (rb_at (s + 1) (by omega) (by omega)).trans hr
    have e2 := tr_bar hw (b := b) (j := j) s (L := L) (by omega)
    have hp := tr_rg hw L j (b * L)
    have ha := (hw.2.2.2.2.2.2.2.2.1 q).2.2.2.2.1
    have hwy : wyR (RB c L b j) (tkQ c j) (tr c L j (b * L)).1 (aimOf c j (RB c L b j)) = wayV (tkQ c j) (tr c L j (b * L)).1 (c 9 q) := by
      rw [hr, aim_q rfl]
      unfold wyR
      rw [if_neg (by omega)]
    unfold goS at e2
    rw [hwy] at e2 ⊢
    have e3 := at_aim (tk := tkQ c j) hp ha (z := c 4 j * (s : Int)) (Int.mul_nonneg (by omega) (Int.natCast_nonneg s))
    rw [← e2, lt_tk hsp] at e3
    have e4 : (tr c L j (b * L + s)).1 ≠ c 9 q ↔ (s : Int) < tkV (c 4 j) (wayV (tkQ c j) (tr c L j (b * L)).1 (c 9 q)) := e3
    by_cases z : (tr c L j (b * L + s)).1 ≠ c 9 q
    · rw [if_pos ⟨e1, z⟩]
      have := e4.mp z
      omega
    · rw [if_neg (fun y => z y.2)]
      have := mt e4.mpr z
      omega
/-- a bar adds nothing to a cue that doesn't run in it -/
theorem cnt_off {c : Tb} {L b q j : Nat} (hj : c 8 q = j) (hr : RB c L b j ≠ q) : ∀ s : Nat, s ≤ L → cnt c L q (b * L + s) = cnt c L q (b * L)
  | 0, _ => rfl
  | s + 1, h => by
    have ih := cnt_off (b := b) hj hr s (by omega)
    have h8 : (c 8 q).toNat = j := by omega
    show cnt c L q (b * L + s) + (if (tr c L (c 8 q).toNat (b * L + s + 1)).2 = q ∧ (tr c L (c 8 q).toNat (b * L + s)).1 ≠ c 9 q then 1 else 0) = _
    rw [h8, ih, if_neg]
    · omega
    · intro z
      have e1 : (tr c L j (b * L + s + 1)).2 = RB c L b j := rb_at (s + 1) (by omega) (by omega)
      exact hr (e1.symm.trans z.1)
theorem rb_mac {c : Tb} {L b j : Nat} (hw : WF c) (hL : 0 < L) : RB c L b j = -1 ∨ ∃ q : Nat, RB c L b j = q ∧ (q : Int) < c 6 0 ∧ c 11 q = 0 ∧ c 8 q = j := by
  rcases tr_run (c := c) (L := L) (k := j) hL hw.2.1.2 (b * L + 1) with h | ⟨q, h1, h2, h3, h4, -⟩
  · exact Or.inl h
  · exact Or.inr ⟨q, h1, h2, h3, h4⟩
end KZ
