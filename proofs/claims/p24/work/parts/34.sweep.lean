section KP
/-- ticks from a over which some cue of the first k in the order is worked on -/
noncomputable def uoQ (c : Tb) (L : Nat) (w : Int) (s : Nat → Nat) (t : Int) : Nat → Int
  | 0 => 0
  | k + 1 => @ite Int (uoQ c L w s t k = 1 ∨ (ofP c (bB c L) (eE c L) (s k) w ∧ bB c L (s k) ≤ t ∧ t ≤ eE c L (s k) - 1)) (Classical.propDecidable _) 1 0
theorem uo_at {c : Tb} {L : Nat} {w : Int} {s : Nat → Nat} {t : Int} : ∀ k : Nat, (uoQ c L w s t k = 1 ∧ ∃ j, j < k ∧ ofP c (bB c L) (eE c L) (s j) w ∧ bB c L (s j) ≤ t ∧ t ≤ eE c L (s j) - 1) ∨ (uoQ c L w s t k = 0 ∧ ¬ ∃ j, j < k ∧ ofP c (bB c L) (eE c L) (s j) w ∧ bB c L (s j) ≤ t ∧ t ≤ eE c L (s j) - 1)
  | 0 => Or.inr ⟨rfl, fun ⟨j, h, _⟩ => absurd h (Nat.not_lt_zero j)⟩
  | k + 1 => by
    have ih := uo_at (c := c) (L := L) (w := w) (s := s) (t := t) k
    have e : uoQ c L w s t (k + 1) = @ite Int (uoQ c L w s t k = 1 ∨ (ofP c (bB c L) (eE c L) (s k) w ∧ bB c L (s k) ≤ t ∧ t ≤ eE c L (s k) - 1)) (Classical.propDecidable _) 1 0 := rfl
    by_cases h : uoQ c L w s t k = 1 ∨ (ofP c (bB c L) (eE c L) (s k) w ∧ bB c L (s k) ≤ t ∧ t ≤ eE c L (s k) - 1)
    · rw [e, if_pos h]
      refine Or.inl ⟨rfl, ?_⟩
      rcases h with h | h
      · rcases ih with ⟨_, j, h1, h2⟩ | ⟨h1, _⟩
        · exact ⟨j, by omega, h2⟩
        · omega
      · exact ⟨k, Nat.lt_succ_self k, h⟩
    · rw [e, if_neg h]
      refine Or.inr ⟨rfl, fun ⟨j, h1, h2⟩ => ?_⟩
      by_cases z : j = k
      · rw [z] at h2
        exact h (Or.inr h2)
      · rcases ih with ⟨h3, _⟩ | ⟨_, h3⟩
        · exact h (Or.inl h3)
        · exact h3 ⟨j, by omega, h2⟩
theorem wt_at {c : Tb} {B E : Nat → Int} {w t : Int} : ∀ k : Nat, wtB c B E w t k = true ↔ ∃ q, q < k ∧ ofP c B E q w ∧ B q ≤ t ∧ t ≤ E q - 1
  | 0 => ⟨fun h => (by cases h), fun ⟨q, h, _⟩ => absurd h (Nat.not_lt_zero q)⟩
  | k + 1 => by
    have ih := wt_at (c := c) (B := B) (E := E) (w := w) (t := t) k
    unfold wtB
    rw [Bool.or_eq_true, decide_eq_true_eq, ih]
    constructor
    · rintro (⟨q, h1, h2⟩ | h)
      · exact ⟨q, by omega, h2⟩
      · exact ⟨k, Nat.lt_succ_self k, h⟩
    · intro ⟨q, h1, h2⟩
      by_cases z : q = k
      · rw [z] at h2
        exact Or.inr h2
      · exact Or.inl ⟨q, by omega, h2⟩
/-- ticks counted, from a on -/
theorem ov_sm {c : Tb} {L : Nat} {w : Int} {s : Nat → Nat} {n : Nat} (hn : c 6 0 = n) (hsur : ∀ q : Nat, (q : Int) < c 6 0 → ∃ k : Nat, (k : Int) < c 6 0 ∧ s k = q) (hin : ∀ k : Nat, (k : Int) < c 6 0 → (s k : Int) < c 6 0) : ∀ N : Nat, ovN c (bB c L) (eE c L) w N = smN (fun t => uoQ c L w s (c 16 0 + t) n) N
  | 0 => rfl
  | N + 1 => by
    show ovN c (bB c L) (eE c L) w N + (if wtB c (bB c L) (eE c L) w (c 16 0 + N) (c 6 0).toNat = true then 1 else 0) = smN (fun t => uoQ c L w s (c 16 0 + t) n) N + uoQ c L w s (c 16 0 + N) n
    rw [ov_sm hn hsur hin N]
    congr 1
    have e : wtB c (bB c L) (eE c L) w (c 16 0 + N) (c 6 0).toNat = true ↔ ∃ j, j < n ∧ ofP c (bB c L) (eE c L) (s j) w ∧ bB c L (s j) ≤ c 16 0 + N ∧ c 16 0 + N ≤ eE c L (s j) - 1 := by
      rw [wt_at, show (c 6 0).toNat = n by omega]
      constructor
      · intro ⟨q, h1, h2⟩
        obtain ⟨k, k1, k2⟩ := hsur q (by omega)
        rw [← k2] at h2
        exact ⟨k, by omega, h2⟩
      · intro ⟨j, h1, h2⟩
        exact ⟨s j, by have := hin j (by omega); omega, h2⟩
    rcases uo_at (c := c) (L := L) (w := w) (s := s) (t := c 16 0 + N) n with ⟨h1, h2⟩ | ⟨h1, h2⟩
    · rw [h1, if_pos (e.mpr h2)]
    · rw [h1, if_neg (fun z => h2 (e.mp z))]
theorem smN_add (f h : Nat → Int) : ∀ n : Nat, smN (fun k => f k + h k) n = smN f n + smN h n
  | 0 => rfl
  | n + 1 => by
    show smN (fun k => f k + h k) n + (f n + h n) = smN f n + f n + (smN h n + h n)
    rw [smN_add f h n]
    omega
/-- the ticks of a stretch -/
theorem sm_in (a lo hi : Int) : ∀ N : Nat, smN (fun t => if lo ≤ a + t ∧ a + t < hi then 1 else 0) N = max 0 (min hi (a + N) - max lo a)
  | 0 => by
    show (0 : Int) = max 0 (min hi (a + ((0 : Nat) : Int)) - max lo a)
    omega
  | N + 1 => by
    show smN (fun t => if lo ≤ a + t ∧ a + t < hi then 1 else 0) N + (if lo ≤ a + (N : Int) ∧ a + (N : Int) < hi then 1 else 0) = _
    rw [sm_in a lo hi N]
    split <;> omega
/-- where the sweep stands: the latest end of what was passed, at least the limit -/
def swQ (c : Tb) (L : Nat) (w : Int) (s : Nat → Nat) (k : Nat) (fr : Int) : Prop := c 16 0 ≤ fr ∧ (∀ j, j < k → ofP c (bB c L) (eE c L) (s j) w → eE c L (s j) ≤ fr) ∧ (fr = c 16 0 ∨ ∃ j, j < k ∧ ofP c (bB c L) (eE c L) (s j) w ∧ eE c L (s j) = fr)
theorem sw_step {c : Tb} {L : Nat} {w fr x : Int} {s : Nat → Nat} {k N : Nat} (hs : ∀ k l : Nat, k < l → (l : Int) < c 6 0 → aL c L (s k) (s l)) (hk : (k : Int) < c 6 0) (h : swQ c L w s k fr) (hx : x = smN (fun t => uoQ c L w s (c 16 0 + t) k) N) (ho : ofP c (bB c L) (eE c L) (s k) w) (hN : eE c L (s k) ≤ c 16 0 + N ∨ eE c L (s k) ≤ c 16 0) :
    swQ c L w s (k + 1) (max fr (eE c L (s k))) ∧ x + max 0 (eE c L (s k) - max fr (bB c L (s k))) = smN (fun t => uoQ c L w s (c 16 0 + t) (k + 1)) N := by
  obtain ⟨h1, h2, h3⟩ := h
  refine ⟨⟨by omega, fun j hj hjo => ?_, ?_⟩, ?_⟩
  · by_cases z : j = k
    · rw [z]; omega
    · have := h2 j (by omega) hjo; omega
  · by_cases z : eE c L (s k) ≤ fr
    · rw [show max fr (eE c L (s k)) = fr by omega]
      rcases h3 with h3 | ⟨j, j1, j2⟩
      · exact Or.inl h3
      · exact Or.inr ⟨j, by omega, j2⟩
    · exact Or.inr ⟨k, Nat.lt_succ_self k, ho, by omega⟩
  · have e : smN (fun t => uoQ c L w s (c 16 0 + t) (k + 1)) N = smN (fun t => uoQ c L w s (c 16 0 + t) k + (if max fr (bB c L (s k)) ≤ c 16 0 + t ∧ c 16 0 + t < eE c L (s k) then 1 else 0)) N := by
      refine smN_eq N (fun t _ => ?_)
      have ua := uo_at (c := c) (L := L) (w := w) (s := s) (t := c 16 0 + t) k
      have ub := uo_at (c := c) (L := L) (w := w) (s := s) (t := c 16 0 + t) (k + 1)
      rcases ua with ⟨a1, j, a2, a3, a4, a5⟩ | ⟨a1, a2⟩
      · have a6 := h2 j a2 a3
        rw [a1, if_neg (by omega)]
        rcases ub with ⟨b1, _⟩ | ⟨_, b2⟩
        · omega
        · exact absurd ⟨j, by omega, a3, a4, a5⟩ b2
      · by_cases z : max fr (bB c L (s k)) ≤ c 16 0 + t ∧ c 16 0 + t < eE c L (s k)
        · rw [a1, if_pos z]
          rcases ub with ⟨b1, _⟩ | ⟨_, b2⟩
          · omega
          · exact absurd ⟨k, Nat.lt_succ_self k, ho, by omega, by omega⟩ b2
        · rw [a1, if_neg z]
          rcases ub with ⟨_, j, b1, b2, b3, b4⟩ | ⟨b1, _⟩
          · exfalso
            by_cases y : j = k
            · rw [y] at b3 b4
              rcases h3 with h3 | ⟨i, i1, i2, i3⟩
              · omega
              · have a7 := hs i k i1 hk
                unfold aL ahP at a7
                exact a2 ⟨i, i1, i2, by omega, by omega⟩
            · exact a2 ⟨j, by omega, b2, b3, b4⟩
          · omega
    have key : ∀ (f0 b0 e0 a0 m0 : Int), a0 ≤ f0 → 0 ≤ m0 → (e0 ≤ a0 + m0 ∨ e0 ≤ a0) → max 0 (e0 - max f0 b0) = max 0 (min e0 (a0 + m0) - max (max f0 b0) a0) := by
      intros
      omega
    rw [e, smN_add, sm_in, ← hx, key fr (bB c L (s k)) (eE c L (s k)) (c 16 0) N h1 (by omega) hN]
theorem sw_skip {c : Tb} {L : Nat} {w fr x : Int} {s : Nat → Nat} {k N : Nat} (h : swQ c L w s k fr) (hx : x = smN (fun t => uoQ c L w s (c 16 0 + t) k) N) (ho : ¬ ofP c (bB c L) (eE c L) (s k) w) : swQ c L w s (k + 1) fr ∧ x = smN (fun t => uoQ c L w s (c 16 0 + t) (k + 1)) N := by
  obtain ⟨h1, h2, h3⟩ := h
  refine ⟨⟨h1, fun j hj hjo => ?_, h3.imp id (fun ⟨j, j1, j2⟩ => ⟨j, by omega, j2⟩)⟩, ?_⟩
  · by_cases z : j = k
    · rw [z] at hjo; exact absurd hjo ho
    · exact h2 j (by omega) hjo
  · rw [hx]
    refine smN_eq N (fun t _ => ?_)
    rcases uo_at (c := c) (L := L) (w := w) (s := s) (t := c 16 0 + t) k with ⟨a1, j, a2, a3⟩ | ⟨a1, a2⟩
    · rcases uo_at (c := c) (L := L) (w := w) (s := s) (t := c 16 0 + t) (k + 1) with ⟨b1, _⟩ | ⟨_, b2⟩
      · rw [a1, b1]
      · exact absurd ⟨j, by omega, a3⟩ b2
    · rcases uo_at (c := c) (L := L) (w := w) (s := s) (t := c 16 0 + t) (k + 1) with ⟨_, j, b1, b2⟩ | ⟨b1, _⟩
      · by_cases y : j = k
        · rw [y] at b2; exact absurd b2.1 ho
        · exact absurd ⟨j, by omega, b2⟩ a2
      · rw [a1, b1]
theorem sw_0 {c : Tb} {L : Nat} {w : Int} {s : Nat → Nat} (N : Nat) : swQ c L w s 0 (c 16 0) ∧ 0 = smN (fun t => uoQ c L w s (c 16 0 + t) 0) N := by
  refine ⟨⟨Int.le_refl _, fun j hj => absurd hj (Nat.not_lt_zero j), Or.inl rfl⟩, ?_⟩
  induction N with
  | zero => rfl
  | succ N ih =>
    show (0 : Int) = smN (fun t => uoQ c L w s (c 16 0 + t) 0) N + 0
    omega
end KP
