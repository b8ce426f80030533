/-! a night tick by tick: what the reference keeps of cues, and what it comes to -/
section RS5
/-- ticks before t at which cue q runs and its machine isn't at its target -/
def cnt (c : Tb) (L q : Nat) : Nat → Int
  | 0 => 0
  | t + 1 => cnt c L q t + (if (tr c L (c 8 q).toNat (t + 1)).2 = q ∧ (tr c L (c 8 q).toNat t).1 ≠ c 9 q then 1 else 0)
theorem cnt_rg (c : Tb) (L q : Nat) : ∀ t : Nat, 0 ≤ cnt c L q t ∧ cnt c L q t ≤ t
  | 0 => by unfold cnt; omega
  | t + 1 => by
    have := cnt_rg c L q t
    unfold cnt
    split <;> omega
def lookE (c : Tb) (L t k : Nat) : Int := if t % L = 0 then eff c k (t / L : Nat) else -1
theorem tr_2 (c : Tb) (L k t : Nat) : (tr c L k (t + 1)).2 = if lookE c L t k = -1 then (tr c L k t).2 else lookE c L t k := rfl
theorem lookE_q {c : Tb} {L t k : Nat} (hL : 0 < L) (h6 : c 6 0 ≤ 24) : lookE c L t k = -1 ∨ ∃ q : Nat, lookE c L t k = q ∧ (q : Int) < c 6 0 ∧ c 11 q = 0 ∧ c 8 q = k ∧ c 7 q * L = t := by
  unfold lookE
  split
  · rename_i h
    rcases effN_m1 c k (t / L : Nat) (c 6 0).toNat with h1 | ⟨j, h1, h2, h3, h4, h5⟩
    · exact Or.inl h1
    · refine Or.inr ⟨j, h2, by omega, h3, h4, ?_⟩
      rw [h5, ← Int.natCast_mul]
      exact congrArg _ (Nat.div_mul_cancel (Nat.dvd_of_mod_eq_zero h))
  · exact Or.inl rfl
theorem tr_run {c : Tb} {L k : Nat} (hL : 0 < L) (h6 : c 6 0 ≤ 24) : ∀ t : Nat, (tr c L k t).2 = -1 ∨ ∃ q : Nat, (tr c L k t).2 = q ∧ (q : Int) < c 6 0 ∧ c 11 q = 0 ∧ c 8 q = k ∧ c 7 q * L < t
  | 0 => Or.inl rfl
  | t + 1 => by
    rw [tr_2]
    rcases lookE_q (t := t) (k := k) hL h6 with h | ⟨q, h1, h2, h3, h4, h5⟩
    · rw [if_pos h]
      rcases tr_run hL h6 t with h | ⟨q, h1, h2, h3, h4, h5⟩
      · exact Or.inl h
      · exact Or.inr ⟨q, h1, h2, h3, h4, by omega⟩
    · rw [if_neg (by omega)]
      exact Or.inr ⟨q, h1, h2, h3, h4, by omega⟩
theorem cnt_0 {c : Tb} {L q : Nat} (hL : 0 < L) (h6 : c 6 0 ≤ 24) : ∀ t : Nat, (t : Int) ≤ c 7 q * L → cnt c L q t = 0
  | 0, _ => rfl
  | t + 1, h => by
    unfold cnt
    rw [cnt_0 hL h6 t (by omega), if_neg]
    · rfl
    · intro hh
      obtain ⟨h1, -⟩ := hh
      rcases tr_run (k := (c 8 q).toNat) hL h6 (t + 1) with h2 | ⟨j, h2, -, -, -, h3⟩
      · omega
      · have : j = q := by omega
        subst this
        omega
def GK (c : Tb) (L t : Nat) (r : Int) (M : Tb) (k : Nat) : Prop := M 19 k = (tr c L k t).1 ∧ M 20 k = aimOf c k r ∧
  (M 21 k = -1 ∨ ∃ q : Nat, M 21 k = q ∧ (q : Int) < c 6 0 ∧ c 8 q = k ∧ r = q ∧ M 22 q = c 7 q * L ∧ (t : Int) = M 22 q + cnt c L q t) ∧
  (∀ q : Nat, (q : Int) < c 6 0 → c 8 q = k → M 21 k ≠ q → M 23 q = M 22 q + cnt c L q t ∧ (cnt c L q t ≠ 0 → M 22 q = c 7 q * L) ∧ (r = q → (tr c L k t).1 = c 9 q))
def look1 (c : Tb) (L t k : Nat) (M : Tb) : Tb := if lookE c L t k = -1 then M else tu (tu (tu (if M 21 k = -1 then M else tu M 23 (M 21 k).toNat t) 22 (lookE c L t k).toNat t) 21 k (lookE c L t k)) 20 k (c 9 (lookE c L t k).toNat)
def look2 (t k : Nat) (M : Tb) : Tb := if M 21 k ≠ -1 ∧ M 19 k = M 20 k then tu (tu M 23 (M 21 k).toNat t) 21 k (-1) else M
def lookK (c : Tb) (L t k : Nat) (M : Tb) : Tb := look2 t k (look1 c L t k M)
def lookN (c : Tb) (L t : Nat) (M : Tb) : Nat → Tb
  | 0 => M
  | k + 1 => lookK c L t k (lookN c L t M k)
theorem aim_q {c : Tb} {k q : Nat} {r : Int} (h : r = q) : aimOf c k r = c 9 q := by
  unfold aimOf
  rw [h, if_neg (by omega), Int.toNat_natCast]
theorem look1_ok {c : Tb} {L t k : Nat} {M : Tb} (hL : 0 < L) (h6 : c 6 0 ≤ 24) (h : GK c L t (tr c L k t).2 M k) : GK c L t (tr c L k (t + 1)).2 (look1 c L t k M) k := by
  rw [tr_2]
  unfold look1
  rcases lookE_q (t := t) (k := k) hL h6 with he | ⟨e, he, e1, e2, e3, e4⟩
  · rw [if_pos he, if_pos he]
    exact h
  · rw [if_neg (by omega), if_neg (by omega), he]
    rw [Int.toNat_natCast]
    have c0 : cnt c L e t = 0 := cnt_0 hL h6 t (by omega)
    obtain ⟨h1, h2, h3, h4⟩ := h
    refine ⟨?_, by rw [tu_s, aim_q rfl], Or.inr ⟨e, by rw [tu_k (by decide), tu_s], e1, e3, rfl, by rw [tu_k (by decide), tu_k (by decide), tu_s, e4], by rw [tu_k (by decide), tu_k (by decide), tu_s, c0]; omega⟩, fun q hq hk hn => ?_⟩
    · rw [tu_k (by decide), tu_k (by decide), tu_k (by decide)]
      split
      · exact h1
      · rw [tu_k (by decide)]; exact h1
    · rw [tu_k (by decide), tu_s] at hn
      have hne : q ≠ e := fun z => hn (by rw [z])
      rw [tu_k (by decide), tu_k (by decide), tu_k (by decide), tu_k (by decide), tu_k (by decide), tu_j hne]
      by_cases hw : M 21 k = -1
      · rw [if_pos hw]
        have h5 := h4 q hq hk (by omega)
        exact ⟨h5.1, h5.2.1, fun z => absurd z (by omega)⟩
      · rw [if_neg hw]
        rcases h3 with h3 | ⟨q0, g1, g2, g3, g4, g5, g6⟩
        · exact absurd h3 hw
        · rw [g1, Int.toNat_natCast]
          by_cases hq0 : q = q0
          · subst hq0
            rw [tu_s, tu_k (by decide)]
            exact ⟨g6, fun _ => g5, fun z => absurd z (by omega)⟩
          · rw [tu_j hq0, tu_k (by decide)]
            have h5 := h4 q hq hk (by omega)
            exact ⟨h5.1, h5.2.1, fun z => absurd z (by omega)⟩
theorem look2_ok {c : Tb} {L t k : Nat} {r : Int} {M : Tb} (h : GK c L t r M k) : GK c L t r (look2 t k M) k ∧ (look2 t k M 21 k ≠ -1 → (tr c L k t).1 ≠ aimOf c k r) := by
  obtain ⟨h1, h2, h3, h4⟩ := id h
  unfold look2
  by_cases hw : M 21 k ≠ -1 ∧ M 19 k = M 20 k
  · rw [if_pos hw]
    rcases h3 with h3 | ⟨q0, g1, g2, g3, g4, g5, g6⟩
    · exact absurd h3 hw.1
    · rw [g1, Int.toNat_natCast]
      refine ⟨⟨by rw [tu_k (by decide), tu_k (by decide)]; exact h1, by rw [tu_k (by decide), tu_k (by decide)]; exact h2, Or.inl (tu_s ..), fun q hq hk hn => ?_⟩, fun z => absurd (tu_s ..) z⟩
      rw [tu_k (a := 23) (k := 21) (by decide), tu_k (a := 22) (k := 21) (by decide), tu_k (a := 22) (k := 23) (by decide)]
      by_cases hq0 : q = q0
      · subst hq0
        rw [tu_s]
        exact ⟨g6, fun _ => g5, fun _ => by rw [← h1, hw.2, h2, aim_q g4]⟩
      · rw [tu_j hq0]
        exact h4 q hq hk (by omega)
  · rw [if_neg hw]
    exact ⟨h, fun z q => hw ⟨z, by rw [h1, h2]; exact q⟩⟩
theorem GK_eq {c : Tb} {L t : Nat} {r : Int} {M M' : Tb} {k : Nat} (h : GK c L t r M k) (h1 : M' 19 k = M 19 k) (h2 : M' 20 k = M 20 k) (h3 : M' 21 k = M 21 k) (h4 : ∀ q : Nat, c 8 q = k → M' 22 q = M 22 q ∧ M' 23 q = M 23 q) : GK c L t r M' k := by
  obtain ⟨a1, a2, a3, a4⟩ := h
  refine ⟨by rw [h1]; exact a1, by rw [h2]; exact a2, ?_, fun q hq hk hn => ?_⟩
  · rw [h3]
    rcases a3 with a3 | ⟨q0, g1, g2, g3, g4, g5, g6⟩
    · exact Or.inl a3
    · exact Or.inr ⟨q0, g1, g2, g3, g4, by rw [(h4 q0 g3).1]; exact g5, by rw [(h4 q0 g3).1]; exact g6⟩
  · rw [h3] at hn
    rw [(h4 q hk).1, (h4 q hk).2]
    exact a4 q hq hk hn
/-- the rows of machine k and its cues alone are touched -/
theorem lookK_frame {c : Tb} {L t k : Nat} {M : Tb} (hL : 0 < L) (h6 : c 6 0 ≤ 24) (h : GK c L t (tr c L k t).2 M k) : (∀ a j, (a < 20 ∨ 24 ≤ a) → lookK c L t k M a j = M a j) ∧ (∀ j, j ≠ k → lookK c L t k M 20 j = M 20 j ∧ lookK c L t k M 21 j = M 21 j) ∧ (∀ q : Nat, c 8 q ≠ k → lookK c L t k M 22 q = M 22 q ∧ lookK c L t k M 23 q = M 23 q) ∧
    (∀ q : Nat, (lookK c L t k M 22 q = M 22 q ∨ lookK c L t k M 22 q = t) ∧ (lookK c L t k M 23 q = M 23 q ∨ lookK c L t k M 23 q = t)) := by
  have g1 := look1_ok hL h6 h
  have f1 : (∀ a j, (a < 20 ∨ 24 ≤ a) → look1 c L t k M a j = M a j) ∧ (∀ j, j ≠ k → look1 c L t k M 20 j = M 20 j ∧ look1 c L t k M 21 j = M 21 j) ∧ (∀ q : Nat, c 8 q ≠ k → look1 c L t k M 22 q = M 22 q ∧ look1 c L t k M 23 q = M 23 q) ∧ (∀ q : Nat, (look1 c L t k M 22 q = M 22 q ∨ look1 c L t k M 22 q = t) ∧ (look1 c L t k M 23 q = M 23 q ∨ look1 c L t k M 23 q = t)) := by
    unfold look1
    rcases lookE_q (t := t) (k := k) hL h6 with he | ⟨e, he, e1, e2, e3, e4⟩
    · rw [if_pos he]
      exact ⟨fun _ _ _ => rfl, fun _ _ => ⟨rfl, rfl⟩, fun _ _ => ⟨rfl, rfl⟩, fun _ => ⟨Or.inl rfl, Or.inl rfl⟩⟩
    · rw [if_neg (by omega), he, Int.toNat_natCast]
      have key : ∃ M1 : Tb, (if M 21 k = -1 then M else tu M 23 (M 21 k).toNat t) = M1 ∧ (∀ a j, a ≠ 23 → M1 a j = M a j) ∧ (∀ q : Nat, c 8 q ≠ k → M1 23 q = M 23 q) ∧ (∀ q : Nat, M1 23 q = M 23 q ∨ M1 23 q = t) := by
        refine ⟨_, rfl, ?_⟩
        by_cases hw : M 21 k = -1
        · rw [if_pos hw]
          exact ⟨fun _ _ _ => rfl, fun _ _ => rfl, fun _ => Or.inl rfl⟩
        · rw [if_neg hw]
          rcases h.2.2.1 with h3 | ⟨q0, b1, b2, b3, -⟩
          · exact absurd h3 hw
          · rw [b1, Int.toNat_natCast]
            refine ⟨fun a j ha => tu_k ha, fun q hq => tu_j (fun z => hq (by rw [z]; exact b3)), fun q => ?_⟩
            by_cases hq : q = q0
            · subst hq; exact Or.inr (tu_s ..)
            · exact Or.inl (tu_j hq)
      obtain ⟨M1, hM1, k1, k2, k3⟩ := key
      rw [hM1]
      refine ⟨fun a j ha => ?_, fun j hj => ⟨?_, ?_⟩, fun q hq => ⟨?_, ?_⟩, fun q => ⟨?_, ?_⟩⟩
      · rw [tu_k (by omega), tu_k (by omega), tu_k (by omega)]; exact k1 a j (by omega)
      · rw [tu_j hj, tu_k (by decide), tu_k (by decide)]; exact k1 _ _ (by decide)
      · rw [tu_k (by decide), tu_j hj, tu_k (by decide)]; exact k1 _ _ (by decide)
      · rw [tu_k (by decide), tu_k (by decide), tu_j (fun z => hq (by rw [z]; exact e3))]; exact k1 _ _ (by decide)
      · rw [tu_k (by decide), tu_k (by decide), tu_k (by decide)]; exact k2 q hq
      · rw [tu_k (by decide), tu_k (by decide)]
        by_cases hqe : q = e
        · subst hqe; exact Or.inr (tu_s ..)
        · rw [tu_j hqe]; exact Or.inl (k1 _ _ (by decide))
      · rw [tu_k (by decide), tu_k (by decide), tu_k (by decide)]; exact k3 q
  unfold lookK look2
  by_cases hw : look1 c L t k M 21 k ≠ -1 ∧ look1 c L t k M 19 k = look1 c L t k M 20 k
  · rw [if_pos hw]
    rcases g1.2.2.1 with h3 | ⟨q0, b1, b2, b3, -⟩
    · exact absurd h3 hw.1
    · rw [b1, Int.toNat_natCast]
      refine ⟨fun a j ha => ?_, fun j hj => ⟨?_, ?_⟩, fun q hq => ⟨?_, ?_⟩, fun q => ⟨?_, ?_⟩⟩
      · rw [tu_k (by omega), tu_k (by omega)]; exact f1.1 a j ha
      · rw [tu_k (by decide), tu_k (by decide)]; exact (f1.2.1 j hj).1
      · rw [tu_j hj, tu_k (by decide)]; exact (f1.2.1 j hj).2
      · rw [tu_k (by decide), tu_k (by decide)]; exact (f1.2.2.1 q hq).1
      · rw [tu_k (by decide), tu_j (fun z => hq (by rw [z]; exact b3))]; exact (f1.2.2.1 q hq).2
      · rw [tu_k (by decide), tu_k (by decide)]; exact (f1.2.2.2 q).1
      · rw [tu_k (by decide)]
        by_cases hq : q = q0
        · subst hq; exact Or.inr (tu_s ..)
        · rw [tu_j hq]; exact (f1.2.2.2 q).2
  · rw [if_neg hw]
    exact f1
/-- a pair of wagons that meet, of places P; the least pair of all, seen from an earlier finding -/
abbrev mtB (c : Tb) (P : Nat → Int) (k j : Nat) : Prop := c 1 k = 0 ∧ c 1 j = 0 ∧ c 2 k = c 2 j ∧ 2 * (if P k < P j then P j - P k else P k - P j) < c 3 k + c 3 j
def lpJ (c : Tb) (P : Nat → Int) (k : Nat) (a : Int) : Nat → Int
  | 0 => a
  | n + 1 => if lpJ c P k a n = -1 ∧ mtB c P k (k + 1 + n) then 10 * (k : Int) + (k + 1 + n : Nat) else lpJ c P k a n
def lpK (c : Tb) (P : Nat → Int) (a : Int) : Nat → Int
  | 0 => a
  | k + 1 => lpJ c P k (lpK c P a k) ((c 0 0).toNat - (k + 1))
/-- first meeting and its pair, of the ticks before t -/
def mtP (c : Tb) (L : Nat) : Nat → Int × Int
  | 0 => (-1, -1)
  | t + 1 => (if (mtP c L t).2 = -1 ∧ lpK c (fun k => (tr c L k t).1) (mtP c L t).2 (c 0 0).toNat ≠ -1 then (t : Int) else (mtP c L t).1, lpK c (fun k => (tr c L k t).1) (mtP c L t).2 (c 0 0).toNat)
theorem mv_same {tb sp m : Int} (hm : 0 ≤ m ∧ m ≤ 359) (hs : 0 ≤ sp) : mv tb sp m m = m := by
  unfold mv
  simp only []
  by_cases h : tb = 0
  · simp only [if_pos h]
    (repeat' split) <;> omega
  · simp only [if_neg h]
    (repeat' split) <;> omega
/-- a tick's moves behind the looks: machine k's rows are those of the next tick -/
theorem GK_move {c : Tb} {L t k : Nat} {M M' : Tb} (hw : WF c) (hk8 : ∀ q : Nat, c 8 q = k → (c 8 q).toNat = k) (h : GK c L t (tr c L k (t + 1)).2 M k) (hn : M 21 k ≠ -1 → (tr c L k t).1 ≠ aimOf c k (tr c L k (t + 1)).2) (h1 : M' 19 k = mv (c 1 k) (c 4 k) (M 19 k) (M 20 k)) (h2 : ∀ a j, a ≠ 19 → M' a j = M a j) : GK c L (t + 1) (tr c L k (t + 1)).2 M' k := by
  obtain ⟨a1, a2, a3, a4⟩ := h
  refine ⟨?_, by rw [h2 _ _ (by decide)]; exact a2, ?_, fun q hq hk hnq => ?_⟩
  · rw [h1, a1, a2]
    rfl
  · rw [h2 21 k (by decide)]
    rcases a3 with a3 | ⟨q0, g1, g2, g3, g4, g5, g6⟩
    · exact Or.inl a3
    · refine Or.inr ⟨q0, g1, g2, g3, g4, by rw [h2 _ _ (by decide)]; exact g5, ?_⟩
      rw [h2 _ _ (by decide)]
      unfold cnt
      rw [hk8 q0 g3, if_pos ⟨g4, fun z => hn (by omega) (by rw [z, aim_q g4])⟩]
      omega
  · rw [h2 21 k (by decide)] at hnq
    obtain ⟨b1, b2, b3⟩ := a4 q hq hk hnq
    have hc : cnt c L q (t + 1) = cnt c L q t := by
      rw [show cnt c L q (t + 1) = cnt c L q t + (if (tr c L (c 8 q).toNat (t + 1)).2 = q ∧ (tr c L (c 8 q).toNat t).1 ≠ c 9 q then 1 else 0) from rfl, hk8 q hk, if_neg (fun z => z.2 (b3 z.1))]
      omega
    rw [h2 _ _ (by decide), h2 _ _ (by decide), hc]
    refine ⟨b1, b2, fun z => ?_⟩
    have e : (tr c L k (t + 1)).1 = mv (c 1 k) (c 4 k) (tr c L k t).1 (aimOf c k (tr c L k (t + 1)).2) := rfl
    rw [e, aim_q z, b3 z]
    exact mv_same ((hw.2.2.2.2.2.2.2.2.1 q).2.2.2.2.1) (hw.2.2.2.2.2.2.2.1 k).2.2.2.2.1.1
end RS5
