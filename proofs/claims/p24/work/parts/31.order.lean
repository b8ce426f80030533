section KO
/-- a sum over the first n -/
def smN (f : Nat → Int) : Nat → Int
  | 0 => 0
  | n + 1 => smN f n + f n
theorem smN_eq {f h : Nat → Int} : ∀ n : Nat, (∀ k, k < n → f k = h k) → smN f n = smN h n
  | 0, _ => rfl
  | n + 1, e => by
    unfold smN
    rw [smN_eq n (fun k hk => e k (by omega)), e n (by omega)]
theorem smN_up {f : Nat → Int} {m : Nat} {a : Int} : ∀ n : Nat, m < n → smN (fun k => if k = m then a else f k) n = smN f n - f m + a
  | 0, h => absurd h (Nat.not_lt_zero _)
  | n + 1, h => by
    show smN (fun k => if k = m then a else f k) n + (if n = m then a else f n) = smN f n + f n - f m + a
    by_cases z : n = m
    · subst z
      rw [if_pos rfl, smN_eq n (h := f) (fun k hk => if_neg (by omega))]
      omega
    · rw [if_neg z, smN_up n (by omega)]
      omega
theorem smN_pm : ∀ (n : Nat) (s : Nat → Nat) (f : Nat → Int), (∀ k, k < n → s k < n) → (∀ q, q < n → ∃ k, k < n ∧ s k = q) → (∀ k l, k < l → l < n → s k ≠ s l) → smN (fun k => f (s k)) n = smN f n
  | 0, _, _, _, _, _ => rfl
  | n + 1, s, f, h1, h2, h3 => by
    obtain ⟨m, hm, em⟩ := h2 n (Nat.lt_succ_self n)
    have hne : ∀ k, k < n + 1 → k ≠ m → s k ≠ n := fun k hk z => by
      by_cases y : k < m
      · have := h3 k m y hm
        rw [em] at this
        exact this
      · have := h3 m k (by omega) hk
        rw [em] at this
        exact fun t => this t.symm
    by_cases hmn : m = n
    · subst hmn
      have ih := smN_pm m s f (fun k hk => by have := h1 k (by omega); have := hne k (by omega) (by omega); omega) (fun q hq => by
        obtain ⟨k, k1, k2⟩ := h2 q (by omega)
        refine ⟨k, ?_, k2⟩
        by_cases z : k = m
        · rw [z, em] at k2; omega
        · omega) (fun k l hk hl => h3 k l hk (by omega))
      show smN (fun k => f (s k)) m + f (s m) = smN f m + f m
      rw [ih, em]
    · have ih := smN_pm n (fun k => if k = m then s n else s k) f (fun k hk => by
        show (if k = m then s n else s k) < n
        split
        · have := h1 n (by omega); have := hne n (by omega) (fun z => hmn z.symm); omega
        · rename_i z
          have := h1 k (by omega); have := hne k (by omega) z; omega) (fun q hq => by
        obtain ⟨k, k1, k2⟩ := h2 q (by omega)
        by_cases z : k = n
        · exact ⟨m, by omega, by show (if m = m then s n else s m) = q; rw [if_pos rfl, ← z, k2]⟩
        · have hkm : k ≠ m := fun y => by rw [y, em] at k2; omega
          exact ⟨k, by omega, by show (if k = m then s n else s k) = q; rw [if_neg hkm, k2]⟩) (fun k l hk hl => by
        show (if k = m then s n else s k) ≠ (if l = m then s n else s l)
        by_cases z1 : k = m
        · rw [if_pos z1, if_neg (by omega)]
          exact fun t => h3 l n (by omega) (by omega) t.symm
        · rw [if_neg z1]
          by_cases z2 : l = m
          · rw [if_pos z2]
            exact h3 k n (by omega) (by omega)
          · rw [if_neg z2]
            exact h3 k l hk (by omega))
      show smN (fun k => f (s k)) n + f (s n) = smN f n + f n
      rw [← ih, smN_eq (f := fun k => f (if k = m then s n else s k)) (h := fun k => if k = m then f (s n) else f (s k)) n (fun k _ => by
        show f (if k = m then s n else s k) = if k = m then f (s n) else f (s k)
        split <;> rfl), smN_up (f := fun k => f (s k)) n (by omega)]
      show _ = smN (fun k => f (s k)) n - f (s m) + f (s n) + f n
      rw [em]
      omega
/-- the order by begin -/
abbrev aL (c : Tb) (L q p : Nat) : Prop := ahP (bB c L) q p
theorem aL_of {c : Tb} {L q p : Nat} (hL : 0 < L) (h : ahQ c q p) : aL c L q p := by
  unfold aL ahP bB
  rcases h with h | ⟨h1, h2⟩
  · exact Or.inl (Int.mul_lt_mul_of_pos_right h (by omega))
  · exact Or.inr ⟨by rw [h1], h2⟩
theorem aL_as {c : Tb} {L q p : Nat} (h : aL c L q p) (h' : aL c L p q) : False := by
  unfold aL ahP at h h'
  omega
/-- what the reference finds next -/
theorem nx_min (c : Tb) (B E : Nat → Int) (q : Nat) (w : Int) : ∀ n : Nat, (nxN c B E q w n = -1 ∧ ∀ p, p < n → ¬ (ofP c B E p w ∧ ahP B q p)) ∨ ∃ r : Nat, nxN c B E q w n = r ∧ r < n ∧ ofP c B E r w ∧ ahP B q r ∧ ∀ p, p < n → ofP c B E p w → ahP B q p → p = r ∨ ahP B r p
  | 0 => Or.inl ⟨rfl, fun p hp => absurd hp (Nat.not_lt_zero p)⟩
  | n + 1 => by
    have e : nxN c B E q w (n + 1) = if ofP c B E n w ∧ ahP B q n ∧ (nxN c B E q w n = -1 ∨ ahP B n (nxN c B E q w n).toNat) then (n : Int) else nxN c B E q w n := rfl
    rcases nx_min c B E q w n with ⟨h1, h2⟩ | ⟨r, h1, h2, h3, h4, h5⟩
    · by_cases z : ofP c B E n w ∧ ahP B q n
      · rw [e, if_pos ⟨z.1, z.2, Or.inl h1⟩]
        refine Or.inr ⟨n, rfl, Nat.lt_succ_self n, z.1, z.2, fun p hp p1 p2 => ?_⟩
        by_cases y : p = n
        · exact Or.inl y
        · exact absurd ⟨p1, p2⟩ (h2 p (by omega))
      · rw [e, if_neg (fun y => z ⟨y.1, y.2.1⟩)]
        refine Or.inl ⟨h1, fun p hp => ?_⟩
        by_cases y : p = n
        · rw [y]; exact z
        · exact h2 p (by omega)
    · by_cases z : ofP c B E n w ∧ ahP B q n ∧ ahP B n r
      · rw [e, if_pos ⟨z.1, z.2.1, Or.inr (by rw [h1, Int.toNat_natCast]; exact z.2.2)⟩]
        refine Or.inr ⟨n, rfl, Nat.lt_succ_self n, z.1, z.2.1, fun p hp p1 p2 => ?_⟩
        by_cases y : p = n
        · exact Or.inl y
        · rcases h5 p (by omega) p1 p2 with t | t
          · rw [t]; exact Or.inr z.2.2
          · refine Or.inr ?_
            have z3 := z.2.2
            unfold ahP at z3 t ⊢
            omega
      · rw [e, if_neg (fun y => z ⟨y.1, y.2.1, by rcases y.2.2 with t | t
                                                  · omega
                                                  · rw [h1, Int.toNat_natCast] at t; exact t⟩)]
        refine Or.inr ⟨r, h1, by omega, h3, h4, fun p hp p1 p2 => ?_⟩
        by_cases y : p = n
        · subst y
          by_cases t : p = r
          · exact Or.inl t
          · refine Or.inr ?_
            have z2 := fun u => z ⟨p1, p2, u⟩
            unfold ahP at z2 ⊢
            omega
        · exact h5 p (by omega) p1 p2
/-- one cue's clash with the next -/
def clQ (c : Tb) (L : Nat) (w : Int) (k : Nat) : Int := if ofP c (bB c L) (eE c L) k w ∧ nxO c (bB c L) (eE c L) k w ≠ -1 ∧ bB c L (nxO c (bB c L) (eE c L) k w).toNat < eE c L k + c 15 0 then 1 else 0
theorem clN_sm (c : Tb) (L : Nat) (w : Int) : ∀ n : Nat, clN c (bB c L) (eE c L) w n = smN (clQ c L w) n
  | 0 => rfl
  | n + 1 => by
    show clN c (bB c L) (eE c L) w n + _ = smN (clQ c L w) n + clQ c L w n
    rw [clN_sm c L w n]
    rfl
/-- the last cue of a worker's among the first k in the order -/
noncomputable def laQ (c : Tb) (L : Nat) (w : Int) (s : Nat → Nat) : Nat → Int
  | 0 => -1
  | k + 1 => @ite Int (ofP c (bB c L) (eE c L) (s k) w) (Classical.propDecidable _) (s k) (laQ c L w s k)
theorem la_s {c : Tb} {L : Nat} {w : Int} {s : Nat → Nat} {k : Nat} : (ofP c (bB c L) (eE c L) (s k) w → laQ c L w s (k + 1) = s k) ∧ (¬ ofP c (bB c L) (eE c L) (s k) w → laQ c L w s (k + 1) = laQ c L w s k) := by
  constructor
  · intro h
    unfold laQ
    rw [if_pos h]
  · intro h
    show @ite Int (ofP c (bB c L) (eE c L) (s k) w) (Classical.propDecidable _) (s k) (laQ c L w s k) = _
    rw [if_neg h]
theorem la_at {c : Tb} {L : Nat} {w : Int} {s : Nat → Nat} : ∀ k : Nat, (laQ c L w s k = -1 ∧ ∀ j, j < k → ¬ ofP c (bB c L) (eE c L) (s j) w) ∨ ∃ m : Nat, m < k ∧ laQ c L w s k = s m ∧ ofP c (bB c L) (eE c L) (s m) w ∧ ∀ j, m < j → j < k → ¬ ofP c (bB c L) (eE c L) (s j) w
  | 0 => Or.inl ⟨rfl, fun j hj => absurd hj (Nat.not_lt_zero j)⟩
  | k + 1 => by
    by_cases h : ofP c (bB c L) (eE c L) (s k) w
    · exact Or.inr ⟨k, Nat.lt_succ_self k, la_s.1 h, h, fun j h1 h2 => by omega⟩
    · rw [la_s.2 h]
      rcases la_at (c := c) (L := L) (w := w) (s := s) k with ⟨h1, h2⟩ | ⟨m, h1, h2, h3, h4⟩
      · refine Or.inl ⟨h1, fun j hj => ?_⟩
        by_cases z : j = k
        · rw [z]; exact h
        · exact h2 j (by omega)
      · refine Or.inr ⟨m, by omega, h2, h3, fun j j1 j2 => ?_⟩
        by_cases z : j = k
        · rw [z]; exact h
        · exact h4 j j1 (by omega)
section Ord
variable {c : Tb} {L : Nat} {w : Int} {s : Nat → Nat}
/-- the next in the order is what the reference finds -/
theorem nx_ord (hs : ∀ k l : Nat, k < l → (l : Int) < c 6 0 → aL c L (s k) (s l)) (hsur : ∀ q : Nat, (q : Int) < c 6 0 → ∃ k : Nat, (k : Int) < c 6 0 ∧ s k = q) {m k : Nat} (hmk : m < k) (hk : (k : Int) < c 6 0) (ho : ofP c (bB c L) (eE c L) (s k) w) (hb : ∀ j, m < j → j < k → ¬ ofP c (bB c L) (eE c L) (s j) w) : nxO c (bB c L) (eE c L) (s m) w = s k := by
  unfold nxO
  have hsk := ho.1
  rcases nx_min c (bB c L) (eE c L) (s m) w (c 6 0).toNat with ⟨h1, h2⟩ | ⟨r, h1, h2, h3, h4, h5⟩
  · exact absurd ⟨ho, hs m k hmk hk⟩ (h2 (s k) (by omega))
  · rw [h1]
    rcases h5 (s k) (by omega) ho (hs m k hmk hk) with z | z
    · rw [z]
    · obtain ⟨l, l1, l2⟩ := hsur r (by omega)
      rw [← l2] at h3 h4 z ⊢
      by_cases y : l < k
      · by_cases x : m < l
        · exact absurd h3 (hb l x y)
        · by_cases t : l = m
          · rw [t] at h4; exact (aL_as h4 h4).elim
          · exact (aL_as h4 (hs l m (by omega) (by omega))).elim
      · by_cases t : l = k
        · rw [t]
        · exact (aL_as z (hs k l (by omega) l1)).elim
theorem nx_end (hs : ∀ k l : Nat, k < l → (l : Int) < c 6 0 → aL c L (s k) (s l)) (hsur : ∀ q : Nat, (q : Int) < c 6 0 → ∃ k : Nat, (k : Int) < c 6 0 ∧ s k = q) {m : Nat} (hm : (m : Int) < c 6 0) (hb : ∀ j : Nat, m < j → (j : Int) < c 6 0 → ¬ ofP c (bB c L) (eE c L) (s j) w) : nxO c (bB c L) (eE c L) (s m) w = -1 := by
  unfold nxO
  rcases nx_min c (bB c L) (eE c L) (s m) w (c 6 0).toNat with ⟨h1, h2⟩ | ⟨r, h1, h2, h3, h4, h5⟩
  · exact h1
  · obtain ⟨l, l1, l2⟩ := hsur r (by omega)
    rw [← l2] at h3 h4
    by_cases x : m < l
    · exact absurd h3 (hb l x l1)
    · by_cases t : l = m
      · rw [t] at h4; exact (aL_as h4 h4).elim
      · exact (aL_as h4 (hs l m (by omega) hm)).elim
/-- clashes counted in the order; the last cue's own is still open -/
theorem cc_step (hs : ∀ k l : Nat, k < l → (l : Int) < c 6 0 → aL c L (s k) (s l)) (hsur : ∀ q : Nat, (q : Int) < c 6 0 → ∃ k : Nat, (k : Int) < c 6 0 ∧ s k = q) {k : Nat} {x : Int} (hk : (k : Int) < c 6 0) (hx : x + (if laQ c L w s k = -1 then 0 else clQ c L w (laQ c L w s k).toNat) = smN (fun j => clQ c L w (s j)) k) :
    (ofP c (bB c L) (eE c L) (s k) w → (x + (if laQ c L w s k ≠ -1 ∧ bB c L (s k) < eE c L (laQ c L w s k).toNat + c 15 0 then 1 else 0)) + (if laQ c L w s (k + 1) = -1 then 0 else clQ c L w (laQ c L w s (k + 1)).toNat) = smN (fun j => clQ c L w (s j)) (k + 1)) ∧
    (¬ ofP c (bB c L) (eE c L) (s k) w → x + (if laQ c L w s (k + 1) = -1 then 0 else clQ c L w (laQ c L w s (k + 1)).toNat) = smN (fun j => clQ c L w (s j)) (k + 1)) := by
  have e : smN (fun j => clQ c L w (s j)) (k + 1) = smN (fun j => clQ c L w (s j)) k + clQ c L w (s k) := rfl
  constructor
  · intro ho
    have e1 : (if laQ c L w s (k + 1) = -1 then 0 else clQ c L w (laQ c L w s (k + 1)).toNat) = clQ c L w (s k) := by rw [la_s.1 ho, if_neg (by omega), Int.toNat_natCast]
    rw [e, e1, ← hx]
    rcases la_at (c := c) (L := L) (w := w) (s := s) k with ⟨h1, h2⟩ | ⟨m, h1, h2, h3, h4⟩
    · have e2 : (if laQ c L w s k ≠ -1 ∧ bB c L (s k) < eE c L (laQ c L w s k).toNat + c 15 0 then (1 : Int) else 0) = 0 := if_neg (fun z => z.1 h1)
      rw [e2, if_pos h1]
    · have hn := nx_ord (w := w) hs hsur h1 hk ho h4
      have ec : clQ c L w (s m) = if bB c L (s k) < eE c L (s m) + c 15 0 then 1 else 0 := by
        unfold clQ
        rw [hn, Int.toNat_natCast]
        by_cases z : bB c L (s k) < eE c L (s m) + c 15 0
        · rw [if_pos z, if_pos ⟨h3, by omega, z⟩]
        · rw [if_neg z, if_neg (fun y => z y.2.2)]
      rw [h2, Int.toNat_natCast]
      have e3 : (if (s m : Int) = -1 then 0 else clQ c L w (s m)) = clQ c L w (s m) := if_neg (by omega)
      rw [e3, ec]
      by_cases z : bB c L (s k) < eE c L (s m) + c 15 0
      · have e4 : (if (s m : Int) ≠ -1 ∧ bB c L (s k) < eE c L (s m) + c 15 0 then (1 : Int) else 0) = 1 := if_pos ⟨by omega, z⟩
        rw [e4, if_pos z]
      · have e4 : (if (s m : Int) ≠ -1 ∧ bB c L (s k) < eE c L (s m) + c 15 0 then (1 : Int) else 0) = 0 := if_neg (fun y => z y.2)
        rw [e4, if_neg z]
  · intro ho
    rw [e, ← hx, la_s.2 ho]
    have : clQ c L w (s k) = 0 := by
      unfold clQ
      rw [if_neg (fun z => ho z.1)]
    omega
theorem cc_end (hs : ∀ k l : Nat, k < l → (l : Int) < c 6 0 → aL c L (s k) (s l)) (hsur : ∀ q : Nat, (q : Int) < c 6 0 → ∃ k : Nat, (k : Int) < c 6 0 ∧ s k = q) (hin : ∀ k : Nat, (k : Int) < c 6 0 → (s k : Int) < c 6 0) {n : Nat} (hn : c 6 0 = n) {x : Int} (hx : x + (if laQ c L w s n = -1 then 0 else clQ c L w (laQ c L w s n).toNat) = smN (fun j => clQ c L w (s j)) n) : x = clN c (bB c L) (eE c L) w n := by
  have h0 : (if laQ c L w s n = -1 then 0 else clQ c L w (laQ c L w s n).toNat) = 0 := by
    rcases la_at (c := c) (L := L) (w := w) (s := s) n with ⟨h1, h2⟩ | ⟨m, h1, h2, h3, h4⟩
    · rw [if_pos h1]
    · rw [h2, if_neg (by omega), Int.toNat_natCast]
      unfold clQ
      rw [if_neg]
      intro z
      exact z.2.1 (nx_end hs hsur (by omega) (fun j j1 j2 => h4 j j1 (by omega)))
  rw [h0, smN_pm n s (clQ c L w) (fun k hk => by have := hin k (by omega); omega) (fun q hq => by obtain ⟨k, k1, k2⟩ := hsur q (by omega); exact ⟨k, by omega, k2⟩) (fun k l hk hl z => by have := hs k l hk (by omega); rw [z] at this; exact aL_as this this)] at hx
  rw [clN_sm, ← hx]
  omega
end Ord
theorem cnt_out {c : Tb} {L q : Nat} (hL : 0 < L) (h6 : c 6 0 ≤ 24) (h : c 11 q ≠ 0) : ∀ t : Nat, cnt c L q t = 0
  | 0 => rfl
  | t + 1 => by
    show cnt c L q t + _ = 0
    rw [cnt_out hL h6 h t, if_neg]
    · rfl
    · intro z
      rcases tr_run (k := (c 8 q).toNat) hL h6 (t + 1) with h2 | ⟨j, h2, -, h3, -⟩
      · omega
      · have : j = q := by omega
        rw [this] at h3
        exact h h3
theorem cnt_le {c : Tb} {L q : Nat} (hL : 0 < L) (h6 : c 6 0 ≤ 24) (h7 : 0 ≤ c 7 q * L) : ∀ t : Nat, c 7 q * L ≤ t → c 7 q * L + cnt c L q t ≤ t
  | 0, h => by
    show c 7 q * L + 0 ≤ ((0 : Nat) : Int)
    omega
  | t + 1, h => by
    by_cases z : c 7 q * L ≤ t
    · have ih := cnt_le hL h6 h7 t z
      have e : cnt c L q (t + 1) = cnt c L q t + (if (tr c L (c 8 q).toNat (t + 1)).2 = q ∧ (tr c L (c 8 q).toNat t).1 ≠ c 9 q then 1 else 0) := rfl
      rw [e]
      split <;> omega
    · rw [cnt_0 hL h6 (t + 1) (by omega)]
      omega
/-- of a worker: as the class asks -/
theorem of_cl {c : Tb} {L q : Nat} {w : Int} (hL : 0 < L) (h6 : c 6 0 ≤ 24) (hq : (q : Int) < c 6 0) : ofP c (bB c L) (eE c L) q w ↔ 0 < cnt c L q (NT c L) ∧ wOf c q = w := by
  have h0 := cnt_rg c L q (NT c L)
  have e : eE c L q = bB c L q + cnt c L q (NT c L) := rfl
  unfold ofP
  rw [e]
  constructor
  · intro ⟨_, _, a3, a4⟩
    exact ⟨by omega, a4⟩
  · intro ⟨a1, a2⟩
    refine ⟨hq, Classical.byContradiction (fun z => ?_), by omega, a2⟩
    have := cnt_out (q := q) hL h6 z (NT c L)
    omega
end KO
