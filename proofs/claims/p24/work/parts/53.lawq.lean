/-! what the law's larger methods want -/
section LQ
theorem mtB_eq {c : Tb} {P : Nat → Int} {k j : Nat} {pk pj : Int} (hk : P k = pk) (hj : P j = pj) : mtB c P k j ↔ (c 1 k = 0 ∧ c 1 j = 0 ∧ c 2 k = c 2 j ∧ 2 * (pk - pj) < c 3 k + c 3 j ∧ -2 * (pk - pj) < c 3 k + c 3 j) := by
  unfold mtB
  rw [hk, hj]
  by_cases z : pk < pj
  · rw [if_pos z]
    constructor <;> (intro h; omega)
  · rw [if_neg z]
    constructor <;> (intro h; omega)
theorem lpJ_no {c : Tb} {P : Nat → Int} {k m : Nat} (h : lpJ c P k (-1) m = -1) (hn : ¬ mtB c P k (k + 1 + m)) : lpJ c P k (-1) (m + 1) = -1 := by
  have e : lpJ c P k (-1) (m + 1) = if lpJ c P k (-1) m = -1 ∧ mtB c P k (k + 1 + m) then 10 * (k : Int) + (k + 1 + m : Nat) else lpJ c P k (-1) m := rfl
  rw [e, if_neg (fun z => hn z.2), h]
theorem b6_add {W v : Nat} (hW : W < 64) (hv : v < 6) (h : W / 2 ^ v % 2 = 0) : iI (W : Int) ||| iI ((2 ^ v : Nat) : Int) = iI ((W + 2 ^ v : Nat) : Int) := by
  rw [b6_set W hW v hv, if_neg (by rw [h]; decide)]
theorem wOf_m1 {c : Tb} {q : Nat} (h : wkN c 6 (c 10 q) = -1 ∨ c 17 (wkN c 6 (c 10 q)).toNat ≠ 0) : wOf c q = -1 := if_pos h
theorem wOf_on {c : Tb} {q : Nat} {v : Int} (h : wkN c 6 (c 10 q) = v) (h0 : 0 ≤ v) (h1 : c 17 v.toNat = 0) : wOf c q = v := by
  unfold wOf
  rw [h, if_neg]
  intro z
  rcases z with z | z
  · omega
  · exact z h1
/-- where the law's own count stands behind p places, a worker's cues in their order -/
def WI (c : Tb) (L : Nat) (s : Nat → Nat) (n K : Nat) (a : Int) (j : Nat) (p z y e u : Int) : Prop :=
  ordI c s n j p ∧ z + (if laQ c L a s j = -1 then 0 else clQ c L a (laQ c L a s j).toNat) = smN (fun t => clQ c L a (s t)) j ∧
  ((e = -1 ∧ laQ c L a s j = -1) ∨ ∃ q : Nat, laQ c L a s j = q ∧ e = eE c L q) ∧ swQ c L a s j u ∧ y = smN (fun t => uoQ c L a s (c 16 0 + t) j) K ∧
  (0 ≤ z ∧ z ≤ j) ∧ (0 ≤ y ∧ y ≤ 10000 * (j : Int)) ∧ (-1 ≤ e ∧ e ≤ 5000) ∧ u ≤ 5000
section W
variable {c : Tb} {L : Nat} {s : Nat → Nat} {n K : Nat} {a : Int} {j : Nat} {p z y e u : Int}
theorem WI_0 (hw : WF c) : WI c L s n K a 0 0 0 0 (-1) (c 16 0) := by
  have w16 := hw.2.2.2.2.2.2.1
  exact ⟨ord_0 (fun q => (hw.2.2.2.2.2.2.2.2.1 q).1.1), rfl, Or.inl ⟨rfl, rfl⟩, (sw_0 K).1, (sw_0 K).2, by omega, by omega, by omega, by omega⟩
theorem WI_miss (hin : ∀ k : Nat, k < n → s k < n) (b : Int) {q : Nat} (h : WI c L s n K a j p z y e u) (hq : q < n) (hp : p = b * (n : Int) + q) (h7 : c 7 q ≠ b) : WI c L s n K a j (p + 1) z y e u := ⟨ord_miss hin b h.1 hq hp h7, h.2⟩
theorem WI_skip (hn : c 6 0 = n) (hL : 0 < L) (hs : ∀ k l : Nat, k < l → l < n → ahQ c (s k) (s l)) (hsur : ∀ q : Nat, q < n → ∃ k : Nat, k < n ∧ s k = q) (hin : ∀ k : Nat, k < n → s k < n) (b : Int) {q : Nat} (h : WI c L s n K a j p z y e u) (hq : q < n) (hp : p = b * (n : Int) + q) (h7 : c 7 q = b) (ho : ¬ ofP c (bB c L) (eE c L) q a) : WI c L s n K a (j + 1) (p + 1) z y e u := by
  obtain ⟨h1, h2, h3, h4, h5, h6, h7', h8, h9⟩ := h
  obtain ⟨o1, o2, o3⟩ := ord_hit hs hsur hin b h1 hq hp h7
  have hsO : ∀ k l : Nat, k < l → (l : Int) < c 6 0 → aL c L (s k) (s l) := fun k l k1 k2 => aL_of hL (hs k l k1 (by omega))
  have hsu : ∀ q : Nat, (q : Int) < c 6 0 → ∃ k : Nat, (k : Int) < c 6 0 ∧ s k = q := fun q hq => by
    obtain ⟨k, k1, k2⟩ := hsur q (by omega)
    exact ⟨k, by omega, k2⟩
  rw [← o2] at ho
  have c1 := (cc_step (w := a) hsO hsu (k := j) (by omega) h2).2 ho
  have s1 := sw_skip h4 h5 ho
  have l1 := (la_s (c := c) (L := L) (w := a) (s := s) (k := j)).2 ho
  exact ⟨o3, c1, by rw [l1]; exact h3, s1.1, s1.2, by omega, by omega, h8, h9⟩
theorem WI_hit (hw : WF c) (hn : c 6 0 = n) (hL : 0 < L) (hK : ∀ q : Nat, eE c L q ≤ c 16 0 + K ∨ eE c L q ≤ c 16 0 ∨ ¬ ofP c (bB c L) (eE c L) q a) (hE : ∀ q : Nat, q < n → 0 ≤ bB c L q ∧ eE c L q ≤ 5000) (hs : ∀ k l : Nat, k < l → l < n → ahQ c (s k) (s l)) (hsur : ∀ q : Nat, q < n → ∃ k : Nat, k < n ∧ s k = q) (hin : ∀ k : Nat, k < n → s k < n) (b : Int) {q : Nat} (h : WI c L s n K a j p z y e u) (hq : q < n) (hp : p = b * (n : Int) + q) (h7 : c 7 q = b) (ho : ofP c (bB c L) (eE c L) q a) :
    WI c L s n K a (j + 1) (p + 1) (z + (if 0 ≤ e ∧ bB c L q < e + c 15 0 then 1 else 0)) (y + max 0 (eE c L q - max u (bB c L q))) (eE c L q) (max u (eE c L q)) := by
  obtain ⟨h1, h2, h3, h4, h5, h6, h7', h8, h9⟩ := h
  obtain ⟨o1, o2, o3⟩ := ord_hit hs hsur hin b h1 hq hp h7
  have hsO : ∀ k l : Nat, k < l → (l : Int) < c 6 0 → aL c L (s k) (s l) := fun k l k1 k2 => aL_of hL (hs k l k1 (by omega))
  have hsu : ∀ q : Nat, (q : Int) < c 6 0 → ∃ k : Nat, (k : Int) < c 6 0 ∧ s k = q := fun q hq => by
    obtain ⟨k, k1, k2⟩ := hsur q (by omega)
    exact ⟨k, by omega, k2⟩
  have ho' := ho
  rw [← o2] at ho'
  have c1 := (cc_step (w := a) hsO hsu (k := j) (by omega) h2).1 ho'
  have hKq : eE c L (s j) ≤ c 16 0 + K ∨ eE c L (s j) ≤ c 16 0 := by
    rcases hK (s j) with t | t | t
    · exact Or.inl t
    · exact Or.inr t
    · exact absurd ho' t
  have s1 := sw_step hsO (by omega) h4 h5 ho' hKq
  have l1 := (la_s (c := c) (L := L) (w := a) (s := s) (k := j)).1 ho'
  rw [o2] at c1 s1 l1
  have hb := hE q hq
  have w16 := hw.2.2.2.2.2.2.1
  have hlt : bB c L q < eE c L q := ho.2.2.1
  have u0 : c 16 0 ≤ u := h4.1
  have ez : (if 0 ≤ e ∧ bB c L q < e + c 15 0 then (1 : Int) else 0) = if laQ c L a s j ≠ -1 ∧ bB c L q < eE c L (laQ c L a s j).toNat + c 15 0 then 1 else 0 := by
    rcases h3 with ⟨e1, e2⟩ | ⟨q0, e1, e2⟩
    · rw [if_neg (fun t => by omega), if_neg (fun t => t.1 e2)]
    · have e3 : 0 ≤ e := by
        rcases la_at (c := c) (L := L) (w := a) (s := s) j with ⟨m1, _⟩ | ⟨m, m1, m2, m3, _⟩
        · omega
        · have : s m = q0 := by omega
          rw [this] at m3
          have m4 : bB c L q0 < eE c L q0 := m3.2.2.1
          have m5 := (hE q0 (by have := m3.1; omega)).1
          omega
      rw [e1, Int.toNat_natCast, ← e2]
      by_cases t : bB c L q < e + c 15 0
      · rw [if_pos ⟨e3, t⟩, if_pos ⟨by omega, t⟩]
      · rw [if_neg (fun r => t r.2), if_neg (fun r => t r.2)]
  refine ⟨o3, ?_, Or.inr ⟨q, l1, rfl⟩, s1.1, s1.2, ?_, ?_, by omega, by omega⟩
  · rw [ez]; exact c1
  · split <;> omega
  · omega
theorem WI_end (hw : WF c) (hn : c 6 0 = n) (hL : 0 < L) (hs : ∀ k l : Nat, k < l → l < n → ahQ c (s k) (s l)) (hsur : ∀ q : Nat, q < n → ∃ k : Nat, k < n ∧ s k = q) (hin : ∀ k : Nat, k < n → s k < n) {n12 : Nat} (h12 : c 12 0 = n12) (h : WI c L s n K a j p z y e u) (hp : p = (n12 : Int) * n) : z = clN c (bB c L) (eE c L) a n ∧ y = ovN c (bB c L) (eE c L) a K := by
  have hsO : ∀ k l : Nat, k < l → (l : Int) < c 6 0 → aL c L (s k) (s l) := fun k l k1 k2 => aL_of hL (hs k l k1 (by omega))
  have hsu : ∀ q : Nat, (q : Int) < c 6 0 → ∃ k : Nat, (k : Int) < c 6 0 ∧ s k = q := fun q hq => by
    obtain ⟨k, k1, k2⟩ := hsur q (by omega)
    exact ⟨k, by omega, k2⟩
  have hi : ∀ k : Nat, (k : Int) < c 6 0 → (s k : Int) < c 6 0 := fun k hk => by
    have := hin k (by omega)
    omega
  have hno : ∀ k : Nat, j ≤ k → k < n → ¬ ofP c (bB c L) (eE c L) (s k) a := fun k k1 k2 ho => by
    have h1 := mt (h.1.2 k k2).mpr (by omega)
    have h7 := (hw.2.2.2.2.2.2.2.2.1 (s k)).2.1 (hi k (by omega)) ho.2.1
    have hsk := hin k k2
    unfold keQ at h1
    have e1 : (c 7 (s k) + 1) * (n : Int) ≤ (n12 : Int) * (n : Int) := Int.mul_le_mul_of_nonneg_right (by omega) (by omega)
    rw [Int.add_mul, Int.one_mul] at e1
    omega
  have key : ∀ m : Nat, j + m ≤ n → z + (if laQ c L a s (j + m) = -1 then 0 else clQ c L a (laQ c L a s (j + m)).toNat) = smN (fun t => clQ c L a (s t)) (j + m) ∧ swQ c L a s (j + m) u ∧ y = smN (fun t => uoQ c L a s (c 16 0 + t) (j + m)) K := by
    intro m
    induction m with
    | zero =>
      intro _
      exact ⟨h.2.1, h.2.2.2.1, h.2.2.2.2.1⟩
    | succ m ih =>
      intro hm
      obtain ⟨i1, i2, i3⟩ := ih (by omega)
      have ho := hno (j + m) (by omega) (by omega)
      have s1 := sw_skip i2 i3 ho
      exact ⟨(cc_step (w := a) hsO hsu (k := j + m) (by omega) i1).2 ho, s1.1, s1.2⟩
  have hjn := h.1.1
  obtain ⟨k1, k2, k3⟩ := key (n - j) (by omega)
  rw [show j + (n - j) = n by omega] at k1 k3
  exact ⟨cc_end (w := a) hsO hsu hi hn k1, by rw [ov_sm (s := s) hn hsu hi, k3]⟩
end W
theorem nx14_id (c : Tb) : nxTempo c (c 14 0) = c := by
  funext k j
  unfold nxTempo tu
  by_cases h : k = 14 ∧ j = 0
  · rw [if_pos h, h.1, h.2]
  · rw [if_neg h]
theorem nx14_2 (c : Tb) (T U : Int) : nxTempo (nxTempo c T) U = nxTempo c U := tu_tu c 14 0 T U
theorem nx14_fine (c : Tb) (T : Int) : FINE (nxTempo c T) (LL (nxTempo c T)) ↔ FINE c (lenB c T).toNat := by
  have e : LL (nxTempo c T) = (lenB c T).toNat := by
    unfold LL
    rw [te_len (te_nx14 c T), show nxTempo c T 14 0 = T from tu_s ..]
  rw [e]
  exact te_FINE (te_nx14 c T) _
theorem cdIs_q {c : Tb} {k : Nat} (hk : (k : Int) < c 6 0) : (c 11 k = 0 → cdIs c (k : Int) = 0) ∧ (c 11 k ≠ 0 → cdIs c (k : Int) = 1) := by
  unfold cdIs
  rw [Int.toNat_natCast]
  exact ⟨fun h => if_pos ⟨by omega, hk, h⟩, fun h => if_neg (fun z => h z.2.2)⟩
end LQ
