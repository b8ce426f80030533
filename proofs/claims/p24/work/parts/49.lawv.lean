/-! who works; tempo aside; cues in the law's order -/
section LV
theorem sq_l (c : Tb) (w : Int) : ∀ j : Nat, sqW c (c 18 w.toNat) j = sqW c w (j + 1)
  | 0 => rfl
  | j + 1 => by
    show c 18 (sqW c (c 18 w.toNat) j).toNat = c 18 (sqW c w (j + 1)).toNat
    rw [sq_l c w j]
theorem wk_add {c : Tb} : ∀ (j m : Nat) (w : Int), (∀ i : Nat, i < j → sqW c w i ≠ -1 ∧ c 17 (sqW c w i).toNat ≠ 0) → wkN c (j + m) w = wkN c m (sqW c w j)
  | 0, m, w, _ => by rw [Nat.zero_add]; rfl
  | j + 1, m, w, h => by
    rw [show j + 1 + m = j + m + 1 by omega]
    have e : wkN c (j + m + 1) w = if w ≠ -1 ∧ c 17 w.toNat ≠ 0 then wkN c (j + m) (c 18 w.toNat) else w := rfl
    rw [e, if_pos (show w ≠ -1 ∧ c 17 w.toNat ≠ 0 from h 0 (by omega)), wk_add j m (c 18 w.toNat) (fun i hi => by rw [sq_l]; exact h (i + 1) (by omega)), sq_l]
/-- the first j asked strike, and differ -/
def wkI (c : Tb) (w : Int) (j : Nat) : Prop := (∀ i : Nat, i < j → (0 ≤ sqW c w i ∧ sqW c w i ≤ 5) ∧ c 17 (sqW c w i).toNat ≠ 0) ∧ ∀ i k : Nat, i < k → k < j → sqW c w i ≠ sqW c w k
theorem wkI_6 {c : Tb} {w : Int} {j : Nat} (h : wkI c w j) : j ≤ 6 := by
  by_cases z : j ≤ 6
  · exact z
  · exfalso
    obtain ⟨i, k, h1, h2, h3⟩ := phpN 6 (fun i => (sqW c w i).toNat) (fun i hi => by
      have := (h.1 i (by omega)).1
      show (sqW c w i).toNat < 6
      omega)
    have h3' : (sqW c w i).toNat = (sqW c w k).toNat := h3
    have a := (h.1 i (by omega)).1
    have b := (h.1 k (by omega)).1
    exact h.2 i k h1 (by omega) (by omega)
theorem wk_end {c : Tb} {w : Int} {j : Nat} (h : wkI c w j) (he : sqW c w j = -1 ∨ c 17 (sqW c w j).toNat = 0) : wkN c 6 w = sqW c w j := by
  have h6 := wkI_6 h
  have e := wk_add (c := c) j (6 - j) w (fun i hi => ⟨by have := (h.1 i hi).1; omega, (h.1 i hi).2⟩)
  rw [show j + (6 - j) = 6 by omega] at e
  rw [e]
  rcases he with he | he
  · rw [he, wkN_m1]
  · rw [wkN_on he]
theorem wk_cyc {c : Tb} {w : Int} {j i : Nat} (h : wkI c w j) (hi : i < j) (he : sqW c w i = sqW c w j) : wkN c 6 w = -1 ∨ c 17 (wkN c 6 w).toNat ≠ 0 := by
  have hall : ∀ u : Nat, (0 ≤ sqW c w u ∧ sqW c w u ≤ 5) ∧ c 17 (sqW c w u).toNat ≠ 0 := by
    have key : ∀ n u : Nat, u ≤ n → (0 ≤ sqW c w u ∧ sqW c w u ≤ 5) ∧ c 17 (sqW c w u).toNat ≠ 0 := by
      intro n
      induction n with
      | zero =>
        intro u hu
        exact h.1 u (by omega)
      | succ n ih =>
        intro u hu
        by_cases z : u < j
        · exact h.1 u z
        · have e := sqW_eq (c := c) (w := w) he (u - j)
          rw [show j + (u - j) = u by omega] at e
          rw [← e]
          exact ih (i + (u - j)) (by omega)
    exact fun u => key u u (Nat.le_refl u)
  have e := wk_add (c := c) 6 0 w (fun i _ => ⟨by have := (hall i).1; omega, (hall i).2⟩)
  rw [Nat.add_zero] at e
  rw [e]
  exact Or.inr (hall 6).2
/-! a table with another tempo shows the same night at a given length -/
section T
theorem te_effN {c c' : Tb} (h : ∀ k : Nat, k ≠ 14 → c' k = c k) (i b : Int) : ∀ q : Nat, effN c' i b q = effN c i b q
  | 0 => rfl
  | q + 1 => by
    unfold effN
    rw [te_effN h i b q, h 11 (by decide), h 8 (by decide), h 7 (by decide)]
theorem te_eff {c c' : Tb} (h : ∀ k : Nat, k ≠ 14 → c' k = c k) (i b : Int) : eff c' i b = eff c i b := by
  unfold eff
  rw [h 6 (by decide), te_effN h]
theorem te_tr {c c' : Tb} (h : ∀ k : Nat, k ≠ 14 → c' k = c k) (L i : Nat) : ∀ t : Nat, tr c' L i t = tr c L i t
  | 0 => by
    show (c' 5 i, (-1 : Int)) = (c 5 i, -1)
    rw [h 5 (by decide)]
  | t + 1 => by
    rw [tr_s, tr_s, te_tr h L i t, te_eff h]
    unfold aimOf
    rw [h 1 (by decide), h 4 (by decide), h 5 (by decide), h 9 (by decide)]
theorem te_cnt {c c' : Tb} (h : ∀ k : Nat, k ≠ 14 → c' k = c k) (L q : Nat) : ∀ t : Nat, cnt c' L q t = cnt c L q t
  | 0 => rfl
  | t + 1 => by
    unfold cnt
    rw [te_cnt h L q t, te_tr h, te_tr h, h 8 (by decide), h 9 (by decide)]
theorem te_wk {c c' : Tb} (h : ∀ k : Nat, k ≠ 14 → c' k = c k) : ∀ (n : Nat) (w : Int), wkN c' n w = wkN c n w
  | 0, _ => rfl
  | n + 1, w => by
    unfold wkN
    rw [h 17 (by decide), h 18 (by decide), te_wk h n]
theorem te_wOf {c c' : Tb} (h : ∀ k : Nat, k ≠ 14 → c' k = c k) (q : Nat) : wOf c' q = wOf c q := by
  unfold wOf
  rw [te_wk h, h 10 (by decide), h 17 (by decide)]
theorem te_of {c c' : Tb} (h : ∀ k : Nat, k ≠ 14 → c' k = c k) (B E : Nat → Int) (q : Nat) (w : Int) : ofP c' B E q w ↔ ofP c B E q w := by
  unfold ofP
  rw [te_wOf h, h 6 (by decide), h 11 (by decide)]
theorem te_nx {c c' : Tb} (h : ∀ k : Nat, k ≠ 14 → c' k = c k) (B E : Nat → Int) (q : Nat) (w : Int) : ∀ k : Nat, nxN c' B E q w k = nxN c B E q w k
  | 0 => rfl
  | k + 1 => by
    unfold nxN
    rw [te_nx h B E q w k]
    have e := te_of h B E k w
    by_cases z : ofP c B E k w ∧ ahP B q k ∧ (nxN c B E q w k = -1 ∨ ahP B k (nxN c B E q w k).toNat)
    · rw [if_pos z, if_pos ⟨e.mpr z.1, z.2⟩]
    · rw [if_neg z, if_neg (fun y => z ⟨e.mp y.1, y.2⟩)]
theorem te_cl {c c' : Tb} (h : ∀ k : Nat, k ≠ 14 → c' k = c k) (B E : Nat → Int) (w : Int) : ∀ k : Nat, clN c' B E w k = clN c B E w k
  | 0 => rfl
  | k + 1 => by
    unfold clN
    have e := te_of h B E k w
    have e2 : nxO c' B E k w = nxO c B E k w := by
      unfold nxO
      rw [h 6 (by decide), te_nx h]
    rw [te_cl h B E w k, e2, h 15 (by decide)]
    congr 1
    by_cases z : ofP c B E k w ∧ nxO c B E k w ≠ -1 ∧ B (nxO c B E k w).toNat < E k + c 15 0
    · rw [if_pos z, if_pos ⟨e.mpr z.1, z.2⟩]
    · rw [if_neg z, if_neg (fun y => z ⟨e.mp y.1, y.2⟩)]
theorem te_lpJ {c c' : Tb} (h : ∀ k : Nat, k ≠ 14 → c' k = c k) (P : Nat → Int) (k : Nat) (a : Int) : ∀ n : Nat, lpJ c' P k a n = lpJ c P k a n
  | 0 => rfl
  | n + 1 => by
    unfold lpJ
    rw [te_lpJ h P k a n]
    unfold mtB
    rw [h 1 (by decide), h 2 (by decide), h 3 (by decide)]
theorem te_lpK {c c' : Tb} (h : ∀ k : Nat, k ≠ 14 → c' k = c k) (P : Nat → Int) (a : Int) : ∀ k : Nat, lpK c' P a k = lpK c P a k
  | 0 => rfl
  | k + 1 => by
    unfold lpK
    rw [te_lpK h P a k, te_lpJ h, h 0 (by decide)]
theorem te_mt {c c' : Tb} (h : ∀ k : Nat, k ≠ 14 → c' k = c k) (L : Nat) : ∀ t : Nat, mtP c' L t = mtP c L t
  | 0 => rfl
  | t + 1 => by
    unfold mtP
    have e : (fun k => (tr c' L k t).1) = fun k => (tr c L k t).1 := by
      funext k
      rw [te_tr h]
    rw [te_mt h L t, e, te_lpK h, h 0 (by decide)]
theorem te_FINE {c c' : Tb} (h : ∀ k : Nat, k ≠ 14 → c' k = c k) (L : Nat) : FINE c' L ↔ FINE c L := by
  have eN : NT c' L = NT c L := by
    unfold NT
    rw [h 12 (by decide)]
  have eB : bB c' L = bB c L := by
    unfold bB
    rw [h 7 (by decide)]
  have eE : eE c' L = eE c L := by
    funext q
    show c' 7 q * (L : Int) + cnt c' L q ((c' 12 0).toNat * L) = c 7 q * (L : Int) + cnt c L q ((c 12 0).toNat * L)
    rw [te_cnt h, h 7 (by decide), h 12 (by decide)]
  unfold FINE
  rw [eN, eB, eE, te_mt h, h 6 (by decide)]
  constructor
  · intro ⟨a, b, d⟩
    exact ⟨a, fun q hq z => b q hq ((te_of h _ _ _ _).mpr z), fun w hw => by rw [← te_cl h]; exact d w hw⟩
  · intro ⟨a, b, d⟩
    exact ⟨a, fun q hq z => b q hq ((te_of h _ _ _ _).mp z), fun w hw => by rw [te_cl h]; exact d w hw⟩
theorem te_len {c c' : Tb} (h : ∀ k : Nat, k ≠ 14 → c' k = c k) (T : Int) : lenB c' T = lenB c T := by
  unfold lenB
  rw [h 13 (by decide)]
theorem te_fs {c c' : Tb} (h : ∀ k : Nat, k ≠ 14 → c' k = c k) : ∀ n : Nat, fsF c' n = fsF c n
  | 0 => rfl
  | n + 1 => by
    have e : FINE c' (lenB c' (40 + 10 * (n + 1 : Nat))).toNat ↔ FINE c (lenB c (40 + 10 * (n + 1 : Nat))).toNat := by
      rw [te_len h]
      exact te_FINE h _
    unfold fsF
    rw [te_fs h n]
    by_cases z : FINE c (lenB c (40 + 10 * (n + 1 : Nat))).toNat
    · rw [if_pos z, if_pos (e.mpr z)]
    · rw [if_neg z, if_neg (fun y => z (e.mp y))]
end T
theorem te_nx14 (c : Tb) (T : Int) : ∀ k : Nat, k ≠ 14 → nxTempo c T k = c k := fun _ hk => tu_rowN hk
/-- the fastest tempo is fine, faster ones are not -/
theorem fs_at {c : Tb} : ∀ n : Nat, (fsF c n = -1 ∧ ∀ m : Nat, 1 ≤ m → m ≤ n → ¬ FINE c (lenB c (40 + 10 * (m : Int))).toNat) ∨ ∃ m0 : Nat, 1 ≤ m0 ∧ m0 ≤ n ∧ fsF c n = 40 + 10 * (m0 : Int) ∧ FINE c (lenB c (40 + 10 * (m0 : Int))).toNat ∧ ∀ m : Nat, m0 < m → m ≤ n → ¬ FINE c (lenB c (40 + 10 * (m : Int))).toNat
  | 0 => Or.inl ⟨rfl, fun m h1 h2 => by omega⟩
  | n + 1 => by
    by_cases z : FINE c (lenB c (40 + 10 * ((n + 1 : Nat) : Int))).toNat
    · refine Or.inr ⟨n + 1, by omega, Nat.le_refl _, ?_, z, fun m h1 h2 => by omega⟩
      unfold fsF
      rw [if_pos z]
    · have e : fsF c (n + 1) = fsF c n := by
        show @ite Int _ (Classical.propDecidable _) _ _ = _
        rw [if_neg z]
      rw [e]
      rcases fs_at (c := c) n with ⟨h1, h2⟩ | ⟨m0, h1, h2, h3, h4, h5⟩
      · refine Or.inl ⟨h1, fun m m1 m2 => ?_⟩
        by_cases y : m = n + 1
        · rw [y]; exact z
        · exact h2 m m1 (by omega)
      · refine Or.inr ⟨m0, h1, by omega, h3, h4, fun m m1 m2 => ?_⟩
        by_cases y : m = n + 1
        · rw [y]; exact z
        · exact h5 m m1 (by omega)
/-! the cues bar by bar, each bar through their numbers: the first j of the order s are passed at place p -/
def keQ (c : Tb) (n q : Nat) : Int := c 7 q * (n : Int) + q
def ordI (c : Tb) (s : Nat → Nat) (n j : Nat) (p : Int) : Prop := j ≤ n ∧ ∀ k : Nat, k < n → (k < j ↔ keQ c n (s k) < p)
theorem ke_lt {c : Tb} {n q p : Nat} (hq : q < n) (h : ahQ c q p) : keQ c n q < keQ c n p := by
  unfold keQ
  rcases h with h | ⟨h1, h2⟩
  · have e : (c 7 q + 1) * (n : Int) ≤ c 7 p * (n : Int) := Int.mul_le_mul_of_nonneg_right (by omega) (by omega)
    rw [Int.add_mul, Int.one_mul] at e
    omega
  · rw [h1]
    omega
theorem ke_eq {x y : Int} {n q p : Nat} (hq : q < n) (hp : p < n) (h : x * (n : Int) + q = y * (n : Int) + p) : x = y ∧ q = p := by
  have key : x = y := by
    rcases Int.lt_trichotomy x y with z | z | z
    · have e : (x + 1) * (n : Int) ≤ y * (n : Int) := Int.mul_le_mul_of_nonneg_right (by omega) (by omega)
      rw [Int.add_mul, Int.one_mul] at e
      omega
    · exact z
    · have e : (y + 1) * (n : Int) ≤ x * (n : Int) := Int.mul_le_mul_of_nonneg_right (by omega) (by omega)
      rw [Int.add_mul, Int.one_mul] at e
      omega
  rw [key] at h
  exact ⟨key, by omega⟩
section O
theorem ord_hit {c : Tb} {s : Nat → Nat} {n j : Nat} (hs : ∀ k l : Nat, k < l → l < n → ahQ c (s k) (s l)) (hsur : ∀ q : Nat, q < n → ∃ k : Nat, k < n ∧ s k = q) (hin : ∀ k : Nat, k < n → s k < n) (b : Int) {q : Nat} {p : Int} (hI : ordI c s n j p) (hq : q < n) (hp : p = b * (n : Int) + q) (h7 : c 7 q = b) : j < n ∧ s j = q ∧ ordI c s n (j + 1) (p + 1) := by
  obtain ⟨hj, hk⟩ := hI
  obtain ⟨k0, k1, k2⟩ := hsur q hq
  have ek : keQ c n (s k0) = p := by
    unfold keQ
    rw [k2, h7, hp]
  have hjk : j ≤ k0 := by
    have := mt (hk k0 k1).mp (by omega)
    omega
  have e0 : j = k0 := by
    by_cases z : j < k0
    · have h1 := ke_lt (n := n) (hin j (by omega)) (hs j k0 z k1)
      have h2 := (hk j (by omega)).mpr (by omega)
      omega
    · omega
  subst e0
  refine ⟨k1, k2, by omega, fun k hkn => ?_⟩
  constructor
  · intro h1
    by_cases z : k = j
    · rw [z]; omega
    · have := (hk k hkn).mp (by omega)
      omega
  · intro h1
    by_cases z : j < k
    · have h2 := ke_lt (n := n) (hin j k1) (hs j k z hkn)
      omega
    · omega
theorem ord_miss {c : Tb} {s : Nat → Nat} {n j : Nat} (hin : ∀ k : Nat, k < n → s k < n) (b : Int) {q : Nat} {p : Int} (hI : ordI c s n j p) (hq : q < n) (hp : p = b * (n : Int) + q) (h7 : c 7 q ≠ b) : ordI c s n j (p + 1) := by
  obtain ⟨hj, hk⟩ := hI
  refine ⟨hj, fun k hkn => ?_⟩
  have hne : keQ c n (s k) ≠ p := fun z => by
    unfold keQ at z
    rw [hp] at z
    obtain ⟨z1, z2⟩ := ke_eq (hin k hkn) hq z
    rw [z2] at z1
    exact h7 z1
  rw [hk k hkn]
  omega
theorem ord_0 {c : Tb} {s : Nat → Nat} {n : Nat} (h7 : ∀ q : Nat, 0 ≤ c 7 q) : ordI c s n 0 0 := by
  refine ⟨Nat.zero_le n, fun k hk => ⟨fun h => absurd h (Nat.not_lt_zero k), fun h => ?_⟩⟩
  have e : 0 ≤ c 7 (s k) * (n : Int) := Int.mul_nonneg (h7 _) (by omega)
  unfold keQ at h
  omega
end O
end LV
