/-! what callers have built, a table of whole numbers, row k the field k (a number: place 0) -/
section RM
abbrev Tb : Type := Nat → Nat → Int
def tu (M : Tb) (k j : Nat) (x : Int) : Tb := fun a b => if a = k ∧ b = j then x else M a b
theorem tu_s (M : Tb) (k j : Nat) (x : Int) : tu M k j x k j = x := if_pos ⟨rfl, rfl⟩
theorem tu_k {M : Tb} {k j a b : Nat} {x : Int} (h : a ≠ k) : tu M k j x a b = M a b := if_neg (fun q => h q.1)
theorem tu_j {M : Tb} {k j a b : Nat} {x : Int} (h : b ≠ j) : tu M k j x a b = M a b := if_neg (fun q => h q.2)
theorem tu_row (M : Tb) (k j : Nat) (x : Int) : tu M k j x k = upI (M k) j x := by
  funext b
  unfold tu upI
  by_cases h : b = j
  · rw [if_pos ⟨rfl, h⟩, if_pos h]
  · rw [if_neg (fun q => h q.2), if_neg h]
theorem tu_rowN {M : Tb} {k j a : Nat} {x : Int} (h : a ≠ k) : tu M k j x a = M a := by
  funext b
  exact tu_k h
/-- the rows below 19: what a caller has built; from 19 on: what a night's play leaves -/
def cut (M : Tb) : Tb := fun k j => if k < 19 then M k j else 0
theorem cut_at {M c : Tb} (h : cut M = c) {k : Nat} (hk : k < 19) (j : Nat) : M k j = c k j := by
  rw [← h]
  exact (if_pos hk).symm
theorem cut_tu {M : Tb} {k j : Nat} {x : Int} (hk : 19 ≤ k) : cut (tu M k j x) = cut M := by
  funext a b
  unfold cut
  split
  · exact tu_k (by omega)
  · rfl
theorem cut_tuc {M : Tb} {k j : Nat} {x : Int} (hk : k < 19) : cut (tu M k j x) = tu (cut M) k j x := by
  funext a b
  unfold cut tu
  by_cases h : a = k ∧ b = j
  · rw [if_pos h, if_pos h]
    simp only [h.1, hk, if_true]
  · rw [if_neg h, if_neg h]
theorem cut_cut (M : Tb) : cut (cut M) = cut M := by
  funext a b
  unfold cut
  split <;> rfl
end RM
/-! what the reference's methods work out, of the table c (rows below 19) -/
section RS
/-- ticks of a bar at a tempo -/
def lenB (c : Tb) (T : Int) : Int := if c 13 0 * 100 / T < 1 then 1 else c 13 0 * 100 / T
/-- the highest of the first q cues that takes effect for machine i at bar b -/
def effN (c : Tb) (i b : Int) : Nat → Int
  | 0 => -1
  | q + 1 => if c 11 q = 0 ∧ c 8 q = i ∧ c 7 q = b then (q : Int) else effN c i b q
def eff (c : Tb) (i b : Int) : Int := effN c i b (c 6 0).toNat
/-- one tick's move: table or not, speed, place, aim -/
def mv (tb sp a m : Int) : Int :=
  let f0 := m - a
  let f1 := if tb = 0 then f0 else (let h := if f0 < 0 then f0 + 360 else f0; if 180 < h then h - 360 else h)
  let f2 := if sp < f1 then sp else if f1 < -sp then -sp else f1
  if tb = 0 then a + f2 else (a + f2 + 360) % 360
/-- place and running cue (-1: none) of machine i behind t ticks, bars of L ticks -/
def tr (c : Tb) (L : Nat) (i : Nat) : Nat → Int × Int
  | 0 => (c 5 i, -1)
  | t + 1 =>
    let p := tr c L i t
    let e := if t % L = 0 then eff c i (t / L : Nat) else -1
    let r := if e = -1 then p.2 else e
    (mv (c 1 i) (c 4 i) p.1 (if r = -1 then c 5 i else c 9 r.toNat), r)
def aimOf (c : Tb) (i : Nat) (r : Int) : Int := if r = -1 then c 5 i else c 9 r.toNat
/-- what callers may build -/
def WF (c : Tb) : Prop := (0 ≤ c 0 0 ∧ c 0 0 ≤ 6) ∧ (0 ≤ c 6 0 ∧ c 6 0 ≤ 24) ∧ (1 ≤ c 12 0 ∧ c 12 0 ≤ 30) ∧ (1 ≤ c 13 0 ∧ c 13 0 ≤ 40) ∧ (50 ≤ c 14 0 ∧ c 14 0 ≤ 200) ∧ (0 ≤ c 15 0 ∧ c 15 0 ≤ 100) ∧ (0 ≤ c 16 0 ∧ c 16 0 ≤ 2400) ∧
  (∀ i : Nat, (c 1 i = 0 ∨ c 1 i = 1) ∧ (c 0 0 ≤ i → c 1 i = 0) ∧ (0 ≤ c 2 i ∧ c 2 i ≤ 2) ∧ (0 ≤ c 3 i ∧ c 3 i ≤ 20) ∧ (0 ≤ c 4 i ∧ c 4 i ≤ 10) ∧ (i < c 0 0 → 1 ≤ c 4 i) ∧ (0 ≤ c 5 i ∧ c 5 i ≤ 359) ∧ (c 1 i = 0 → c 5 i ≤ 200)) ∧
  (∀ q : Nat, (0 ≤ c 7 q ∧ c 7 q < 30) ∧ (q < c 6 0 → c 11 q = 0 → c 7 q < c 12 0) ∧ 0 ≤ c 8 q ∧ (q < c 6 0 → c 8 q < c 0 0) ∧ (0 ≤ c 9 q ∧ c 9 q ≤ 359) ∧ (q < c 6 0 → c 1 (c 8 q).toNat = 0 → c 9 q ≤ 200) ∧ (0 ≤ c 10 q ∧ c 10 q ≤ 5) ∧ (c 11 q = 0 ∨ c 11 q = 1) ∧ (c 6 0 ≤ q → c 11 q = 0)) ∧
  (∀ w : Nat, (c 17 w = 0 ∨ c 17 w = 1) ∧ -1 ≤ c 18 w ∧ c 18 w ≤ 5)
theorem nar_bv {x : Int} (h : x = 0 ∨ x = 1) : narrow .boolean (iv x) = iv x := by rcases h with rfl | rfl <;> rfl
theorem tu_tu (M : Tb) (k j : Nat) (x y : Int) : tu (tu M k j x) k j y = tu M k j y := by
  funext a b
  unfold tu
  split <;> rfl
theorem effN_m1 (c : Tb) (i b : Int) : ∀ q : Nat, effN c i b q = -1 ∨ ∃ j : Nat, j < q ∧ effN c i b q = j ∧ c 11 j = 0 ∧ c 8 j = i ∧ c 7 j = b
  | 0 => Or.inl rfl
  | q + 1 => by
    unfold effN
    by_cases h : c 11 q = 0 ∧ c 8 q = i ∧ c 7 q = b
    · rw [if_pos h]
      exact Or.inr ⟨q, Nat.lt_succ_self q, rfl, h⟩
    · rw [if_neg h]
      rcases effN_m1 c i b q with h1 | ⟨j, h1, h2⟩
      · exact Or.inl h1
      · exact Or.inr ⟨j, Nat.lt_succ_of_lt h1, h2⟩
theorem eff_rg (c : Tb) (i b : Int) (q : Nat) (h : q ≤ 24) : -1 ≤ effN c i b q ∧ effN c i b q < q := by
  rcases effN_m1 c i b q with h1 | ⟨j, h1, h2, -⟩
  · rw [h1]; omega
  · rw [h2]; omega
theorem lenB_rg {c : Tb} (hw : WF c) {T : Int} (h : 50 ≤ T) : 1 ≤ lenB c T ∧ lenB c T ≤ 80 := by
  obtain ⟨-, -, -, h1, -⟩ := hw
  have h2 : c 13 0 * 100 / T ≤ 80 := by
    have : c 13 0 * 100 / T ≤ 4000 / T := Int.ediv_le_ediv (by omega) (by omega)
    have : (4000 : Int) / T ≤ 80 := Int.ediv_le_of_le_mul (by omega) (by omega)
    omega
  unfold lenB
  split <;> omega
end RS
section RS2
theorem mv_rg {tb sp a m : Int} (ha : 0 ≤ a ∧ a ≤ 359) (hm : 0 ≤ m ∧ m ≤ 359) (hs : 0 ≤ sp ∧ sp ≤ 10) : 0 ≤ mv tb sp a m ∧ mv tb sp a m ≤ 359 := by
  unfold mv
  simp only []
  by_cases h : tb = 0
  · simp only [if_pos h]
    (repeat' split) <;> omega
  · simp only [if_neg h]
    omega
theorem aim_rg {c : Tb} (hw : WF c) {i : Nat} {r : Int} : 0 ≤ aimOf c i r ∧ aimOf c i r ≤ 359 := by
  obtain ⟨-, -, -, -, -, -, -, wm, wq, -⟩ := hw
  unfold aimOf
  split
  · exact (wm i).2.2.2.2.2.2.1
  · exact (wq r.toNat).2.2.2.2.1
theorem tr_s (c : Tb) (L i t : Nat) : tr c L i (t + 1) = (mv (c 1 i) (c 4 i) (tr c L i t).1 (aimOf c i (if (if t % L = 0 then eff c i (t / L : Nat) else -1) = -1 then (tr c L i t).2 else (if t % L = 0 then eff c i (t / L : Nat) else -1))), if (if t % L = 0 then eff c i (t / L : Nat) else -1) = -1 then (tr c L i t).2 else (if t % L = 0 then eff c i (t / L : Nat) else -1)) := rfl
theorem tr_rg {c : Tb} (hw : WF c) (L i : Nat) : ∀ t : Nat, 0 ≤ (tr c L i t).1 ∧ (tr c L i t).1 ≤ 359
  | 0 => (hw.2.2.2.2.2.2.2.1 i).2.2.2.2.2.2.1
  | t + 1 => by
    rw [tr_s]
    exact mv_rg (tr_rg hw L i t) (aim_rg hw) (hw.2.2.2.2.2.2.2.1 i).2.2.2.2.1
theorem aim_n {c : Tb} {i : Nat} {e r : Int} (h : e = -1) : aimOf c i (if e = -1 then r else e) = aimOf c i r := by rw [if_pos h]
theorem aim_y {c : Tb} {i : Nat} {e r : Int} (h : e ≠ -1) : aimOf c i (if e = -1 then r else e) = c 9 e.toNat := by
  rw [if_neg h]
  exact if_neg h
/-- codes (0: it goes, else the place in the throws clause) and answers -/
def LL (c : Tb) : Nat := (lenB c (c 14 0)).toNat
def cdPlace (c : Tb) (a t : Int) : Int := if 0 ≤ a ∧ a < c 0 0 then (if 0 ≤ t ∧ t ≤ c 12 0 * lenB c (c 14 0) then 0 else 2) else 1
def cdBar (c : Tb) (a b : Int) : Int := if 0 ≤ a ∧ a < c 0 0 then (if 0 ≤ b ∧ b ≤ c 12 0 then 0 else 2) else 1
def vlPlace (c : Tb) (a t : Int) : Int := (tr c (LL c) a.toNat t.toNat).1
end RS2
section RS3
/-- codes: 0 where the call goes through, else which exception of its throws clause; values; what the table becomes -/
def cdWagon (c : Tb) (t p w s : Int) : Int := if (0 ≤ t ∧ t ≤ 2) ∧ (0 ≤ p ∧ p ≤ 200) ∧ (1 ≤ w ∧ w ≤ 20) ∧ (1 ≤ s ∧ s ≤ 10) then (if c 0 0 = 6 then 2 else 0) else 1
def nxWagon (c : Tb) (t p w s : Int) : Tb := tu (tu (tu (tu (tu c 2 (c 0 0).toNat t) 3 (c 0 0).toNat w) 4 (c 0 0).toNat s) 5 (c 0 0).toNat p) 0 0 (c 0 0 + 1)
def cdTable (c : Tb) (a s : Int) : Int := if (0 ≤ a ∧ a ≤ 359) ∧ (1 ≤ s ∧ s ≤ 10) then (if c 0 0 = 6 then 2 else 0) else 1
def nxTable (c : Tb) (a s : Int) : Tb := tu (tu (tu (tu c 1 (c 0 0).toNat 1) 4 (c 0 0).toNat s) 5 (c 0 0).toNat a) 0 0 (c 0 0 + 1)
def fitB (c : Tb) (b : Int) : Nat → Bool
  | 0 => true
  | k + 1 => fitB c b k && (decide (c 11 k ≠ 0) || decide (c 7 k < b))
def cdScore (c : Tb) (b t : Int) : Int := if (1 ≤ b ∧ b ≤ 30) ∧ (1 ≤ t ∧ t ≤ 40) then (if fitB c b (c 6 0).toNat = true then 0 else 2) else 1
def nxScore (c : Tb) (b t : Int) : Tb := tu (tu c 12 0 b) 13 0 t
def cdCue (c : Tb) (a b t w : Int) : Int := if 0 ≤ a ∧ a < c 0 0 then (if (0 ≤ b ∧ b ≤ c 12 0 - 1) ∧ (0 ≤ t ∧ t ≤ (if c 1 a.toNat = 0 then 200 else 359)) ∧ (0 ≤ w ∧ w ≤ 5) then (if c 6 0 = 24 then 3 else 0) else 2) else 1
def nxCue (c : Tb) (a b t w : Int) : Tb := tu (tu (tu (tu (tu c 8 (c 6 0).toNat a) 7 (c 6 0).toNat b) 9 (c 6 0).toNat t) 10 (c 6 0).toNat w) 6 0 (c 6 0 + 1)
def cdIs (c : Tb) (q : Int) : Int := if 0 ≤ q ∧ q < c 6 0 ∧ c 11 q.toNat = 0 then 0 else 1
def nxOut (c : Tb) (q : Int) : Tb := tu c 11 q.toNat 1
def cdTempo (T : Int) : Int := if 50 ≤ T ∧ T ≤ 200 then 0 else 1
def nxTempo (c : Tb) (T : Int) : Tb := tu c 14 0 T
def cdRules (r l : Int) : Int := if (0 ≤ r ∧ r ≤ 100) ∧ (0 ≤ l ∧ l ≤ 2400) then 0 else 1
def nxRules (c : Tb) (r l : Int) : Tb := tu (tu c 15 0 r) 16 0 l
def cdWork (w : Int) : Int := if 0 ≤ w ∧ w ≤ 5 then 0 else 1
def nxStrike (c : Tb) (w s : Int) : Tb := tu c 17 w.toNat s
def cdSub (w s : Int) : Int := if (0 ≤ w ∧ w ≤ 5) ∧ (-1 ≤ s ∧ s ≤ 5) then 0 else 1
def nxSub (c : Tb) (w s : Int) : Tb := tu c 18 w.toNat s
end RS3
section RS4
/-- who works on a cue: from the one told, by substitutes while they strike -/
def wkN (c : Tb) : Nat → Int → Int
  | 0, w => w
  | n + 1, w => if w ≠ -1 ∧ c 17 w.toNat ≠ 0 then wkN c n (c 18 w.toNat) else w
def wOf (c : Tb) (q : Nat) : Int := if wkN c 6 (c 10 q) = -1 ∨ c 17 (wkN c 6 (c 10 q)).toNat ≠ 0 then -1 else wkN c 6 (c 10 q)
theorem wkN_rg {c : Tb} (hw : WF c) : ∀ (n : Nat) (w : Int), -1 ≤ w ∧ w ≤ 5 → -1 ≤ wkN c n w ∧ wkN c n w ≤ 5
  | 0, w, h => h
  | n + 1, w, h => by
    unfold wkN
    split
    · exact wkN_rg hw n _ (hw.2.2.2.2.2.2.2.2.2 w.toNat).2
    · exact h
theorem wOf_rg {c : Tb} (hw : WF c) (q : Nat) : -1 ≤ wOf c q ∧ wOf c q ≤ 5 := by
  have h := wkN_rg hw 6 (c 10 q) (by have := (hw.2.2.2.2.2.2.2.2.1 q).2.2.2.2.2.2.1; omega)
  unfold wOf
  split <;> omega
/-- a cue of a worker's that takes time, by its begin and end -/
abbrev ofP (c : Tb) (B E : Nat → Int) (q : Nat) (w : Int) : Prop := (q : Int) < c 6 0 ∧ c 11 q = 0 ∧ B q < E q ∧ wOf c q = w
abbrev ahP (B : Nat → Int) (q p : Nat) : Prop := B q < B p ∨ (B q = B p ∧ q < p)
def nxN (c : Tb) (B E : Nat → Int) (q : Nat) (w : Int) : Nat → Int
  | 0 => -1
  | k + 1 => if ofP c B E k w ∧ ahP B q k ∧ (nxN c B E q w k = -1 ∨ ahP B k (nxN c B E q w k).toNat) then (k : Int) else nxN c B E q w k
def nxO (c : Tb) (B E : Nat → Int) (q : Nat) (w : Int) : Int := nxN c B E q w (c 6 0).toNat
theorem nxN_rg (c : Tb) (B E : Nat → Int) (q : Nat) (w : Int) : ∀ k : Nat, -1 ≤ nxN c B E q w k ∧ nxN c B E q w k < k
  | 0 => by unfold nxN; omega
  | k + 1 => by
    have := nxN_rg c B E q w k
    unfold nxN
    split <;> omega
def clN (c : Tb) (B E : Nat → Int) (w : Int) : Nat → Int
  | 0 => 0
  | k + 1 => clN c B E w k + (if ofP c B E k w ∧ nxO c B E k w ≠ -1 ∧ B (nxO c B E k w).toNat < E k + c 15 0 then 1 else 0)
theorem clN_rg (c : Tb) (B E : Nat → Int) (w : Int) : ∀ k : Nat, 0 ≤ clN c B E w k ∧ clN c B E w k ≤ k
  | 0 => by unfold clN; omega
  | k + 1 => by
    have := clN_rg c B E w k
    unfold clN
    split <;> omega
/-- at a tick, one of the first k cues of a worker's is worked on -/
def wtB (c : Tb) (B E : Nat → Int) (w t : Int) : Nat → Bool
  | 0 => false
  | k + 1 => wtB c B E w t k || decide (ofP c B E k w ∧ B k ≤ t ∧ t ≤ E k - 1)
def ovN (c : Tb) (B E : Nat → Int) (w : Int) : Nat → Int
  | 0 => 0
  | n + 1 => ovN c B E w n + (if wtB c B E w (c 16 0 + n) (c 6 0).toNat = true then 1 else 0)
theorem ovN_rg (c : Tb) (B E : Nat → Int) (w : Int) : ∀ k : Nat, 0 ≤ ovN c B E w k ∧ ovN c B E w k ≤ k
  | 0 => by unfold ovN; omega
  | k + 1 => by
    have := ovN_rg c B E w k
    unfold ovN
    split <;> omega
def vlWorker (c : Tb) (a : Int) : Int := wOf c a.toNat
end RS4
/-! a night tick by tick: what the reference keeps of cues, and what it comes to -/
section RS5
/-- ticks before t at which cue q runs and its machine isn't at its target -/
def cnt (c : Tb) (L q : Nat) : Nat → Int
  | 0 => 0
  | t + 1 => cnt c L q t + (if (tr c L (c 8 q).toNat (t + 1)).2 = q ∧ (tr c L (c 8 q).toNat t).1 ≠ c 9 q then 1 else 0)
theorem cnt_rg (c : Tb) (L q : Nat) : ∀ t : Nat, 0 ≤ cnt c L q t ∧ cnt c L q t ≤ t
  | 0 => by unfold cnt; omega
  | t + 1 => by
    have := cnt_rg c L q t
    unfold cnt
    split <;> omega
def lookE (c : Tb) (L t k : Nat) : Int := if t % L = 0 then eff c k (t / L : Nat) else -1
theorem tr_2 (c : Tb) (L k t : Nat) : (tr c L k (t + 1)).2 = if lookE c L t k = -1 then (tr c L k t).2 else lookE c L t k := rfl
theorem lookE_q {c : Tb} {L t k : Nat} (hL : 0 < L) (h6 : c 6 0 ≤ 24) : lookE c L t k = -1 ∨ ∃ q : Nat, lookE c L t k = q ∧ (q : Int) < c 6 0 ∧ c 11 q = 0 ∧ c 8 q = k ∧ c 7 q * L = t := by
  unfold lookE
  split
  · rename_i h
    rcases effN_m1 c k (t / L : Nat) (c 6 0).toNat with h1 | ⟨j, h1, h2, h3, h4, h5⟩
    · exact Or.inl h1
    · refine Or.inr ⟨j, h2, by omega, h3, h4, ?_⟩
      rw [h5, ← Int.natCast_mul]
      exact congrArg _ (Nat.div_mul_cancel (Nat.dvd_of_mod_eq_zero h))
  · exact Or.inl rfl
theorem tr_run {c : Tb} {L k : Nat} (hL : 0 < L) (h6 : c 6 0 ≤ 24) : ∀ t : Nat, (tr c L k t).2 = -1 ∨ ∃ q : Nat, (tr c L k t).2 = q ∧ (q : Int) < c 6 0 ∧ c 11 q = 0 ∧ c 8 q = k ∧ c 7 q * L < t
  | 0 => Or.inl rfl
  | t + 1 => by
    rw [tr_2]
    rcases lookE_q (t := t) (k := k) hL h6 with h | ⟨q, h1, h2, h3, h4, h5⟩
    · rw [if_pos h]
      rcases tr_run hL h6 t with h | ⟨q, h1, h2, h3, h4, h5⟩
      · exact Or.inl h
      · exact Or.inr ⟨q, h1, h2, h3, h4, by omega⟩
    · rw [if_neg (by omega)]
      exact Or.inr ⟨q, h1, h2, h3, h4, by omega⟩
theorem cnt_0 {c : Tb} {L q : Nat} (hL : 0 < L) (h6 : c 6 0 ≤ 24) : ∀ t : Nat, (t : Int) ≤ c 7 q * L → cnt c L q t = 0
  | 0, _ => rfl
  | t + 1, h => by
    unfold cnt
    rw [cnt_0 hL h6 t (by omega), if_neg]
    · rfl
    · intro hh
      obtain ⟨h1, -⟩ := hh
      rcases tr_run (k := (c 8 q).toNat) hL h6 (t + 1) with h2 | ⟨j, h2, -, -, -, h3⟩
      · omega
      · have : j = q := by omega
        subst this
        omega
def GK (c : Tb) (L t : Nat) (r : Int) (M : Tb) (k : Nat) : Prop := M 19 k = (tr c L k t).1 ∧ M 20 k = aimOf c k r ∧
  (M 21 k = -1 ∨ ∃ q : Nat, M 21 k = q ∧ (q : Int) < c 6 0 ∧ c 8 q = k ∧ r = q ∧ M 22 q = c 7 q * L ∧ (t : Int) = M 22 q + cnt c L q t) ∧
  (∀ q : Nat, (q : Int) < c 6 0 → c 8 q = k → M 21 k ≠ q → M 23 q = M 22 q + cnt c L q t ∧ (cnt c L q t ≠ 0 → M 22 q = c 7 q * L) ∧ (r = q → (tr c L k t).1 = c 9 q))
def look1 (c : Tb) (L t k : Nat) (M : Tb) : Tb := if lookE c L t k = -1 then M else tu (tu (tu (if M 21 k = -1 then M else tu M 23 (M 21 k).toNat t) 22 (lookE c L t k).toNat t) 21 k (lookE c L t k)) 20 k (c 9 (lookE c L t k).toNat)
def look2 (t k : Nat) (M : Tb) : Tb := if M 21 k ≠ -1 ∧ M 19 k = M 20 k then tu (tu M 23 (M 21 k).toNat t) 21 k (-1) else M
def lookK (c : Tb) (L t k : Nat) (M : Tb) : Tb := look2 t k (look1 c L t k M)
def lookN (c : Tb) (L t : Nat) (M : Tb) : Nat → Tb
  | 0 => M
  | k + 1 => lookK c L t k (lookN c L t M k)
theorem aim_q {c : Tb} {k q : Nat} {r : Int} (h : r = q) : aimOf c k r = c 9 q := by
  unfold aimOf
  rw [h, if_neg (by omega), Int.toNat_natCast]
theorem look1_ok {c : Tb} {L t k : Nat} {M : Tb} (hL : 0 < L) (h6 : c 6 0 ≤ 24) (h : GK c L t (tr c L k t).2 M k) : GK c L t (tr c L k (t + 1)).2 (look1 c L t k M) k := by
  rw [tr_2]
  unfold look1
  rcases lookE_q (t := t) (k := k) hL h6 with he | ⟨e, he, e1, e2, e3, e4⟩
  · rw [if_pos he, if_pos he]
    exact h
  · rw [if_neg (by omega), if_neg (by omega), he]
    rw [Int.toNat_natCast]
    have c0 : cnt c L e t = 0 := cnt_0 hL h6 t (by omega)
    obtain ⟨h1, h2, h3, h4⟩ := h
    refine ⟨?_, by rw [tu_s, aim_q rfl], Or.inr ⟨e, by rw [tu_k (by decide), tu_s], e1, e3, rfl, by rw [tu_k (by decide), tu_k (by decide), tu_s, e4], by rw [tu_k (by decide), tu_k (by decide), tu_s, c0]; omega⟩, fun q hq hk hn => ?_⟩
    · rw [tu_k (by decide), tu_k (by decide), tu_k (by decide)]
      split
      · exact h1
      · rw [tu_k (by decide)]; exact h1
    · rw [tu_k (by decide), tu_s] at hn
      have hne : q ≠ e := fun z => hn (by rw [z])
      rw [tu_k (by decide), tu_k (by decide), tu_k (by decide), tu_k (by decide), tu_k (by decide), tu_j hne]
      by_cases hw : M 21 k = -1
      · rw [if_pos hw]
        have h5 := h4 q hq hk (by omega)
        exact ⟨h5.1, h5.2.1, fun z => absurd z (by omega)⟩
      · rw [if_neg hw]
        rcases h3 with h3 | ⟨q0, g1, g2, g3, g4, g5, g6⟩
        · exact absurd h3 hw
        · rw [g1, Int.toNat_natCast]
          by_cases hq0 : q = q0
          · subst hq0
            rw [tu_s, tu_k (by decide)]
            exact ⟨g6, fun _ => g5, fun z => absurd z (by omega)⟩
          · rw [tu_j hq0, tu_k (by decide)]
            have h5 := h4 q hq hk (by omega)
            exact ⟨h5.1, h5.2.1, fun z => absurd z (by omega)⟩
theorem look2_ok {c : Tb} {L t k : Nat} {r : Int} {M : Tb} (h : GK c L t r M k) : GK c L t r (look2 t k M) k ∧ (look2 t k M 21 k ≠ -1 → (tr c L k t).1 ≠ aimOf c k r) := by
  obtain ⟨h1, h2, h3, h4⟩ := id h
  unfold look2
  by_cases hw : M 21 k ≠ -1 ∧ M 19 k = M 20 k
  · rw [if_pos hw]
    rcases h3 with h3 | ⟨q0, g1, g2, g3, g4, g5, g6⟩
    · exact absurd h3 hw.1
    · rw [g1, Int.toNat_natCast]
      refine ⟨⟨by rw [tu_k (by decide), tu_k (by decide)]; exact h1, by rw [tu_k (by decide), tu_k (by decide)]; exact h2, Or.inl (tu_s ..), fun q hq hk hn => ?_⟩, fun z => absurd (tu_s ..) z⟩
      rw [tu_k (a := 23) (k := 21) (by decide), tu_k (a := 22) (k := 21) (by decide), tu_k (a := 22) (k := 23) (by decide)]
      by_cases hq0 : q = q0
      · subst hq0
        rw [tu_s]
        exact ⟨g6, fun _ => g5, fun _ => by rw [← h1, hw.2, h2, aim_q g4]⟩
      · rw [tu_j hq0]
        exact h4 q hq hk (by omega)
  · rw [if_neg hw]
    exact ⟨h, fun z q => hw ⟨z, by rw [h1, h2]; exact q⟩⟩
theorem GK_eq {c : Tb} {L t : Nat} {r : Int} {M M' : Tb} {k : Nat} (h : GK c L t r M k) (h1 : M' 19 k = M 19 k) (h2 : M' 20 k = M 20 k) (h3 : M' 21 k = M 21 k) (h4 : ∀ q : Nat, c 8 q = k → M' 22 q = M 22 q ∧ M' 23 q = M 23 q) : GK c L t r M' k := by
  obtain ⟨a1, a2, a3, a4⟩ := h
  refine ⟨by rw [h1]; exact a1, by rw [h2]; exact a2, ?_, fun q hq hk hn => ?_⟩
  · rw [h3]
    rcases a3 with a3 | ⟨q0, g1, g2, g3, g4, g5, g6⟩
    · exact Or.inl a3
    · exact Or.inr ⟨q0, g1, g2, g3, g4, by rw [(h4 q0 g3).1]; exact g5, by rw [(h4 q0 g3).1]; exact g6⟩
  · rw [h3] at hn
    rw [(h4 q hk).1, (h4 q hk).2]
    exact a4 q hq hk hn
/-- the rows of machine k and its cues alone are touched -/
theorem lookK_frame {c : Tb} {L t k : Nat} {M : Tb} (hL : 0 < L) (h6 : c 6 0 ≤ 24) (h : GK c L t (tr c L k t).2 M k) : (∀ a j, (a < 20 ∨ 24 ≤ a) → lookK c L t k M a j = M a j) ∧ (∀ j, j ≠ k → lookK c L t k M 20 j = M 20 j ∧ lookK c L t k M 21 j = M 21 j) ∧ (∀ q : Nat, c 8 q ≠ k → lookK c L t k M 22 q = M 22 q ∧ lookK c L t k M 23 q = M 23 q) ∧
    (∀ q : Nat, (lookK c L t k M 22 q = M 22 q ∨ lookK c L t k M 22 q = t) ∧ (lookK c L t k M 23 q = M 23 q ∨ lookK c L t k M 23 q = t)) := by
  have g1 := look1_ok hL h6 h
  have f1 : (∀ a j, (a < 20 ∨ 24 ≤ a) → look1 c L t k M a j = M a j) ∧ (∀ j, j ≠ k → look1 c L t k M 20 j = M 20 j ∧ look1 c L t k M 21 j = M 21 j) ∧ (∀ q : Nat, c 8 q ≠ k → look1 c L t k M 22 q = M 22 q ∧ look1 c L t k M 23 q = M 23 q) ∧ (∀ q : Nat, (look1 c L t k M 22 q = M 22 q ∨ look1 c L t k M 22 q = t) ∧ (look1 c L t k M 23 q = M 23 q ∨ look1 c L t k M 23 q = t)) := by
    unfold look1
    rcases lookE_q (t := t) (k := k) hL h6 with he | ⟨e, he, e1, e2, e3, e4⟩
    · rw [if_pos he]
      exact ⟨fun _ _ _ => rfl, fun _ _ => ⟨rfl, rfl⟩, fun _ _ => ⟨rfl, rfl⟩, fun _ => ⟨Or.inl rfl, Or.inl rfl⟩⟩
    · rw [if_neg (by omega), he, Int.toNat_natCast]
      have key : ∃ M1 : Tb, (if M 21 k = -1 then M else tu M 23 (M 21 k).toNat t) = M1 ∧ (∀ a j, a ≠ 23 → M1 a j = M a j) ∧ (∀ q : Nat, c 8 q ≠ k → M1 23 q = M 23 q) ∧ (∀ q : Nat, M1 23 q = M 23 q ∨ M1 23 q = t) := by
        refine ⟨_, rfl, ?_⟩
        by_cases hw : M 21 k = -1
        · rw [if_pos hw]
          exact ⟨fun _ _ _ => rfl, fun _ _ => rfl, fun _ => Or.inl rfl⟩
        · rw [if_neg hw]
          rcases h.2.2.1 with h3 | ⟨q0, b1, b2, b3, -⟩
          · exact absurd h3 hw
          · rw [b1, Int.toNat_natCast]
            refine ⟨fun a j ha => tu_k ha, fun q hq => tu_j (fun z => hq (by rw [z]; exact b3)), fun q => ?_⟩
            by_cases hq : q = q0
            · subst hq; exact Or.inr (tu_s ..)
            · exact Or.inl (tu_j hq)
      obtain ⟨M1, hM1, k1, k2, k3⟩ := key
      rw [hM1]
      refine ⟨fun a j ha => ?_, fun j hj => ⟨?_, ?_⟩, fun q hq => ⟨?_, ?_⟩, fun q => ⟨?_, ?_⟩⟩
      · rw [tu_k (by omega), tu_k (by omega), tu_k (by omega)]; exact k1 a j (by omega)
      · rw [tu_j hj, tu_k (by decide), tu_k (by decide)]; exact k1 _ _ (by decide)
      · rw [tu_k (by decide), tu_j hj, tu_k (by decide)]; exact k1 _ _ (by decide)
      · rw [tu_k (by decide), tu_k (by decide), tu_j (fun z => hq (by rw [z]; exact e3))]; exact k1 _ _ (by decide)
      · rw [tu_k (by decide), tu_k (by decide), tu_k (by decide)]; exact k2 q hq
      · rw [tu_k (by decide), tu_k (by decide)]
        by_cases hqe : q = e
        · subst hqe; exact Or.inr (tu_s ..)
        · rw [tu_j hqe]; exact Or.inl (k1 _ _ (by decide))
      · rw [tu_k (by decide), tu_k (by decide), tu_k (by decide)]; exact k3 q
  unfold lookK look2
  by_cases hw : look1 c L t k M 21 k ≠ -1 ∧ look1 c L t k M 19 k = look1 c L t k M 20 k
  · rw [if_pos hw]
    rcases g1.2.2.1 with h3 | ⟨q0, b1, b2, b3, -⟩
    · exact absurd h3 hw.1
    · rw [b1, Int.toNat_natCast]
      refine ⟨fun a j ha => ?_, fun j hj => ⟨?_, ?_⟩, fun q hq => ⟨?_, ?_⟩, fun q => ⟨?_, ?_⟩⟩
      · rw [tu_k (by omega), tu_k (by omega)]; exact f1.1 a j ha
      · rw [tu_k (by decide), tu_k (by decide)]; exact (f1.2.1 j hj).1
      · rw [tu_j hj, tu_k (by decide)]; exact (f1.2.1 j hj).2
      · rw [tu_k (by decide), tu_k (by decide)]; exact (f1.2.2.1 q hq).1
      · rw [tu_k (by decide), tu_j (fun z => hq (by rw [z]; exact b3))]; exact (f1.2.2.1 q hq).2
      · rw [tu_k (by decide), tu_k (by decide)]; exact (f1.2.2.2 q).1
      · rw [tu_k (by decide)]
        by_cases hq : q = q0
        · subst hq; exact Or.inr (tu_s ..)
        · rw [tu_j hq]; exact (f1.2.2.2 q).2
  · rw [if_neg hw]
    exact f1
/-- a pair of wagons that meet, of places P; the least pair of all, seen from an earlier finding -/
abbrev mtB (c : Tb) (P : Nat → Int) (k j : Nat) : Prop := c 1 k = 0 ∧ c 1 j = 0 ∧ c 2 k = c 2 j ∧ 2 * (if P k < P j then P j - P k else P k - P j) < c 3 k + c 3 j
def lpJ (c : Tb) (P : Nat → Int) (k : Nat) (a : Int) : Nat → Int
  | 0 => a
  | n + 1 => if lpJ c P k a n = -1 ∧ mtB c P k (k + 1 + n) then 10 * (k : Int) + (k + 1 + n : Nat) else lpJ c P k a n
def lpK (c : Tb) (P : Nat → Int) (a : Int) : Nat → Int
  | 0 => a
  | k + 1 => lpJ c P k (lpK c P a k) ((c 0 0).toNat - (k + 1))
/-- first meeting and its pair, of the ticks before t -/
def mtP (c : Tb) (L : Nat) : Nat → Int × Int
  | 0 => (-1, -1)
  | t + 1 => (if (mtP c L t).2 = -1 ∧ lpK c (fun k => (tr c L k t).1) (mtP c L t).2 (c 0 0).toNat ≠ -1 then (t : Int) else (mtP c L t).1, lpK c (fun k => (tr c L k t).1) (mtP c L t).2 (c 0 0).toNat)
theorem mv_same {tb sp m : Int} (hm : 0 ≤ m ∧ m ≤ 359) (hs : 0 ≤ sp) : mv tb sp m m = m := by
  unfold mv
  simp only []
  by_cases h : tb = 0
  · simp only [if_pos h]
    (repeat' split) <;> omega
  · simp only [if_neg h]
    (repeat' split) <;> omega
/-- a tick's moves behind the looks: machine k's rows are those of the next tick -/
theorem GK_move {c : Tb} {L t k : Nat} {M M' : Tb} (hw : WF c) (hk8 : ∀ q : Nat, c 8 q = k → (c 8 q).toNat = k) (h : GK c L t (tr c L k (t + 1)).2 M k) (hn : M 21 k ≠ -1 → (tr c L k t).1 ≠ aimOf c k (tr c L k (t + 1)).2) (h1 : M' 19 k = mv (c 1 k) (c 4 k) (M 19 k) (M 20 k)) (h2 : ∀ a j, a ≠ 19 → M' a j = M a j) : GK c L (t + 1) (tr c L k (t + 1)).2 M' k := by
  obtain ⟨a1, a2, a3, a4⟩ := h
  refine ⟨?_, by rw [h2 _ _ (by decide)]; exact a2, ?_, fun q hq hk hnq => ?_⟩
  · rw [h1, a1, a2]
    rfl
  · rw [h2 21 k (by decide)]
    rcases a3 with a3 | ⟨q0, g1, g2, g3, g4, g5, g6⟩
    · exact Or.inl a3
    · refine Or.inr ⟨q0, g1, g2, g3, g4, by rw [h2 _ _ (by decide)]; exact g5, ?_⟩
      rw [h2 _ _ (by decide)]
      unfold cnt
      rw [hk8 q0 g3, if_pos ⟨g4, fun z => hn (by omega) (by rw [z, aim_q g4])⟩]
      omega
  · rw [h2 21 k (by decide)] at hnq
    obtain ⟨b1, b2, b3⟩ := a4 q hq hk hnq
    have hc : cnt c L q (t + 1) = cnt c L q t := by
      rw [show cnt c L q (t + 1) = cnt c L q t + (if (tr c L (c 8 q).toNat (t + 1)).2 = q ∧ (tr c L (c 8 q).toNat t).1 ≠ c 9 q then 1 else 0) from rfl, hk8 q hk, if_neg (fun z => z.2 (b3 z.1))]
      omega
    rw [h2 _ _ (by decide), h2 _ _ (by decide), hc]
    refine ⟨b1, b2, fun z => ?_⟩
    have e : (tr c L k (t + 1)).1 = mv (c 1 k) (c 4 k) (tr c L k t).1 (aimOf c k (tr c L k (t + 1)).2) := rfl
    rw [e, aim_q z, b3 z]
    exact mv_same ((hw.2.2.2.2.2.2.2.2.1 q).2.2.2.2.1) (hw.2.2.2.2.2.2.2.1 k).2.2.2.2.1.1
end RS5
section RS6
theorem lookN_ok {c : Tb} {L t : Nat} {M : Tb} (hL : 0 < L) (h6 : c 6 0 ≤ 24) (h : ∀ k : Nat, (k : Int) < c 0 0 → GK c L t (tr c L k t).2 M k) : ∀ n : Nat, (n : Int) ≤ c 0 0 →
    (∀ k : Nat, k < n → GK c L t (tr c L k (t + 1)).2 (lookN c L t M n) k ∧ (lookN c L t M n 21 k ≠ -1 → (tr c L k t).1 ≠ aimOf c k (tr c L k (t + 1)).2)) ∧
    (∀ k : Nat, n ≤ k → (k : Int) < c 0 0 → GK c L t (tr c L k t).2 (lookN c L t M n) k) ∧ (∀ a j, (a < 20 ∨ 24 ≤ a) → lookN c L t M n a j = M a j) ∧
    (∀ q : Nat, (lookN c L t M n 22 q = M 22 q ∨ lookN c L t M n 22 q = t) ∧ (lookN c L t M n 23 q = M 23 q ∨ lookN c L t M n 23 q = t))
  | 0, _ => ⟨fun k hk => absurd hk (Nat.not_lt_zero k), fun k _ hk => h k hk, fun _ _ _ => rfl, fun _ => ⟨Or.inl rfl, Or.inl rfl⟩⟩
  | n + 1, hn => by
    obtain ⟨i1, i2, i3, i4⟩ := lookN_ok hL h6 h n (by omega)
    have g := i2 n (Nat.le_refl n) (by omega)
    have g2 := look2_ok (look1_ok hL h6 g)
    obtain ⟨f1, f2, f3, f4⟩ := lookK_frame hL h6 g
    show (∀ k : Nat, k < n + 1 → GK c L t (tr c L k (t + 1)).2 (lookK c L t n (lookN c L t M n)) k ∧ (lookK c L t n (lookN c L t M n) 21 k ≠ -1 → _)) ∧ (∀ k : Nat, n + 1 ≤ k → (k : Int) < c 0 0 → GK c L t (tr c L k t).2 (lookK c L t n (lookN c L t M n)) k) ∧ (∀ a j, (a < 20 ∨ 24 ≤ a) → lookK c L t n (lookN c L t M n) a j = M a j) ∧ _
    refine ⟨fun k hk => ?_, fun k hk hk2 => ?_, fun a j ha => (f1 a j ha).trans (i3 a j ha), fun q => ⟨?_, ?_⟩⟩
    · by_cases q : k = n
      · subst q
        exact g2
      · obtain ⟨j1, j2⟩ := i1 k (by omega)
        refine ⟨GK_eq j1 (f1 19 k (by omega)) (f2 k q).1 (f2 k q).2 (fun z hz => f3 z (by omega)), fun z => j2 ?_⟩
        rw [(f2 k q).2] at z
        exact z
    · have q : k ≠ n := by omega
      exact GK_eq (i2 k (by omega) hk2) (f1 19 k (by omega)) (f2 k q).1 (f2 k q).2 (fun z hz => f3 z (by omega))
    · rcases (f4 q).1 with z | z
      · rcases (i4 q).1 with y | y
        · exact Or.inl (z.trans y)
        · exact Or.inr (z.trans y)
      · exact Or.inr z
    · rcases (f4 q).2 with z | z
      · rcases (i4 q).2 with y | y
        · exact Or.inl (z.trans y)
        · exact Or.inr (z.trans y)
      · exact Or.inr z
theorem GK_21 {c : Tb} {L t k : Nat} {r : Int} {M : Tb} (h6 : c 6 0 ≤ 24) (h : GK c L t r M k) : -1 ≤ M 21 k ∧ M 21 k < 24 := by
  rcases h.2.2.1 with h3 | ⟨q, h1, h2, -⟩ <;> omega
theorem lpJ_p {c : Tb} {P : Nat → Int} {k : Nat} {a : Int} (h : a ≠ -1) : ∀ n : Nat, lpJ c P k a n = a
  | 0 => rfl
  | n + 1 => by
    unfold lpJ
    rw [lpJ_p h n, if_neg (fun z => h z.1)]
theorem lpK_p {c : Tb} {P : Nat → Int} {a : Int} (h : a ≠ -1) : ∀ n : Nat, lpK c P a n = a
  | 0 => rfl
  | n + 1 => by
    unfold lpK
    rw [lpK_p h n, lpJ_p h]
theorem lpJ_rg {c : Tb} {P : Nat → Int} {k : Nat} {a : Int} (h : -1 ≤ a ∧ a ≤ 100) (hk : k < 6) : ∀ n : Nat, k + n < 8 → -1 ≤ lpJ c P k a n ∧ lpJ c P k a n ≤ 100
  | 0, _ => h
  | n + 1, hn => by
    have := lpJ_rg (c := c) (P := P) h hk n (by omega)
    unfold lpJ
    split <;> omega
theorem lpK_rg {c : Tb} {P : Nat → Int} {a : Int} (h0 : c 0 0 ≤ 6) (h : -1 ≤ a ∧ a ≤ 100) : ∀ n : Nat, n ≤ 6 → -1 ≤ lpK c P a n ∧ lpK c P a n ≤ 100
  | 0, _ => h
  | n + 1, hn => by
    unfold lpK
    exact lpJ_rg (lpK_rg h0 h n (by omega)) (by omega) _ (by omega)
theorem lpJ_congr {c : Tb} {P P' : Nat → Int} {k : Nat} (a : Int) (hk : P k = P' k) : ∀ n : Nat, (∀ j, j < n → P (k + 1 + j) = P' (k + 1 + j)) → lpJ c P k a n = lpJ c P' k a n
  | 0, _ => rfl
  | n + 1, h => by
    unfold lpJ
    rw [lpJ_congr a hk n (fun j hj => h j (by omega))]
    unfold mtB
    rw [hk, h n (by omega)]
theorem lpK_congr {c : Tb} {P P' : Nat → Int} (a : Int) (h : ∀ k : Nat, (k : Int) < c 0 0 → P k = P' k) : ∀ n : Nat, (n : Int) ≤ c 0 0 → lpK c P a n = lpK c P' a n
  | 0, _ => rfl
  | n + 1, hn => by
    unfold lpK
    rw [lpK_congr a h n (by omega), lpJ_congr _ (h n (by omega)) _ (fun j hj => h _ (by omega))]
end RS6
section RS7
/-- what a play leaves: meeting, pair, and of each cue how long it was worked on -/
def PL (c : Tb) (L : Nat) (M : Tb) : Prop := M 24 0 = (mtP c L ((c 12 0).toNat * L + 1)).1 ∧ M 25 0 = (mtP c L ((c 12 0).toNat * L + 1)).2 ∧
  (∀ q : Nat, (q : Int) < c 6 0 → M 23 q = M 22 q + cnt c L q ((c 12 0).toNat * L) ∧ (cnt c L q ((c 12 0).toNat * L) ≠ 0 → M 22 q = c 7 q * L)) ∧
  (∀ q : Nat, q < 24 → (0 ≤ M 22 q ∧ M 22 q ≤ 2400) ∧ (0 ≤ M 23 q ∧ M 23 q ≤ 2400))
theorem mtP_rg {c : Tb} (L : Nat) (h0 : c 0 0 ≤ 6) : ∀ t : Nat, (-1 ≤ (mtP c L t).1 ∧ (mtP c L t).1 ≤ t) ∧ -1 ≤ (mtP c L t).2 ∧ (mtP c L t).2 ≤ 100
  | 0 => by unfold mtP; omega
  | t + 1 => by
    have h := mtP_rg L h0 t
    have h2 := lpK_rg (c := c) (P := fun k => (tr c L k t).1) h0 h.2 (c 0 0).toNat (by omega)
    unfold mtP
    refine ⟨?_, h2⟩
    show -1 ≤ (if _ then _ else _) ∧ (if _ then _ else _) ≤ _
    split <;> omega
end RS7
section RS8
def bB (c : Tb) (L : Nat) : Nat → Int := fun q => c 7 q * L
def eE (c : Tb) (L : Nat) : Nat → Int := fun q => c 7 q * L + cnt c L q ((c 12 0).toNat * L)
theorem of_can {c : Tb} {L : Nat} {M : Tb} (h : PL c L M) {q : Nat} {w : Int} : ofP c (M 22) (M 23) q w ↔ ofP c (bB c L) (eE c L) q w := by
  unfold ofP bB eE
  have h1 := h.2.2.1 q
  have h2 := cnt_rg c L q ((c 12 0).toNat * L)
  constructor
  · intro ⟨a1, a2, a3, a4⟩
    have := h1 a1
    exact ⟨a1, a2, by omega, a4⟩
  · intro ⟨a1, a2, a3, a4⟩
    have := h1 a1
    exact ⟨a1, a2, by omega, a4⟩
theorem of_B {c : Tb} {L : Nat} {M : Tb} (h : PL c L M) {q : Nat} {w : Int} (ho : ofP c (M 22) (M 23) q w) : M 22 q = bB c L q ∧ M 23 q = eE c L q := by
  unfold bB eE
  have h1 := h.2.2.1 q ho.1
  have h2 := ho.2.2.1
  have h3 := h1.2 (by omega)
  exact ⟨h3, by omega⟩
theorem nxN_of (c : Tb) (B E : Nat → Int) (q : Nat) (w : Int) : ∀ k : Nat, nxN c B E q w k = -1 ∨ ofP c B E (nxN c B E q w k).toNat w
  | 0 => Or.inl rfl
  | k + 1 => by
    unfold nxN
    by_cases h : ofP c B E k w ∧ ahP B q k ∧ (nxN c B E q w k = -1 ∨ ahP B k (nxN c B E q w k).toNat)
    · rw [if_pos h]
      exact Or.inr (by rw [Int.toNat_natCast]; exact h.1)
    · rw [if_neg h]
      exact nxN_of c B E q w k
theorem nx_can {c : Tb} {L : Nat} {M : Tb} (h : PL c L M) {q : Nat} {w : Int} (hq : ofP c (M 22) (M 23) q w) : ∀ k : Nat, nxN c (M 22) (M 23) q w k = nxN c (bB c L) (eE c L) q w k
  | 0 => rfl
  | k + 1 => by
    have ih := nx_can h hq k
    have hf := nxN_of c (M 22) (M 23) q w k
    unfold nxN
    rw [← ih]
    have e : (ofP c (M 22) (M 23) k w ∧ ahP (M 22) q k ∧ (nxN c (M 22) (M 23) q w k = -1 ∨ ahP (M 22) k (nxN c (M 22) (M 23) q w k).toNat)) ↔ (ofP c (bB c L) (eE c L) k w ∧ ahP (bB c L) q k ∧ (nxN c (M 22) (M 23) q w k = -1 ∨ ahP (bB c L) k (nxN c (M 22) (M 23) q w k).toNat)) := by
      rw [← of_can h]
      by_cases hk : ofP c (M 22) (M 23) k w
      · have b1 := (of_B h hq).1
        have b2 := (of_B h hk).1
        rcases hf with hf | hf
        · unfold ahP
          rw [b1, b2]
          simp only [hf, true_or]
        · have b3 := (of_B h hf).1
          unfold ahP
          rw [b1, b2, b3]
      · exact ⟨fun z => absurd z.1 hk, fun z => absurd z.1 hk⟩
    by_cases z : ofP c (M 22) (M 23) k w ∧ ahP (M 22) q k ∧ (nxN c (M 22) (M 23) q w k = -1 ∨ ahP (M 22) k (nxN c (M 22) (M 23) q w k).toNat)
    · rw [if_pos z, if_pos (e.mp z)]
    · rw [if_neg z, if_neg (fun y => z (e.mpr y))]
theorem cl_can {c : Tb} {L : Nat} {M : Tb} (h : PL c L M) {w : Int} : ∀ k : Nat, clN c (M 22) (M 23) w k = clN c (bB c L) (eE c L) w k
  | 0 => rfl
  | k + 1 => by
    unfold clN
    rw [cl_can h k]
    congr 1
    by_cases hk : ofP c (M 22) (M 23) k w
    · have e : nxO c (M 22) (M 23) k w = nxO c (bB c L) (eE c L) k w := nx_can h hk _
      have hf := nxN_of c (M 22) (M 23) k w (c 6 0).toNat
      have e2 : nxN c (M 22) (M 23) k w (c 6 0).toNat = nxO c (bB c L) (eE c L) k w := e
      rw [e2] at hf
      rw [e]
      have b := (of_B h hk).2
      have hk2 := (of_can h).mp hk
      rcases hf with hf | hf
      · rw [if_neg (fun z => z.2.1 hf), if_neg (fun z => z.2.1 hf)]
      · have b1 := (of_B h hf).1
        by_cases z : nxO c (bB c L) (eE c L) k w ≠ -1 ∧ bB c L (nxO c (bB c L) (eE c L) k w).toNat < eE c L k + c 15 0
        · rw [if_pos ⟨hk, z.1, by rw [b1, b]; exact z.2⟩, if_pos ⟨hk2, z⟩]
        · rw [if_neg (fun y => z ⟨y.2.1, by have y2 := y.2.2; rw [b1, b] at y2; exact y2⟩), if_neg (fun y => z y.2)]
    · rw [if_neg (fun z => hk z.1), if_neg (fun z => hk ((of_can h).mpr z.1))]
theorem wt_can {c : Tb} {L : Nat} {M : Tb} (h : PL c L M) {w t : Int} : ∀ k : Nat, wtB c (M 22) (M 23) w t k = wtB c (bB c L) (eE c L) w t k
  | 0 => rfl
  | k + 1 => by
    unfold wtB
    rw [wt_can h k]
    congr 1
    by_cases hk : ofP c (M 22) (M 23) k w
    · have b := of_B h hk
      have e : (ofP c (M 22) (M 23) k w ∧ M 22 k ≤ t ∧ t ≤ M 23 k - 1) ↔ (ofP c (bB c L) (eE c L) k w ∧ bB c L k ≤ t ∧ t ≤ eE c L k - 1) := by
        rw [← of_can h, b.1, b.2]
      exact decide_eq_decide.mpr e
    · exact decide_eq_decide.mpr ⟨fun z => absurd z.1 hk, fun z => absurd ((of_can h).mpr z.1) hk⟩
theorem ov_can {c : Tb} {L : Nat} {M : Tb} (h : PL c L M) {w : Int} : ∀ k : Nat, ovN c (M 22) (M 23) w k = ovN c (bB c L) (eE c L) w k
  | 0 => rfl
  | k + 1 => by
    unfold ovN
    rw [ov_can h k, wt_can h]
/-- the last tick -/
def NT (c : Tb) (L : Nat) : Nat := (c 12 0).toNat * L
def FINE (c : Tb) (L : Nat) : Prop := (mtP c L (NT c L + 1)).1 = -1 ∧ (∀ q : Nat, (q : Int) < c 6 0 → ¬ ofP c (bB c L) (eE c L) q (-1)) ∧ ∀ w : Nat, w < 6 → clN c (bB c L) (eE c L) w (c 6 0).toNat = 0
noncomputable def fsF (c : Tb) : Nat → Int
  | 0 => -1
  | n + 1 => @ite Int (FINE c (lenB c (40 + 10 * (n + 1 : Nat))).toNat) (Classical.propDecidable _) (40 + 10 * (n + 1 : Nat)) (fsF c n)
def vlTakes (c : Tb) (a : Int) : Int := cnt c (LL c) a.toNat (NT c (LL c))
def vlClashes (c : Tb) (w : Int) : Int := clN c (bB c (LL c)) (eE c (LL c)) w (c 6 0).toNat
def vlOver (c : Tb) (w : Int) : Int := ovN c (bB c (LL c)) (eE c (LL c)) w (NT c (LL c) - (c 16 0).toNat)
end RS8
