/-! what the reference's methods work out, of the table c (rows below 19) -/
section RS
/-- ticks of a bar at a tempo -/
def lenB (c : Tb) (T : Int) : Int := if c 13 0 * 100 / T < 1 then 1 else c 13 0 * 100 / T
/-- the highest of the first q cues that takes effect for machine i at bar b -/
def effN (c : Tb) (i b : Int) : Nat → Int
  | 0 => -1
  | q + 1 => if c 11 q = 0 ∧ c 8 q = i ∧ c 7 q = b then (q : Int) else effN c i b q
def eff (c : Tb) (i b : Int) : Int := effN c i b (c 6 0).toNat
/-- one tick's move: table or not, speed, place, aim -/
def mv (tb sp a m : Int) : Int :=
  let f0 := m - a
  let f1 := if tb = 0 then f0 else (let h := if f0 < 0 then f0 + 360 else f0; if 180 < h then h - 360 else h)
  let f2 := if sp < f1 then sp else if f1 < -sp then -sp else f1
  if tb = 0 then a + f2 else (a + f2 + 360) % 360
/-- place and running cue (-1: none) of machine i behind t ticks, bars of L ticks -/
def tr (c : Tb) (L : Nat) (i : Nat) : Nat → Int × Int
  | 0 => (c 5 i, -1)
  | t + 1 =>
    let p := tr c L i t
    let e := if t % L = 0 then eff c i (t / L : Nat) else -1
    let r := if e = -1 then p.2 else e
    (mv (c 1 i) (c 4 i) p.1 (if r = -1 then c 5 i else c 9 r.toNat), r)
def aimOf (c : Tb) (i : Nat) (r : Int) : Int := if r = -1 then c 5 i else c 9 r.toNat
/-- what callers may build -/
def WF (c : Tb) : Prop := (0 ≤ c 0 0 ∧ c 0 0 ≤ 6) ∧ (0 ≤ c 6 0 ∧ c 6 0 ≤ 24) ∧ (1 ≤ c 12 0 ∧ c 12 0 ≤ 30) ∧ (1 ≤ c 13 0 ∧ c 13 0 ≤ 40) ∧ (50 ≤ c 14 0 ∧ c 14 0 ≤ 200) ∧ (0 ≤ c 15 0 ∧ c 15 0 ≤ 100) ∧ (0 ≤ c 16 0 ∧ c 16 0 ≤ 2400) ∧
  (∀ i : Nat, (c 1 i = 0 ∨ c 1 i = 1) ∧ (c 0 0 ≤ i → c 1 i = 0) ∧ (0 ≤ c 2 i ∧ c 2 i ≤ 2) ∧ (0 ≤ c 3 i ∧ c 3 i ≤ 20) ∧ (0 ≤ c 4 i ∧ c 4 i ≤ 10) ∧ (i < c 0 0 → 1 ≤ c 4 i) ∧ (0 ≤ c 5 i ∧ c 5 i ≤ 359) ∧ (c 1 i = 0 → c 5 i ≤ 200)) ∧
  (∀ q : Nat, (0 ≤ c 7 q ∧ c 7 q < 30) ∧ (q < c 6 0 → c 11 q = 0 → c 7 q < c 12 0) ∧ 0 ≤ c 8 q ∧ (q < c 6 0 → c 8 q < c 0 0) ∧ (0 ≤ c 9 q ∧ c 9 q ≤ 359) ∧ (q < c 6 0 → c 1 (c 8 q).toNat = 0 → c 9 q ≤ 200) ∧ (0 ≤ c 10 q ∧ c 10 q ≤ 5) ∧ (c 11 q = 0 ∨ c 11 q = 1) ∧ (c 6 0 ≤ q → c 11 q = 0)) ∧
  (∀ w : Nat, (c 17 w = 0 ∨ c 17 w = 1) ∧ -1 ≤ c 18 w ∧ c 18 w ≤ 5)
theorem nar_bv {x : Int} (h : x = 0 ∨ x = 1) : narrow .boolean (iv x) = iv x := by rcases h with rfl | rfl <;> rfl
theorem tu_tu (M : Tb) (k j : Nat) (x y : Int) : tu (tu M k j x) k j y = tu M k j y := by
  funext a b
  unfold tu
  split <;> rfl
theorem effN_m1 (c : Tb) (i b : Int) : ∀ q : Nat, effN c i b q = -1 ∨ ∃ j : Nat, j < q ∧ effN c i b q = j ∧ c 11 j = 0 ∧ c 8 j = i ∧ c 7 j = b
  | 0 => Or.inl rfl
  | q + 1 => by
    unfold effN
    by_cases h : c 11 q = 0 ∧ c 8 q = i ∧ c 7 q = b
    · rw [if_pos h]
      exact Or.inr ⟨q, Nat.lt_succ_self q, rfl, h⟩
    · rw [if_neg h]
      rcases effN_m1 c i b q with h1 | ⟨j, h1, h2⟩
      · exact Or.inl h1
      · exact Or.inr ⟨j, Nat.lt_succ_of_lt h1, h2⟩
theorem eff_rg (c : Tb) (i b : Int) (q : Nat) (h : q ≤ 24) : -1 ≤ effN c i b q ∧ effN c i b q < q := by
  rcases effN_m1 c i b q with h1 | ⟨j, h1, h2, -⟩
  · rw [h1]; omega
  · rw [h2]; omega
theorem lenB_rg {c : Tb} (hw : WF c) {T : Int} (h : 50 ≤ T) : 1 ≤ lenB c T ∧ lenB c T ≤ 80 := by
  obtain ⟨-, -, -, h1, -⟩ := hw
  have h2 : c 13 0 * 100 / T ≤ 80 := by
    have : c 13 0 * 100 / T ≤ 4000 / T := Int.ediv_le_ediv (by omega) (by omega)
    have : (4000 : Int) / T ≤ 80 := Int.ediv_le_of_le_mul (by omega) (by omega)
    omega
  unfold lenB
  split <;> omega
end RS
