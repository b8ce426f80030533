section KY
theorem tr_m1 {c : Tb} (hw : WF c) (L i : Nat) : ∀ t : Nat, (tr c L i t).2 = -1 → (tr c L i t).1 = c 5 i
  | 0, _ => rfl
  | t + 1, h => by
    have wi := hw.2.2.2.2.2.2.2.1 i
    rw [tr_2] at h
    rw [tr_s]
    show mv (c 1 i) (c 4 i) (tr c L i t).1 (aimOf c i (if lookE c L t i = -1 then (tr c L i t).2 else lookE c L t i)) = c 5 i
    rw [h]
    by_cases z : lookE c L t i = -1
    · rw [if_pos z] at h
      rw [tr_m1 hw L i t h]
      unfold aimOf
      rw [if_pos rfl]
      exact mv_same wi.2.2.2.2.2.2.1 wi.2.2.2.2.1.1
    · rw [if_neg z] at h
      exact absurd h z
/-- one tick -/
theorem goS_1 {c : Tb} (hw : WF c) {i : Nat} {p r : Int} (hp : 0 ≤ p ∧ p ≤ 359) (hr : r = -1 → p = c 5 i) : goS c i p r 1 = mv (c 1 i) (c 4 i) p (aimOf c i r) := by
  have wi := hw.2.2.2.2.2.2.2.1 i
  have ha := aim_rg hw (i := i) (r := r)
  unfold goS wyR
  by_cases h : r = -1
  · rw [if_pos h]
    have h2 : aimOf c i r = c 5 i := by unfold aimOf; rw [if_pos h]
    have hs : stV (c 4 i * 1) 0 = 0 := by unfold stV; omega
    rw [hs, goV_0 hp, h2, ← hr h]
    exact (mv_same hp wi.2.2.2.2.1.1).symm
  · rw [if_neg h]
    generalize aimOf c i r = m at ha ⊢
    have wi4 := wi.2.2.2.2.1
    have wi2 := wi.2.2.1
    generalize c 4 i = sp at wi4 ⊢
    unfold goV stV wayV tkQ mv
    simp only []
    by_cases h1 : c 1 i = 0
    · simp only [if_pos h1]
      rw [if_neg (by omega), if_neg (by omega)]
      (repeat' split) <;> omega
    · simp only [if_neg h1, if_pos]
      (repeat' split) <;> omega
/-- the cue that runs in bar b -/
def RB (c : Tb) (L b j : Nat) : Int := (tr c L j (b * L + 1)).2
theorem rb_at {c : Tb} {L b j : Nat} : ∀ s : Nat, 1 ≤ s → s ≤ L → (tr c L j (b * L + s)).2 = RB c L b j
  | 0, h, _ => absurd h (by decide)
  | 1, _, _ => rfl
  | s + 2, _, h => by
    have ih := rb_at (c := c) (L := L) (b := b) (j := j) (s + 1) (by omega) (by omega)
    show (tr c L j (b * L + (s + 1) + 1)).2 = _
    rw [tr_2, if_pos]
    · exact ih
    · unfold lookE
      rw [if_neg]
      rw [Nat.mul_add_mod_of_lt (by omega)]
      omega
theorem rb_eff {c : Tb} {L b j : Nat} (hL : 0 < L) : RB c L b j = if eff c j b = -1 then (tr c L j (b * L)).2 else eff c j b := by
  unfold RB
  rw [tr_2]
  have e : lookE c L (b * L) j = eff c j b := by
    unfold lookE
    rw [if_pos (Nat.mul_mod_left b L), Nat.mul_div_cancel b hL]
  rw [e]
theorem rb_run {c : Tb} {L b j : Nat} (hw : WF c) (hL : 0 < L) : runQ c (RB c L b j) := by
  rcases tr_run (c := c) (L := L) (k := j) hL hw.2.1.2 (b * L + 1) with h | ⟨q, h1, h2, -⟩
  · exact Or.inl h
  · exact Or.inr ⟨q, h1, h2⟩
/-- a tick within bar b -/
theorem tr_in {c : Tb} (hw : WF c) {L b j s : Nat} (hs : s < L) : (tr c L j (b * L + s + 1)).1 = goS c j (tr c L j (b * L + s)).1 (RB c L b j) 1 := by
  have h1 : (tr c L j (b * L + s + 1)).2 = RB c L b j := rb_at (s + 1) (by omega) (by omega)
  have h2 : (tr c L j (b * L + s + 1)).1 = mv (c 1 j) (c 4 j) (tr c L j (b * L + s)).1 (aimOf c j (tr c L j (b * L + s + 1)).2) := by
    rw [tr_s]
  rw [h2, h1, goS_1 hw (tr_rg hw L j _)]
  intro z
  refine tr_m1 hw L j _ ?_
  rw [← h1, tr_2] at z
  by_cases y : lookE c L (b * L + s) j = -1
  · rw [if_pos y] at z; exact z
  · rw [if_neg y] at z; exact absurd z y
/-- once nothing moves, nothing does in the bar -/
theorem tr_still {c : Tb} (hw : WF c) {L b s : Nat} (h : ∀ j : Nat, (j : Int) < c 0 0 → (tr c L j (b * L + s + 1)).1 = (tr c L j (b * L + s)).1) : ∀ u : Nat, s + u ≤ L → ∀ j : Nat, (j : Int) < c 0 0 → (tr c L j (b * L + s + u)).1 = (tr c L j (b * L + s)).1
  | 0, _, _, _ => rfl
  | u + 1, hu, j, hj => by
    have ih := tr_still hw h u (by omega) j hj
    have e1 := tr_in hw (c := c) (b := b) (j := j) (s := s + u) (L := L) (by omega)
    have e2 := tr_in hw (c := c) (b := b) (j := j) (s := s) (L := L) (by omega)
    rw [Nat.add_assoc (b * L) s u, ← Nat.add_assoc] at ih
    rw [show b * L + s + (u + 1) = b * L + (s + u) + 1 by omega, e1, show b * L + (s + u) = b * L + s + u by omega, ih, ← e2, h j hj]
theorem mt_keep {c : Tb} {L t : Nat} (h : (mtP c L t).2 ≠ -1) : ∀ u : Nat, mtP c L (t + u) = mtP c L t
  | 0 => rfl
  | u + 1 => by
    have ih := mt_keep h u
    show (if (mtP c L (t + u)).2 = -1 ∧ lpK c (fun k => (tr c L k (t + u)).1) (mtP c L (t + u)).2 (c 0 0).toNat ≠ -1 then ((t + u : Nat) : Int) else (mtP c L (t + u)).1, lpK c (fun k => (tr c L k (t + u)).1) (mtP c L (t + u)).2 (c 0 0).toNat) = _
    rw [ih, if_neg (fun z => h z.1), lpK_p h]
theorem mt_s {c : Tb} {L t : Nat} {x : Int} (h : mtP c L t = (-1, -1)) (hx : lpK c (fun k => (tr c L k t).1) (-1) (c 0 0).toNat = x) : mtP c L (t + 1) = if x = -1 then (-1, -1) else ((t : Int), x) := by
  show (if (mtP c L t).2 = -1 ∧ lpK c (fun k => (tr c L k t).1) (mtP c L t).2 (c 0 0).toNat ≠ -1 then (t : Int) else (mtP c L t).1, lpK c (fun k => (tr c L k t).1) (mtP c L t).2 (c 0 0).toNat) = _
  rw [h]
  show (if (-1 : Int) = -1 ∧ lpK c (fun k => (tr c L k t).1) (-1) (c 0 0).toNat ≠ -1 then (t : Int) else -1, lpK c (fun k => (tr c L k t).1) (-1) (c 0 0).toNat) = _
  rw [hx]
  by_cases z : x = -1
  · rw [if_neg (fun y => y.2 z), if_pos z, z]
  · rw [if_pos ⟨rfl, z⟩, if_neg z]
theorem mt_iff {c : Tb} {L : Nat} : ∀ t : Nat, (mtP c L t).1 = -1 ↔ (mtP c L t).2 = -1
  | 0 => ⟨fun _ => rfl, fun _ => rfl⟩
  | t + 1 => by
    have ih := mt_iff (c := c) (L := L) t
    by_cases h : (mtP c L t).2 = -1
    · have e := mt_s (c := c) (L := L) (t := t) (x := _) (Prod.ext (ih.mpr h) h) rfl
      rw [e]
      by_cases z : lpK c (fun k => (tr c L k t).1) (-1) (c 0 0).toNat = -1
      · rw [if_pos z]
      · rw [if_neg z]
        exact ⟨fun y => by have y2 : (t : Int) = -1 := y; omega, fun y => absurd y z⟩
    · have e := mt_keep h 1
      rw [e]
      exact ih
theorem lpJ_st {c : Tb} {P : Nat → Int} {k : Nat} {a v : Int} {n : Nat} (h : lpJ c P k a n = v) (hv : v ≠ -1) : ∀ u : Nat, lpJ c P k a (n + u) = v
  | 0 => h
  | u + 1 => by
    show (if lpJ c P k a (n + u) = -1 ∧ _ then _ else lpJ c P k a (n + u)) = v
    rw [if_neg (fun z => hv (by rw [← lpJ_st h hv u]; exact z.1))]
    exact lpJ_st h hv u
theorem lpK_st {c : Tb} {P : Nat → Int} {a v : Int} {n : Nat} (h : lpK c P a n = v) (hv : v ≠ -1) : ∀ u : Nat, lpK c P a (n + u) = v
  | 0 => h
  | u + 1 => by
    show lpJ c P (n + u) (lpK c P a (n + u)) _ = v
    rw [lpK_st h hv u, lpJ_p hv]
end KY
