section KX
section L
variable {g : Gx} {κ : KG} {A : ShT} {β : Wd} {c D : Tb} {σ σ' : Wd}
theorem CB.mi (h : CB κ A β c D σ) {i : Nat} (hi : (i : Int) < c 0 0) : σ (shA A (10 + i)) = some (.inr (4, ctM A c D i)) := (h.1.2.2.2.2.2.1 i hi).1
theorem CB.ro (h : CB κ A β c D σ) {i : Nat} (hi : (i : Int) < c 0 0) : σ (shA A (20 + i)) = some (eC κ 30 (fun b => rfQ A (shE A i b))) := (h.1.2.2.2.2.2.1 i hi).2
theorem CB.qi (h : CB κ A β c D σ) {q : Nat} (hq : (q : Int) < c 6 0) : σ (shA A (30 + q)) = some (.inr (3, ctC A c D q)) := h.1.2.2.2.2.2.2 q hq
theorem rfQ_m : rfQ A (-1) = none := rfl
theorem rfQ_n (q : Nat) : rfQ A (q : Int) = some (shA A (30 + q)) := by
  unfold rfQ
  rw [if_neg (by omega), Int.toNat_natCast]
def wyR (r tk pl aim : Int) : Int := if r = -1 then 0 else wayV tk pl aim
theorem wyO_R {r tk pl aim : Int} : wyO (rfQ A r) tk pl aim = wyR r tk pl aim := by
  unfold wyO wyR rfQ
  by_cases h : r = -1
  · rw [if_pos h, if_pos h]
  · rw [if_neg h, if_neg h]
/-- where machine i stands behind some ticks from p, under cue r -/
def goS (c : Tb) (i : Nat) (p r t : Int) : Int := goV (tkQ c i) p (stV (c 4 i * t) (wyR r (tkQ c i) p (aimOf c i r)))
theorem tk_rg (hw : WF c) (i : Nat) : -1 ≤ tkQ c i ∧ tkQ c i ≤ 2 := by
  have := (hw.2.2.2.2.2.2.2.1 i).2.2.1
  unfold tkQ
  split <;> omega
theorem wd_rg (hw : WF c) (i : Nat) : 0 ≤ wdQ c i ∧ wdQ c i ≤ 20 := by
  have := (hw.2.2.2.2.2.2.2.1 i).2.2.2.1
  unfold wdQ
  split <;> omega
theorem CB.aim (h : CB κ A β c D σ) {i : Nat} (hR : runQ c (D 1 i)) : ∀ a, rfQ A (D 1 i) = some a → ∃ v0 v1 v3 v4 v5, σ a = some (.inr (3, [v0, v1, iv (aimOf c i (D 1 i)), v3, v4, v5])) := by
  intro a ha
  rcases hR with hR | ⟨q, hR, hq⟩
  · rw [hR] at ha
    cases ha
  · rw [hR, rfQ_n] at ha
    cases ha
    rw [hR, aim_q rfl]
    exact ⟨_, _, _, _, _, h.qi hq⟩
theorem goV_0 {tk pl : Int} (h : 0 ≤ pl ∧ pl ≤ 359) : goV tk pl 0 = pl := by
  unfold goV
  split <;> omega
theorem sh_r (hI : CI g c A) {i b : Nat} (hi : (i : Int) < c 0 0) (_ : b < 30) : shE A i b = eff c i b := hI.2.2.2.2.2.2.2 i b hi
theorem eff_q (hw : WF c) (i b : Int) : runQ c (eff c i b) := by
  rcases effN_m1 c i b (c 6 0).toNat with h | ⟨j, h1, h2, -⟩
  · exact Or.inl h
  · exact Or.inr ⟨j, h2, by have := hw.2.1; omega⟩
end L
end KX
