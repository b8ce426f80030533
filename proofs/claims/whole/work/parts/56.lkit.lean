/-! the law's cases: what they share -/
section LK
section Rows
variable {g : Gx} {Φ : Fx} {cc : ByteArray} {own : String} {rt : Option FieldType} {d mc ms k n : Nat} {σ : Wd} {pc : Nat} {lv : List (Nat × Value)} {st : List Value}
theorem n_icmpE (C : Ok g Φ cc own rt d mc ms) {x y off : Int} (tgt : Nat) (h : x = y) (hd : decode cc pc = .ok (.if_icmp .eq off, 3)) (ht : (pc : Int) + off = (tgt : Int)) (K : N Φ k n σ tgt lv st) : N Φ k n σ pc lv (iv y :: iv x :: st) := by
  obtain ⟨p, l, e, R, s, m, args, below, meth, c, A, κ, ε, nL, Q⟩ := Φ
  subst h
  intro ws H locs ls hR hP hD hS hl
  exact lv_icmp_eq C.2.1 C.2.2.1 hd ht (fun _ => K ws H locs ls hR hP hD hS hl) (fun h => absurd rfl h)
end Rows
theorem cdWagon_rg (c : Tb) (t p w s : Int) : rg (cdWagon c t p w s) := by
  unfold cdWagon rg
  (repeat' split) <;> omega
theorem cdTable_rg (c : Tb) (a s : Int) : rg (cdTable c a s) := by
  unfold cdTable rg
  (repeat' split) <;> omega
theorem cdCue_rg (c : Tb) (a b t w : Int) : rg (cdCue c a b t w) := by
  have h : cdCue c a b t w = 0 ∨ cdCue c a b t w = 1 ∨ cdCue c a b t w = 2 ∨ cdCue c a b t w = 3 := by
    unfold cdCue
    by_cases h1 : 0 ≤ a ∧ a < c 0 0
    · rw [if_pos h1]
      by_cases h2 : (0 ≤ b ∧ b ≤ c 12 0 - 1) ∧ (0 ≤ t ∧ t ≤ (if c 1 a.toNat = 0 then 200 else 359)) ∧ (0 ≤ w ∧ w ≤ 5)
      · rw [if_pos h2]
        by_cases h3 : c 6 0 = 24
        · rw [if_pos h3]; omega
        · rw [if_neg h3]; omega
      · rw [if_neg h2]; omega
    · rw [if_neg h1]; omega
  unfold rg
  omega
theorem cdIs_rg (c : Tb) (a : Int) : rg (cdIs c a) := by
  unfold cdIs rg
  (repeat' split) <;> omega
theorem cdTempo_rg (a : Int) : rg (cdTempo a) := by
  unfold cdTempo rg
  (repeat' split) <;> omega
theorem cdWork_rg (a : Int) : rg (cdWork a) := by
  unfold cdWork rg
  (repeat' split) <;> omega
theorem cdSub_rg (a b : Int) : rg (cdSub a b) := by
  unfold cdSub rg
  (repeat' split) <;> omega
theorem cdPlace_rg (c : Tb) (a b : Int) : rg (cdPlace c a b) := by
  unfold cdPlace rg
  (repeat' split) <;> omega
theorem cdBar_rg (c : Tb) (a b : Int) : rg (cdBar c a b) := by
  unfold cdBar rg
  (repeat' split) <;> omega
theorem LJ.start {g : Gx} {A : ShT} {c D M : Tb} {x o w : Nat} {ar : Nat → Nat} {σA σC : Wd} {e0 : va_E} {f : Nat → Int64} {v : Int64} (hx : shA A 0 = x) (hCW : CW g.2.1 A c D σA) (hD : ∀ j : Nat, (j : Int) < c 0 0 → runQ c (D 1 j)) (hCI : CI g c A) (hw : WF c) (ho : σA o = none) (hR : RI o ar) (hM : MW g.2.1 o ar (wup σA o e0) M σC) (hk : ∀ k, isA k = true → wup σA o e0 (ar k) = none) (hfw : σC w = none) (hf : f 0 = v) : LJ g o w x ar M c v (wup σC w (eJ g.2.1 1 f)) := by
  have wo : w ≠ o := fun z => by rw [z, hM.1] at hfw; cases hfw
  have wk : ∀ k, isA k = true → w ≠ ar k := fun k h z => by
    have := hM.2.1 k h
    rw [← z, hfw] at this
    cases this
  have own : ∀ a, ownQ A c a → a ≠ o ∧ (∀ k, isA k = true → a ≠ ar k) ∧ a ≠ w ∧ σC a = σA a := fun a ⟨m, l, e⟩ => by
    have h1 : σA a ≠ none := by rw [e]; exact hCW.some hw l
    have n1 : a ≠ o := fun z => h1 (by rw [z]; exact ho)
    have n2 : ∀ k, isA k = true → a ≠ ar k := fun k h z => by
      have := hk k h
      rw [← z, wup_n n1] at this
      exact h1 this
    have e1 : σC a = σA a := by rw [hM.2.2 a n1 n2, wup_n n1]
    exact ⟨n1, n2, fun z => h1 (by rw [← e1, z]; exact hfw), e1⟩
  refine ⟨hR, ⟨by rw [wup_n wo.symm]; exact hM.1, fun k h => by rw [wup_n (wk k h).symm]; exact hM.2.1 k h, fun _ _ _ => rfl⟩, A, D, f, hx, ⟨hCW.eqv hw (fun m l => ?_), fun _ _ => rfl, hD⟩, hCI, hw, wup_s .., hf, fun a ha => ⟨(own a ha).1, (own a ha).2.2.1, (own a ha).2.1⟩, wo, wk⟩
  obtain ⟨-, -, n3, n4⟩ := own _ ⟨m, l, rfl⟩
  rw [wup_n n3, n4]
end LK
