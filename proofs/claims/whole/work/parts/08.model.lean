/-! the reference's object: a table of whole numbers, row k the field k (a number: place 0) -/
section RM
abbrev Tb : Type := Nat → Nat → Int
def tu (M : Tb) (k j : Nat) (x : Int) : Tb := fun a b => if a = k ∧ b = j then x else M a b
theorem tu_s (M : Tb) (k j : Nat) (x : Int) : tu M k j x k j = x := if_pos ⟨rfl, rfl⟩
theorem tu_k {M : Tb} {k j a b : Nat} {x : Int} (h : a ≠ k) : tu M k j x a b = M a b := if_neg (fun q => h q.1)
theorem tu_j {M : Tb} {k j a b : Nat} {x : Int} (h : b ≠ j) : tu M k j x a b = M a b := if_neg (fun q => h q.2)
theorem tu_row (M : Tb) (k j : Nat) (x : Int) : tu M k j x k = upI (M k) j x := by
  funext b
  unfold tu upI
  by_cases h : b = j
  · rw [if_pos ⟨rfl, h⟩, if_pos h]
  · rw [if_neg (fun q => h q.2), if_neg h]
theorem tu_rowN {M : Tb} {k j a : Nat} {x : Int} (h : a ≠ k) : tu M k j x a = M a := by
  funext b
  exact tu_k h
/-- the rows below 19: what a caller has built; from 19 on: what a night's play leaves -/
def cut (M : Tb) : Tb := fun k j => if k < 19 then M k j else 0
theorem cut_at {M c : Tb} (h : cut M = c) {k : Nat} (hk : k < 19) (j : Nat) : M k j = c k j := by
  rw [← h]
  exact (if_pos hk).symm
theorem cut_tu {M : Tb} {k j : Nat} {x : Int} (hk : 19 ≤ k) : cut (tu M k j x) = cut M := by
  funext a b
  unfold cut
  split
  · exact tu_k (by omega)
  · rfl
theorem cut_tuc {M : Tb} {k j : Nat} {x : Int} (hk : k < 19) : cut (tu M k j x) = tu (cut M) k j x := by
  funext a b
  unfold cut tu
  by_cases h : a = k ∧ b = j
  · rw [if_pos h, if_pos h]
    simp only [h.1, hk, if_true]
  · rw [if_neg h, if_neg h]
theorem cut_cut (M : Tb) : cut (cut M) = cut M := by
  funext a b
  unfold cut
  split <;> rfl
def isA (k : Nat) : Bool := match k with
  | 0 | 6 | 12 | 13 | 14 | 15 | 16 | 24 | 25 | 26 => false
  | _ => Nat.blt k 27
def isZ (k : Nat) : Bool := match k with
  | 1 | 11 | 17 => true
  | _ => false
def aLen (k : Nat) : Nat := match k with
  | 7 | 8 | 9 | 10 | 11 | 22 | 23 => 24
  | _ => 6
def rfs (ar : Nat → Nat) (M : Tb) : List Value := [iv (M 0 0), .ref (ar 1), .ref (ar 2), .ref (ar 3), .ref (ar 4), .ref (ar 5), iv (M 6 0), .ref (ar 7), .ref (ar 8), .ref (ar 9), .ref (ar 10), .ref (ar 11), iv (M 12 0), iv (M 13 0), iv (M 14 0), iv (M 15 0), iv (M 16 0), .ref (ar 17), .ref (ar 18), .ref (ar 19), .ref (ar 20), .ref (ar 21), .ref (ar 22), .ref (ar 23), iv (M 24 0), iv (M 25 0), iv (M 26 0)]
def aEnt (κ : KG) (k : Nat) (f : Nat → Int) : va_E := if isZ k = true then eZ κ (aLen k) f else eI κ (aLen k) f
/-- its world: the object at o, its rows at ar k; all else as in β -/
def MW (κ : KG) (o : Nat) (ar : Nat → Nat) (β : Wd) (M : Tb) (σ : Wd) : Prop :=
  σ o = some (.inr (6, rfs ar M)) ∧ (∀ k, isA k = true → σ (ar k) = some (aEnt κ k (M k))) ∧ (∀ a, a ≠ o → (∀ k, isA k = true → a ≠ ar k) → σ a = β a)
def RI (o : Nat) (ar : Nat → Nat) : Prop := (∀ k, isA k = true → ar k ≠ o) ∧ ∀ k j, isA k = true → isA j = true → ar k = ar j → k = j
theorem MW.put {κ : KG} {o : Nat} {ar : Nat → Nat} {β : Wd} {M M' : Tb} {σ : Wd} {fs : List Value} (I : RI o ar) (h : MW κ o ar β M σ) (hf : fs = rfs ar M') (hM : ∀ k, isA k = true → M' k = M k) : MW κ o ar β M' (wup σ o (.inr (6, fs))) := by
  subst hf
  refine ⟨wup_s .., fun k hk => ?_, fun a h1 h2 => ?_⟩
  · rw [wup_n (I.1 k hk), hM k hk]
    exact h.2.1 k hk
  · rw [wup_n h1]
    exact h.2.2 a h1 h2
theorem MW.row {κ : KG} {o : Nat} {ar : Nat → Nat} {β : Wd} {M M' : Tb} {σ : Wd} {e : va_E} {k : Nat} (I : RI o ar) (hk : isA k = true) (h : MW κ o ar β M σ) (he : e = aEnt κ k (M' k)) (hM : ∀ j, j ≠ k → M' j = M j) : MW κ o ar β M' (wup σ (ar k) e) := by
  subst he
  have hne : o ≠ ar k := fun q => I.1 k hk q.symm
  have hf : rfs ar M' = rfs ar M := by
    unfold rfs
    have z : ∀ j, isA j = false → M' j = M j := fun j hj => hM j (fun q => by rw [q, hk] at hj; cases hj)
    rw [z 0 rfl, z 6 rfl, z 12 rfl, z 13 rfl, z 14 rfl, z 15 rfl, z 16 rfl, z 24 rfl, z 25 rfl, z 26 rfl]
  refine ⟨by rw [wup_n hne, hf]; exact h.1, fun j hj => ?_, fun a h1 h2 => ?_⟩
  · by_cases q : j = k
    · subst q
      exact wup_s ..
    · rw [wup_n (fun z => q (I.2 j k hj hk z)), hM j q]
      exact h.2.1 j hj
  · rw [wup_n (h2 k hk)]
    exact h.2.2 a h1 h2
theorem in3 : fG "OperaMachinesModel" TX3 27 := by
  unfold fG
  decide +kernel
section Rows
variable {g : Gx} {Φ : Fx} {cc : ByteArray} {own : String} {ret : Option FieldType} {d mc ms k n : Nat} {σ β : Wd} {pc : Nat} {lv lv' : List (Nat × Value)} {st : List Value} {o : Nat} {ar : Nat → Nat} {M : Tb}
theorem r_get (C : Ok g Φ cc own ret d mc ms) (hM : MW g.2.1 o ar β M σ) {idx : Nat} {v : Value} (j : Nat) (hj : j < 27) (hw : Cond.fieldLink own idx "OperaMachinesModel" (TX3 j).2.1 (TX3 j).2.2.1 ∈ GT) (hs : (TX3 j).1 = "OperaMachinesModel") (hv : (rfs ar M)[j]? = some v) (hd : decode cc pc = .ok (.getfield idx, 3)) (K : N Φ k n σ (pc + 3) lv (v :: st)) : N Φ k n σ pc lv (.ref o :: st) :=
  n_get C hM.1 (show vwCl[6]? = some ("OperaMachinesModel", TX3, 27) from rfl) in3 j hj hw hs hv hd K
theorem r_put (C : Ok g Φ cc own ret d mc ms) (I : RI o ar) (hM : MW g.2.1 o ar β M σ) {idx : Nat} {x : Int} (j : Nat) (hj : j < 27) (hA : isA j = false) (hw : Cond.fieldLink own idx "OperaMachinesModel" (TX3 j).2.1 (TX3 j).2.2.1 ∈ GT) (hs : (TX3 j).1 = "OperaMachinesModel") (hfin : (TX3 j).2.2.2 = false) (hty : tyX3 j = .int) (hf : (rfs ar M).set j (iv x) = rfs ar (tu M j 0 x)) (hd : decode cc pc = .ok (.putfield idx, 3)) (K : ∀ σ', MW g.2.1 o ar β (tu M j 0 x) σ' → N Φ k n σ' (pc + 3) lv st) : N Φ k n σ pc lv (iv x :: .ref o :: st) :=
  n_put C hM.1 (show vwCl[6]? = some ("OperaMachinesModel", TX3, 27) from rfl) in3 tyX3 tyX3_ok nmX3 j hj hw hs hfin (by rw [hty]; rfl) (by rw [hty]; rfl) hj hd (K _ (hM.put I hf (fun a ha => tu_rowN (fun q => by rw [q, hA] at ha; cases ha))))
theorem aEnt_I {κ : KG} {a : Nat} {f : Nat → Int} (h : isZ a = false) : aEnt κ a f = eI κ (aLen a) f := by
  unfold aEnt
  rw [h]
  rfl
theorem aEnt_Z {κ : KG} {a : Nat} {f : Nat → Int} (h : isZ a = true) : aEnt κ a f = eZ κ (aLen a) f := if_pos h
theorem aLen_lt (a : Nat) : aLen a < 2147483648 := by
  unfold aLen
  split <;> decide
theorem r_iald (C : Ok g Φ cc own ret d mc ms) (hM : MW g.2.1 o ar β M σ) (a : Nat) (hA : isA a = true) (hZ : isZ a = false) (j : Nat) {x : Int} (hj : x = (j : Int)) (hl : j < aLen a) (hd : decode cc pc = .ok (.iaload, 1)) (K : N Φ k n σ (pc + 1) lv (iv (M a j) :: st)) : N Φ k n σ pc lv (iv x :: .ref (ar a) :: st) := by
  subst hj
  have h := hM.2.1 a hA
  rw [aEnt_I hZ] at h
  exact n_iald C h (by omega) (by omega) (aLen_lt a) hd K
theorem r_zald (C : Ok g Φ cc own ret d mc ms) (hM : MW g.2.1 o ar β M σ) (a : Nat) (hA : isA a = true) (hZ : isZ a = true) (j : Nat) {x : Int} (hj : x = (j : Int)) (hl : j < aLen a) (hd : decode cc pc = .ok (.baload, 1)) (K : N Φ k n σ (pc + 1) lv (iv (M a j) :: st)) : N Φ k n σ pc lv (iv x :: .ref (ar a) :: st) := by
  subst hj
  have h := hM.2.1 a hA
  rw [aEnt_Z hZ] at h
  exact n_zald C h (by omega) (by omega) (aLen_lt a) hd K
theorem r_iast (C : Ok g Φ cc own ret d mc ms) (I : RI o ar) (hM : MW g.2.1 o ar β M σ) (a : Nat) (hA : isA a = true) (hZ : isZ a = false) (j : Nat) {x y : Int} (hj : x = (j : Int)) (hl : j < aLen a) (hd : decode cc pc = .ok (.iastore, 1)) (K : ∀ σ', MW g.2.1 o ar β (tu M a j y) σ' → N Φ k n σ' (pc + 1) lv st) : N Φ k n σ pc lv (iv y :: iv x :: .ref (ar a) :: st) := by
  subst hj
  have h := hM.2.1 a hA
  rw [aEnt_I hZ] at h
  refine n_iast C h (by omega) (by omega) (aLen_lt a) hd (K _ (hM.row I hA ?_ (fun b hb => tu_rowN hb)))
  rw [aEnt_I hZ, tu_row, Int.toNat_natCast]
theorem r_zast (C : Ok g Φ cc own ret d mc ms) (I : RI o ar) (hM : MW g.2.1 o ar β M σ) (a : Nat) (hA : isA a = true) (hZ : isZ a = true) (j : Nat) {x y : Int} (hj : x = (j : Int)) (hl : j < aLen a) (hy : y = 0 ∨ y = 1) (hd : decode cc pc = .ok (.bastore, 1)) (K : ∀ σ', MW g.2.1 o ar β (tu M a j y) σ' → N Φ k n σ' (pc + 1) lv st) : N Φ k n σ pc lv (iv y :: iv x :: .ref (ar a) :: st) := by
  subst hj
  have h := hM.2.1 a hA
  rw [aEnt_Z hZ] at h
  refine n_zast C h (by omega) (by omega) (aLen_lt a) hy hd (K _ (hM.row I hA ?_ (fun b hb => tu_rowN hb)))
  rw [aEnt_Z hZ, tu_row, Int.toNat_natCast]
theorem r_getc {c : Tb} (C : Ok g Φ cc own ret d mc ms) (hM : MW g.2.1 o ar β M σ) (hc : cut M = c) {idx : Nat} (j : Nat) (hj : j < 19) (hw : Cond.fieldLink own idx "OperaMachinesModel" (TX3 j).2.1 (TX3 j).2.2.1 ∈ GT) (hs : (TX3 j).1 = "OperaMachinesModel") (hv : (rfs ar M)[j]? = some (iv (M j 0))) (hd : decode cc pc = .ok (.getfield idx, 3)) (K : N Φ k n σ (pc + 3) lv (iv (c j 0) :: st)) : N Φ k n σ pc lv (.ref o :: st) := by
  rw [cut_at hc hj] at hv
  exact r_get C hM j (by omega) hw hs hv hd K
theorem r_ialdc {c : Tb} (C : Ok g Φ cc own ret d mc ms) (hM : MW g.2.1 o ar β M σ) (hc : cut M = c) (a : Nat) (ha : a < 19) (hA : isA a = true) (hZ : isZ a = false) (j : Nat) {x : Int} (hj : x = (j : Int)) (hl : j < aLen a) (hd : decode cc pc = .ok (.iaload, 1)) (K : N Φ k n σ (pc + 1) lv (iv (c a j) :: st)) : N Φ k n σ pc lv (iv x :: .ref (ar a) :: st) := by
  rw [← cut_at hc ha] at K
  exact r_iald C hM a hA hZ j hj hl hd K
theorem r_zaldc {c : Tb} (C : Ok g Φ cc own ret d mc ms) (hM : MW g.2.1 o ar β M σ) (hc : cut M = c) (a : Nat) (ha : a < 19) (hA : isA a = true) (hZ : isZ a = true) (j : Nat) {x : Int} (hj : x = (j : Int)) (hl : j < aLen a) (hd : decode cc pc = .ok (.baload, 1)) (K : N Φ k n σ (pc + 1) lv (iv (c a j) :: st)) : N Φ k n σ pc lv (iv x :: .ref (ar a) :: st) := by
  rw [← cut_at hc ha] at K
  exact r_zald C hM a hA hZ j hj hl hd K
end Rows
end RM
