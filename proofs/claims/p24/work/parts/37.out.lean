section KR
/-- the shape with other cues of bars -/
def shS (A : ShT) (e : Nat → Int → Int) : ShT := (A.1, A.2.1, A.2.2.1, A.2.2.2.1, e, A.2.2.2.2.2)
theorem WF_out {c : Tb} (hw : WF c) {q : Nat} (hq : (q : Int) < c 6 0) : WF (tu c 11 q 1) := by
  obtain ⟨h0, h6, h12, h13, h14, h15, h16, hm, hq', hww⟩ := hw
  refine ⟨h0, h6, h12, h13, h14, h15, h16, hm, fun p => ?_, hww⟩
  have h := hq' p
  by_cases z : p = q
  · subst z
    refine ⟨h.1, fun a b => ?_, h.2.2.1, h.2.2.2.1, h.2.2.2.2.1, h.2.2.2.2.2.1, h.2.2.2.2.2.2.1, Or.inr (tu_s ..), fun y => ?_⟩
    · rw [tu_s] at b
      omega
    · have y2 : c 6 0 ≤ p := y
      omega
  · have e : tu c 11 q 1 11 p = c 11 p := tu_j z
    refine ⟨h.1, fun a b => h.2.1 a (by rw [e] at b; exact b), h.2.2.1, h.2.2.2.1, h.2.2.2.2.1, h.2.2.2.2.2.1, h.2.2.2.2.2.2.1, by rw [e]; exact h.2.2.2.2.2.2.2.1, fun y => by rw [e]; exact h.2.2.2.2.2.2.2.2 y⟩
section L
variable {g : Gx} {κ : KG} {A : ShT} {β : Wd} {c D : Tb} {σ σ' : Wd}
theorem CB.out (hw : WF c) (hI : CI g c A) (h : CB κ A β c D σ) {i : Nat} (hi : (i : Int) < c 6 0) (h1 : σ' (shA A (30 + i)) = some (.inr (3, ctC A (tu c 11 i 1) D i))) (h2 : ∀ q, q ≠ shA A (30 + i) → σ' q = σ q) : CB κ A β (tu c 11 i 1) D σ' := by
  obtain ⟨⟨a1, a2, a3, a4, a5, a6, a7⟩, b, rr⟩ := h
  have L : LV A c (30 + i) := lvQ hi
  refine ⟨⟨?_, fun j hj => ?_, ?_, ?_, fun j hj hc => ?_, fun j hj => ⟨?_, ?_⟩, fun q hq => ?_⟩, fun a ha => ?_, rr⟩
  · rw [h2 _ (hI.ne (lv0 (by omega)) L (by omega))]; exact a1
  · rw [h2 _ (hI.ne (lv0 (by omega)) L (by omega))]; exact a2 j hj
  · rw [h2 _ (hI.ne (lv0 (by omega)) L (by omega)), tu_rowN (by decide)]; exact a3
  · rw [h2 _ (hI.ne (lv0 (by omega)) L (by omega)), tu_rowN (by decide)]; exact a4
  · rw [h2 _ (hI.ne (Or.inr (Or.inl ⟨by omega, by omega, by rw [Nat.add_sub_cancel_left]; exact hc⟩)) L (by omega))]; exact a5 j hj hc
  · have hj' : (j : Int) < c 0 0 := hj
    rw [h2 _ (hI.ne (lvM hw hj').1 L (by have := hw.1; omega))]; exact (a6 j hj').1
  · have hj' : (j : Int) < c 0 0 := hj
    rw [h2 _ (hI.ne (lvM hw hj').2 L (by have := hw.1; omega))]; exact (a6 j hj').2
  · have hq' : (q : Int) < c 6 0 := hq
    by_cases z : q = i
    · subst z; exact h1
    · rw [h2 _ (hI.ne (lvQ hq') L (by omega)), a7 q hq']
      unfold ctC
      rw [tu_j (k := 11) (a := 11) z]
      rfl
  · have ha' : ¬ ownQ A c a := fun ⟨m, l1, l2⟩ => ha ⟨m, l1, l2⟩
    rw [h2 a (fun z => ha' ⟨_, L, z⟩)]; exact b a ha'
theorem CB.rows (hw : WF c) (hinj : ∀ m m', LV A c m → LV A c m' → shA A m = shA A m' → m = m') (h : CB κ A β c D σ) {i : Nat} (hi : (i : Int) < c 0 0) {e : Nat → Int → Int} (h1 : σ' (shA A (20 + i)) = some (eC κ 30 (fun b => rfQ A (e i b)))) (he : ∀ j, j ≠ i → e j = shE A j) (h2 : ∀ q, q ≠ shA A (20 + i) → σ' q = σ q) : CB κ (shS A e) β c D σ' := by
  obtain ⟨⟨a1, a2, a3, a4, a5, a6, a7⟩, b, rr⟩ := h
  have L := (lvM (A := A) hw hi).2
  have ne : ∀ {m : Nat}, LV A c m → m ≠ 20 + i → shA A m ≠ shA A (20 + i) := fun l hn z => hn (hinj _ _ l L z)
  refine ⟨⟨?_, fun j hj => ?_, ?_, ?_, fun j hj hc => ?_, fun j hj => ⟨?_, ?_⟩, fun q hq => ?_⟩, fun a ha => ?_, rr⟩
  · exact (h2 _ (ne (lv0 (by omega)) (by omega))).trans a1
  · exact (h2 _ (ne (lv0 (by omega)) (by omega))).trans (a2 j hj)
  · exact (h2 _ (ne (lv0 (by omega)) (by omega))).trans a3
  · exact (h2 _ (ne (lv0 (by omega)) (by omega))).trans a4
  · exact (h2 _ (ne (Or.inr (Or.inl ⟨by omega, by omega, by rw [Nat.add_sub_cancel_left]; exact hc⟩)) (by omega))).trans (a5 j hj hc)
  · exact (h2 _ (ne (lvM hw hj).1 (by have := hw.1; omega))).trans (a6 j hj).1
  · by_cases z : j = i
    · subst z
      exact h1
    · refine (h2 _ (ne (lvM hw hj).2 (by omega))).trans ((a6 j hj).2.trans ?_)
      show some (eC κ 30 (fun b => rfQ A (shE A j b))) = some (eC κ 30 (fun b => rfQ A (e j b)))
      rw [he j z]
  · exact (h2 _ (ne (lvQ hq) (by have := hw.1; omega))).trans (a7 q hq)
  · rw [h2 a (fun z => ha ⟨_, L, z⟩)]; exact b a ha
end L
theorem eff_out {c : Tb} {q : Nat} {i b : Int} (h : ¬ (c 8 q = i ∧ c 7 q = b)) : ∀ n : Nat, effN (tu c 11 q 1) i b n = effN c i b n
  | 0 => rfl
  | n + 1 => by
    show (if tu c 11 q 1 11 n = 0 ∧ c 8 n = i ∧ c 7 n = b then (n : Int) else effN (tu c 11 q 1) i b n) = if c 11 n = 0 ∧ c 8 n = i ∧ c 7 n = b then (n : Int) else effN c i b n
    rw [eff_out h n]
    by_cases z : n = q
    · subst z
      rw [if_neg (fun y => h y.2), if_neg (fun y => h y.2)]
    · rw [tu_j z]
end KR
