/-! the class's world: names of its cells, and what they hold, of the table c (rows below 19) and of a night's state D (rows: 0 places, 1 running cues, 2 work) -/
section KW
/-- addresses by name (0 the object, 1-3 its lists, 4 5 its arrays, 6-8 the lists' rows, 10+i machines, 20+i their rows of cues, 30+q cues); the lists' entries, counts of changes, rooms; the cues of bars; the order by bars -/
abbrev ShT : Type := (Nat → Nat) × (Nat → Nat → Option Nat) × (Nat → Int) × (Nat → Nat) × (Nat → Int → Int) × (Nat → Nat)
def shA (A : ShT) : Nat → Nat := A.1
def shF (A : ShT) : Nat → Nat → Option Nat := A.2.1
def shM (A : ShT) : Nat → Int := A.2.2.1
def shC (A : ShT) : Nat → Nat := A.2.2.2.1
def shE (A : ShT) : Nat → Int → Int := A.2.2.2.2.1
def shO (A : ShT) : Nat → Nat := A.2.2.2.2.2
def rfQ (A : ShT) (q : Int) : Option Nat := if q = -1 then none else some (shA A (30 + q.toNat))
def tkQ (c : Tb) (i : Nat) : Int := if c 1 i = 0 then c 2 i else -1
def wdQ (c : Tb) (i : Nat) : Int := if c 1 i = 0 then c 3 i else 0
abbrev ctO (A : ShT) (c : Tb) : List Value := [.ref (shA A 1), .ref (shA A 2), .ref (shA A 3), .ref (shA A 4), .ref (shA A 5), iv (c 12 0), iv (c 13 0), iv (c 14 0), iv (c 15 0), iv (c 16 0)]
abbrev ctL (A : ShT) (j : Nat) (m : Int) : List Value := [iv (shM A j), .ref (shA A (6 + j)), iv m]
abbrev ctM (A : ShT) (c D : Tb) (i : Nat) : List Value := [iv (tkQ c i), iv (c 5 i), iv (wdQ c i), iv (c 4 i), .ref (shA A (20 + i)), iv (D 0 i), va_rf (rfQ A (D 1 i))]
abbrev ctC (A : ShT) (c D : Tb) (q : Nat) : List Value := [.ref (shA A (10 + (c 8 q).toNat)), iv (c 7 q), iv (c 9 q), iv (c 10 q), iv (c 11 q), iv (D 2 q)]
def nL3 (c : Tb) (j : Nat) : Int := if j = 0 then c 0 0 else c 6 0
def CW (κ : KG) (A : ShT) (c D : Tb) (σ : Wd) : Prop :=
  σ (shA A 0) = some (.inr (5, ctO A c)) ∧ (∀ j, j < 3 → σ (shA A (1 + j)) = some (.inr (2, ctL A j (nL3 c j)))) ∧
  σ (shA A 4) = some (eZ κ 6 (c 17)) ∧ σ (shA A 5) = some (eI κ 6 (c 18)) ∧
  (∀ j, j < 3 → 1 ≤ shC A j → σ (shA A (6 + j)) = some (eO κ (shC A j) (shF A j))) ∧
  (∀ i : Nat, (i : Int) < c 0 0 → σ (shA A (10 + i)) = some (.inr (4, ctM A c D i)) ∧ σ (shA A (20 + i)) = some (eC κ 30 (fun b => rfQ A (shE A i b)))) ∧
  ∀ q : Nat, (q : Int) < c 6 0 → σ (shA A (30 + q)) = some (.inr (3, ctC A c D q))
/-- the names in use -/
def LV (A : ShT) (c : Tb) (m : Nat) : Prop := m ≤ 5 ∨ (6 ≤ m ∧ m ≤ 8 ∧ 1 ≤ shC A (m - 6)) ∨ (10 ≤ m ∧ m < 20 ∧ (m : Int) < 10 + c 0 0) ∨ (20 ≤ m ∧ m < 30 ∧ (m : Int) < 20 + c 0 0) ∨ (30 ≤ m ∧ (m : Int) < 30 + c 6 0)
def ownQ (A : ShT) (c : Tb) (a : Nat) : Prop := ∃ m, LV A c m ∧ a = shA A m
/-- a running cue, or none -/
def runQ (c : Tb) (r : Int) : Prop := r = -1 ∨ ∃ q : Nat, r = q ∧ (q : Int) < c 6 0
def CB (κ : KG) (A : ShT) (β : Wd) (c D : Tb) (σ : Wd) : Prop := CW κ A c D σ ∧ (∀ a, ¬ ownQ A c a → σ a = β a) ∧ ∀ j : Nat, (j : Int) < c 0 0 → runQ c (D 1 j)
/-- a cue ahead of another in the order of bars -/
def ahQ (c : Tb) (q p : Nat) : Prop := c 7 q < c 7 p ∨ (c 7 q = c 7 p ∧ q < p)
def CI (g : Gx) (c : Tb) (A : ShT) : Prop :=
  (∀ m m', LV A c m → LV A c m' → shA A m = shA A m' → m = m') ∧
  (∀ i : Nat, (i : Int) < c 0 0 → shF A 0 i = some (shA A (10 + i))) ∧ (∀ q : Nat, (q : Int) < c 6 0 → shF A 1 q = some (shA A (30 + q))) ∧
  (∀ k : Nat, (k : Int) < c 6 0 → shF A 2 k = some (shA A (30 + shO A k)) ∧ (shO A k : Int) < c 6 0) ∧
  (∀ k l : Nat, k < l → (l : Int) < c 6 0 → ahQ c (shO A k) (shO A l)) ∧ (∀ q : Nat, (q : Int) < c 6 0 → ∃ k : Nat, (k : Int) < c 6 0 ∧ shO A k = q) ∧
  (∀ j, j < 3 → nL3 c j ≤ shC A j ∧ shC A j ≤ 60 ∧ (shC A j = 0 → shA A (6 + j) = g.2.2.1)) ∧
  (∀ i b : Nat, (i : Int) < c 0 0 → shE A i b = eff c i b)
section L
variable {g : Gx} {κ : KG} {A : ShT} {β : Wd} {c D : Tb} {σ σ' : Wd}
theorem CI.ne (hI : CI g c A) {m m' : Nat} (h : LV A c m) (h' : LV A c m') (hn : m ≠ m') : shA A m ≠ shA A m' := fun z => hn (hI.1 m m' h h' z)
theorem lvM {i : Nat} (hw : WF c) (h : (i : Int) < c 0 0) : LV A c (10 + i) ∧ LV A c (20 + i) := by
  obtain ⟨w0, -⟩ := hw
  unfold LV
  omega
theorem lvQ {q : Nat} (h : (q : Int) < c 6 0) : LV A c (30 + q) := by
  unfold LV
  omega
theorem lv0 {m : Nat} (h : m ≤ 5) : LV A c m := Or.inl h
/-- the lists -/
theorem CW.lst (h : CW g.2.1 A c D σ) (hw : WF c) (hI : CI g c A) {j : Nat} (hj : j < 3) {m : Nat} (hm : nL3 c j = m) : ALst g σ (shA A (1 + j)) (shM A j) (shA A (6 + j)) m (shC A j) (shF A j) := by
  obtain ⟨-, -, -, -, -, -, i7, -⟩ := hI
  have h7 := i7 j hj
  refine ⟨by rw [← hm]; exact h.2.1 j hj, ?_, by omega, h7.2.1⟩
  by_cases z : shC A j = 0
  · exact Or.inl ⟨z, h7.2.2 z⟩
  · exact Or.inr ⟨by omega, h.2.2.2.2.1 j hj (by omega)⟩
/-- a machine's write -/
theorem CB.mac (hw : WF c) (hI : CI g c A) (h : CB κ A β c D σ) {i : Nat} (hi : (i : Int) < c 0 0) {D' : Tb} (h1 : σ' (shA A (10 + i)) = some (.inr (4, ctM A c D' i))) (hD : ∀ j, j ≠ i → D' 0 j = D 0 j ∧ D' 1 j = D 1 j) (hD2 : ∀ j : Nat, (j : Int) < c 6 0 → D' 2 j = D 2 j) (h2 : ∀ q, q ≠ shA A (10 + i) → σ' q = σ q) (hR : runQ c (D' 1 i)) : CB κ A β c D' σ' := by
  obtain ⟨⟨a1, a2, a3, a4, a5, a6, a7⟩, b, rr⟩ := h
  have L := (lvM (A := A) hw hi).1
  refine ⟨⟨?_, fun j hj => ?_, ?_, ?_, fun j hj hc => ?_, fun j hj => ⟨?_, ?_⟩, fun q hq => ?_⟩, fun a ha => ?_, fun j hj => ?_⟩
  · rw [h2 _ (hI.ne (lv0 (by omega)) L (by omega))]; exact a1
  · rw [h2 _ (hI.ne (lv0 (by omega)) L (by omega))]; exact a2 j hj
  · rw [h2 _ (hI.ne (lv0 (by omega)) L (by omega))]; exact a3
  · rw [h2 _ (hI.ne (lv0 (by omega)) L (by omega))]; exact a4
  · rw [h2 _ (hI.ne (Or.inr (Or.inl ⟨by omega, by omega, by rw [Nat.add_sub_cancel_left]; exact hc⟩)) L (by omega))]; exact a5 j hj hc
  · by_cases q : j = i
    · subst q; exact h1
    · rw [h2 _ (hI.ne (lvM hw hj).1 L (by omega)), (a6 j hj).1]
      unfold ctM
      rw [(hD j q).1, (hD j q).2]
  · rw [h2 _ (hI.ne (lvM hw hj).2 L (by have := hw.1; omega))]; exact (a6 j hj).2
  · rw [h2 _ (hI.ne (lvQ hq) L (by have := hw.1; omega)), a7 q hq]
    unfold ctC
    rw [hD2 q hq]
  · rw [h2 a (fun z => ha ⟨_, L, z⟩)]; exact b a ha
  · by_cases z : j = i
    · rw [z]; exact hR
    · rw [(hD j z).2]; exact rr j hj
/-- a cue's write -/
theorem CB.cue (hw : WF c) (hI : CI g c A) (h : CB κ A β c D σ) {i : Nat} (hi : (i : Int) < c 6 0) {D' : Tb} (h1 : σ' (shA A (30 + i)) = some (.inr (3, ctC A c D' i))) (hD : ∀ j, j ≠ i → D' 2 j = D 2 j) (hD2 : ∀ j : Nat, (j : Int) < c 0 0 → D' 0 j = D 0 j ∧ D' 1 j = D 1 j) (h2 : ∀ q, q ≠ shA A (30 + i) → σ' q = σ q) : CB κ A β c D' σ' := by
  obtain ⟨⟨a1, a2, a3, a4, a5, a6, a7⟩, b, rr⟩ := h
  have L : LV A c (30 + i) := lvQ hi
  refine ⟨⟨?_, fun j hj => ?_, ?_, ?_, fun j hj hc => ?_, fun j hj => ⟨?_, ?_⟩, fun q hq => ?_⟩, fun a ha => ?_, fun j hj => ?_⟩
  · rw [h2 _ (hI.ne (lv0 (by omega)) L (by omega))]; exact a1
  · rw [h2 _ (hI.ne (lv0 (by omega)) L (by omega))]; exact a2 j hj
  · rw [h2 _ (hI.ne (lv0 (by omega)) L (by omega))]; exact a3
  · rw [h2 _ (hI.ne (lv0 (by omega)) L (by omega))]; exact a4
  · rw [h2 _ (hI.ne (Or.inr (Or.inl ⟨by omega, by omega, by rw [Nat.add_sub_cancel_left]; exact hc⟩)) L (by omega))]; exact a5 j hj hc
  · rw [h2 _ (hI.ne (lvM hw hj).1 L (by have := hw.1; omega)), (a6 j hj).1]
    unfold ctM
    rw [(hD2 j hj).1, (hD2 j hj).2]
  · rw [h2 _ (hI.ne (lvM hw hj).2 L (by have := hw.1; omega))]; exact (a6 j hj).2
  · by_cases z : q = i
    · subst z; exact h1
    · rw [h2 _ (hI.ne (lvQ hq) L (by omega)), a7 q hq]
      unfold ctC
      rw [hD q z]
  · rw [h2 a (fun z => ha ⟨_, L, z⟩)]; exact b a ha
  · rw [(hD2 j hj).2]; exact rr j hj
/-- a write into the object's own cells: the table becomes c' -/
theorem CB.own {c' : Tb} (hI : CI g c A) (h : CB κ A β c D σ) {m0 : Nat} (hm : m0 ≤ 5) (h0 : c' 0 0 = c 0 0) (h6 : c' 6 0 = c 6 0)
    (e0 : if m0 = 0 then σ' (shA A 0) = some (.inr (5, ctO A c')) else ctO A c' = ctO A c) (e4 : if m0 = 4 then σ' (shA A 4) = some (eZ κ 6 (c' 17)) else c' 17 = c 17) (e5 : if m0 = 5 then σ' (shA A 5) = some (eI κ 6 (c' 18)) else c' 18 = c 18) (e1 : m0 = 0 ∨ 4 ≤ m0)
    (eM : ∀ i, ctM A c' D i = ctM A c D i) (eQ : ∀ q, ctC A c' D q = ctC A c D q) (h2 : ∀ q, q ≠ shA A m0 → σ' q = σ q) (hw : WF c) : CB κ A β c' D σ' := by
  obtain ⟨⟨a1, a2, a3, a4, a5, a6, a7⟩, b, rr⟩ := h
  have L : LV A c m0 := lv0 hm
  have n3 : ∀ j, nL3 c' j = nL3 c j := fun j => by unfold nL3; rw [h0, h6]
  have lv : ∀ m, LV A c' m ↔ LV A c m := fun m => by unfold LV; rw [h0, h6]
  refine ⟨⟨?_, fun j hj => ?_, ?_, ?_, fun j hj hc => ?_, fun j hj => ⟨?_, ?_⟩, fun q hq => ?_⟩, fun a ha => ?_, fun j hj => ?_⟩
  · by_cases z : m0 = 0
    · rw [if_pos z] at e0; exact e0
    · rw [if_neg z] at e0; rw [e0, h2 _ (hI.ne (lv0 (by omega)) L (by omega))]; exact a1
  · rw [h2 _ (hI.ne (lv0 (by omega)) L (by omega)), n3]; exact a2 j hj
  · by_cases z : m0 = 4
    · rw [if_pos z] at e4; exact e4
    · rw [if_neg z] at e4; rw [e4, h2 _ (hI.ne (lv0 (by omega)) L (by omega))]; exact a3
  · by_cases z : m0 = 5
    · rw [if_pos z] at e5; exact e5
    · rw [if_neg z] at e5; rw [e5, h2 _ (hI.ne (lv0 (by omega)) L (by omega))]; exact a4
  · rw [h2 _ (hI.ne (Or.inr (Or.inl ⟨by omega, by omega, by rw [Nat.add_sub_cancel_left]; exact hc⟩)) L (by omega))]; exact a5 j hj hc
  · rw [h0] at hj
    rw [h2 _ (hI.ne (lvM hw hj).1 L (by omega)), eM]; exact (a6 j hj).1
  · rw [h0] at hj
    rw [h2 _ (hI.ne (lvM hw hj).2 L (by omega))]; exact (a6 j hj).2
  · rw [h6] at hq
    rw [h2 _ (hI.ne (lvQ hq) L (by omega)), eQ]; exact a7 q hq
  · have ha' : ¬ ownQ A c a := fun ⟨m, l1, l2⟩ => ha ⟨m, (lv m).mpr l1, l2⟩
    rw [h2 a (fun z => ha' ⟨_, L, z⟩)]; exact b a ha'
  · have := rr j (by rw [← h0]; exact hj)
    unfold runQ at this ⊢
    rw [h6]
    exact this
theorem CI.eq {c' : Tb} (hI : CI g c A) (h0 : c' 0 0 = c 0 0) (h6 : c' 6 0 = c 6 0) (h7 : c' 7 = c 7) (h8 : c' 8 = c 8) (h11 : c' 11 = c 11) : CI g c' A := by
  have n3 : ∀ j, nL3 c' j = nL3 c j := fun j => by unfold nL3; rw [h0, h6]
  have lv : ∀ m, LV A c' m ↔ LV A c m := fun m => by unfold LV; rw [h0, h6]
  have ea : ∀ q p, ahQ c' q p ↔ ahQ c q p := fun q p => by unfold ahQ; rw [h7]
  have ee : ∀ (i b : Int) (q : Nat), effN c' i b q = effN c i b q := fun i b q => by
    induction q with
    | zero => rfl
    | succ q ih => unfold effN; rw [ih, h7, h8, h11]
  obtain ⟨i1, i2, i3, i4, i5, i6, i7, i8⟩ := hI
  refine ⟨fun m m' l l' => i1 m m' ((lv m).mp l) ((lv m').mp l'), ?_, ?_, ?_, fun k l hk hl => (ea _ _).mpr (i5 k l hk (by rw [← h6]; exact hl)), ?_, fun j hj => by rw [n3]; exact i7 j hj, fun i b hi => ?_⟩
  · rw [h0]; exact i2
  · rw [h6]; exact i3
  · rw [h6]; exact i4
  · rw [h6]; exact i6
  · rw [i8 i b (by rw [← h0]; exact hi)]
    unfold eff
    rw [h6, ee]
end L
end KW
