section KM
theorem effN_eq {c c' : Tb} (h7 : c' 7 = c 7) (h8 : c' 8 = c 8) (h11 : c' 11 = c 11) (i b : Int) : ∀ q : Nat, effN c' i b q = effN c i b q
  | 0 => rfl
  | q + 1 => by
    unfold effN
    rw [effN_eq h7 h8 h11 i b q, h7, h8, h11]
theorem effN_new {c : Tb} (hw : WF c) {n : Nat} (hn : c 0 0 = n) (b : Int) : ∀ q : Nat, (q : Int) ≤ c 6 0 → effN c n b q = -1
  | 0, _ => rfl
  | q + 1, h => by
    have w8 := (hw.2.2.2.2.2.2.2.2.1 q).2.2.2.1 (by omega)
    unfold effN
    rw [if_neg (fun z => by omega)]
    exact effN_new hw hn b q (by omega)
section L
variable {g : Gx} {κ : KG} {A : ShT} {β : Wd} {c c' D : Tb} {σ σ' : Wd}
/-- what is in use holds something -/
theorem CW.some (h : CW κ A c D σ) {m : Nat} (hw : WF c) (hl : LV A c m) : σ (shA A m) ≠ none := by
  obtain ⟨a1, a2, a3, a4, a5, a6, a7⟩ := h
  have hw0 := hw.1
  rcases hl with z | z | z | z | z
  · have : m = 0 ∨ m = 1 ∨ m = 2 ∨ m = 3 ∨ m = 4 ∨ m = 5 := by omega
    rcases this with rfl | rfl | rfl | rfl | rfl | rfl
    · rw [a1]; exact fun q => by cases q
    · rw [a2 0 (by decide)]; exact fun q => by cases q
    · rw [a2 1 (by decide)]; exact fun q => by cases q
    · rw [a2 2 (by decide)]; exact fun q => by cases q
    · rw [a3]; exact fun q => by cases q
    · rw [a4]; exact fun q => by cases q
  · obtain ⟨j, rfl⟩ : ∃ j, m = 6 + j := ⟨m - 6, by omega⟩
    rw [a5 j (by omega) (by have := z.2.2; rw [Nat.add_sub_cancel_left] at this; exact this)]; exact fun q => by cases q
  · obtain ⟨j, rfl⟩ : ∃ j, m = 10 + j := ⟨m - 10, by omega⟩
    rw [(a6 j (by omega)).1]; exact fun q => by cases q
  · obtain ⟨j, rfl⟩ : ∃ j, m = 20 + j := ⟨m - 20, by omega⟩
    rw [(a6 j (by omega)).2]; exact fun q => by cases q
  · obtain ⟨j, rfl⟩ : ∃ j, m = 30 + j := ⟨m - 30, by omega⟩
    rw [a7 j (by omega)]; exact fun q => by cases q
/-- from one table and world to the next: the names' new world, and all else as before -/
def GW (κ : KG) (A : ShT) (c : Tb) (σ : Wd) (A' : ShT) (c' D' : Tb) (σ' : Wd) : Prop := CW κ A' c' D' σ' ∧ shA A' 0 = shA A 0 ∧ (∀ a, ¬ ownQ A c a → σ a ≠ none → ¬ ownQ A' c' a ∧ σ' a = σ a) ∧ ∀ j : Nat, (j : Int) < c' 0 0 → runQ c' (D' 1 j)
def shN (A : ShT) (n y z row mo' : Nat) (mo : Int) (f : Nat → Option Nat) : ShT := (fun m => if m = 10 + n then y else if m = 20 + n then z else if m = 6 then row else shA A m, fun j => if j = 0 then f else shF A j, fun j => if j = 0 then mo else shM A j, fun j => if j = 0 then mo' else shC A j, fun i b => if i = n then -1 else shE A i b, shO A)
theorem CB.newM {n y z row cap : Nat} {mo : Int} {f : Nat → Option Nat} (hw : WF c) (hI : CI g c A) (h : CW g.2.1 A c D σ) (hD : ∀ j : Nat, (j : Int) < c 0 0 → runQ c (D 1 j)) (hn : c 0 0 = n) (hn6 : n < 6) (e0 : c' 0 0 = (n + 1 : Nat)) (e6 : c' 6 0 = c 6 0) (eOO : ctO A c' = ctO A c) (e17 : c' 17 = c 17) (e18 : c' 18 = c 18) (eM : ∀ j : Nat, j < n → tkQ c' j = tkQ c j ∧ c' 5 j = c 5 j ∧ wdQ c' j = wdQ c j ∧ c' 4 j = c 4 j) (e7 : c' 7 = c 7) (e8 : c' 8 = c 8) (e9 : c' 9 = c 9) (e10 : c' 10 = c 10) (e11 : c' 11 = c 11)
    (hy : σ' y = some (.inr (4, [iv (tkQ c' n), iv (c' 5 n), iv (wdQ c' n), iv (c' 4 n), .ref z, iv 0, .null]))) (hz : σ' z = some (eC g.2.1 30 (fun _ => none))) (hL : ALst g σ' (shA A 1) mo row (n + 1) cap f) (hf : ∀ j, j < n → f j = shF A 0 j) (hfn : f n = some y)
    (ho : ∀ a, a ≠ y → a ≠ z → a ≠ row → a ≠ shA A 1 → σ' a = σ a) (f1 : σ y = none) (f2 : σ z = none) (f3 : y ≠ z) (f4 : (row = shA A 6 ∧ cap = shC A 0 ∧ 1 ≤ shC A 0) ∨ (σ row = none ∧ row ≠ y ∧ row ≠ z)) (hcap : 1 ≤ cap) :
    GW g.2.1 A c σ (shN A n y z row cap mo f) c' (tu (tu D 0 n 0) 1 n (-1)) σ' ∧ CI g c' (shN A n y z row cap mo f) := by
  have hw0 := hw.1
  have hsm := fun {m : Nat} (hl : LV A c m) => h.some hw hl
  have l6 : 1 ≤ shC A 0 → LV A c 6 := fun q => Or.inr (Or.inl ⟨by omega, by omega, q⟩)
  -- what a name in use stands for
  have K : ∀ m, LV (shN A n y z row cap mo f) c' m → (m = 10 + n ∧ shA (shN A n y z row cap mo f) m = y) ∨ (m = 20 + n ∧ shA (shN A n y z row cap mo f) m = z) ∨ (m = 6 ∧ shA (shN A n y z row cap mo f) m = row) ∨ (m ≠ 10 + n ∧ m ≠ 20 + n ∧ m ≠ 6 ∧ LV A c m ∧ shA (shN A n y z row cap mo f) m = shA A m) := by
    intro m hl
    have ea : shA (shN A n y z row cap mo f) m = if m = 10 + n then y else if m = 20 + n then z else if m = 6 then row else shA A m := rfl
    by_cases z1 : m = 10 + n
    · exact Or.inl ⟨z1, by rw [ea, if_pos z1]⟩
    · by_cases z2 : m = 20 + n
      · exact Or.inr (Or.inl ⟨z2, by rw [ea, if_neg z1, if_pos z2]⟩)
      · by_cases z3 : m = 6
        · exact Or.inr (Or.inr (Or.inl ⟨z3, by rw [ea, if_neg z1, if_neg z2, if_pos z3]⟩))
        · refine Or.inr (Or.inr (Or.inr ⟨z1, z2, z3, ?_, by rw [ea, if_neg z1, if_neg z2, if_neg z3]⟩))
          rcases hl with q | q | q | q | q
          · exact Or.inl q
          · refine Or.inr (Or.inl ⟨q.1, q.2.1, ?_⟩)
            have q3 : 1 ≤ (if m - 6 = 0 then cap else shC A (m - 6)) := q.2.2
            rw [if_neg (by omega)] at q3
            exact q3
          · exact Or.inr (Or.inr (Or.inl ⟨q.1, q.2.1, by omega⟩))
          · exact Or.inr (Or.inr (Or.inr (Or.inl ⟨q.1, q.2.1, by omega⟩)))
          · exact Or.inr (Or.inr (Or.inr (Or.inr ⟨q.1, by omega⟩)))
  have ny : ∀ {m}, LV A c m → shA A m ≠ y := fun hl q => hsm hl (by rw [q]; exact f1)
  have nz : ∀ {m}, LV A c m → shA A m ≠ z := fun hl q => hsm hl (by rw [q]; exact f2)
  have nr : ∀ {m}, LV A c m → m ≠ 6 → shA A m ≠ row := fun {m} hl hm q => by
    rcases f4 with ⟨t1, t2, t3⟩ | ⟨t1, t2, t3⟩
    · exact hm (hI.1 _ _ hl (l6 t3) (q.trans t1))
    · exact hsm hl (by rw [q]; exact t1)
  have ry : row ≠ y := by
    rcases f4 with ⟨t1, t2, t3⟩ | ⟨t1, t2, t3⟩
    · rw [t1]; exact ny (l6 t3)
    · exact t2
  have rz : row ≠ z := by
    rcases f4 with ⟨t1, t2, t3⟩ | ⟨t1, t2, t3⟩
    · rw [t1]; exact nz (l6 t3)
    · exact t3
  have inj : ∀ m m', LV (shN A n y z row cap mo f) c' m → LV (shN A n y z row cap mo f) c' m' → shA (shN A n y z row cap mo f) m = shA (shN A n y z row cap mo f) m' → m = m' := by
    intro m m' l l' e
    rcases K m l with ⟨a1, a2⟩ | ⟨a1, a2⟩ | ⟨a1, a2⟩ | ⟨a1, a2, a3, a4, a5⟩
    all_goals rcases K m' l' with ⟨b1, b2⟩ | ⟨b1, b2⟩ | ⟨b1, b2⟩ | ⟨b1, b2, b3, b4, b5⟩
    all_goals (first | rw [a2, b2] at e | rw [a2, b5] at e | rw [a5, b2] at e | rw [a5, b5] at e)
    · omega
    · exact absurd e f3
    · exact absurd e.symm ry
    · exact absurd e.symm (ny b4)
    · exact absurd e.symm f3
    · omega
    · exact absurd e.symm rz
    · exact absurd e.symm (nz b4)
    · exact absurd e ry
    · exact absurd e rz
    · omega
    · exact absurd e.symm (nr b4 b3)
    · exact absurd e (ny a4)
    · exact absurd e (nz a4)
    · exact absurd e (nr a4 a3)
    · exact hI.1 _ _ a4 b4 e
  have keep : ∀ {m}, LV A c m → m ≠ 6 → m ≠ 1 → σ' (shA A m) = σ (shA A m) := fun {m} hl h6 h1 => ho _ (ny hl) (nz hl) (nr hl h6) (hI.ne hl (lv0 (by decide)) h1)
  have eSm : ∀ m, m ≠ 10 + n → m ≠ 20 + n → m ≠ 6 → shA (shN A n y z row cap mo f) m = shA A m := fun m q1 q2 q3 => by
    show (if m = 10 + n then y else if m = 20 + n then z else if m = 6 then row else shA A m) = shA A m
    rw [if_neg q1, if_neg q2, if_neg q3]
  have eQ : ∀ q : Nat, shA (shN A n y z row cap mo f) (30 + q) = shA A (30 + q) := fun q => eSm _ (by omega) (by omega) (by omega)
  have eR : ∀ r : Int, rfQ (shN A n y z row cap mo f) r = rfQ A r := fun r => by
    unfold rfQ
    split
    · rfl
    · rw [eQ]
  have e10a : shA (shN A n y z row cap mo f) (10 + n) = y := if_pos rfl
  have e20a : shA (shN A n y z row cap mo f) (20 + n) = z := by
    show (if 20 + n = 10 + n then y else if 20 + n = 20 + n then z else _) = z
    rw [if_neg (by omega), if_pos rfl]
  have e6a : shA (shN A n y z row cap mo f) 6 = row := by
    show (if 6 = 10 + n then y else if 6 = 20 + n then z else if 6 = 6 then row else _) = row
    rw [if_neg (by omega), if_neg (by omega), if_pos rfl]
  refine ⟨⟨⟨?_, fun j hj => ?_, ?_, ?_, fun j hj hc => ?_, fun j hj => ?_, fun q hq => ?_⟩, eSm 0 (by omega) (by omega) (by omega), fun a ha hs => ⟨fun ⟨m, l, e⟩ => ?_, ?_⟩, fun j hj => ?_⟩, inj, fun i hi => ?_, fun q hq => ?_, fun k hk => ?_, fun k l hk hl => ?_, fun q hq => ?_, fun j hj => ?_, fun i b hi => ?_⟩
  · rw [eSm 0 (by omega) (by omega) (by omega), keep (lv0 (by decide)) (by decide) (by decide), h.1]
    unfold ctO at eOO ⊢
    rw [eSm 1 (by omega) (by omega) (by omega), eSm 2 (by omega) (by omega) (by omega), eSm 3 (by omega) (by omega) (by omega), eSm 4 (by omega) (by omega) (by omega), eSm 5 (by omega) (by omega) (by omega), eOO]
  · by_cases z0 : j = 0
    · subst z0
      rw [eSm (1 + 0) (by omega) (by omega) (by omega)]
      have e : nL3 c' 0 = (n + 1 : Nat) := e0
      unfold ctL
      rw [e, e6a]
      exact hL.1
    · rw [eSm (1 + j) (by omega) (by omega) (by omega), keep (lv0 (by omega)) (by omega) (by omega), h.2.1 j hj]
      have e : nL3 c' j = nL3 c j := by unfold nL3; rw [if_neg z0, if_neg z0, e6]
      unfold ctL
      rw [e, eSm (6 + j) (by omega) (by omega) (by omega)]
      show _ = some (Sum.inr (2, [iv (if j = 0 then mo else shM A j), _, _]))
      rw [if_neg z0]
  · rw [eSm 4 (by omega) (by omega) (by omega), keep (lv0 (by decide)) (by decide) (by decide), e17]; exact h.2.2.1
  · rw [eSm 5 (by omega) (by omega) (by omega), keep (lv0 (by decide)) (by decide) (by decide), e18]; exact h.2.2.2.1
  · by_cases z0 : j = 0
    · subst z0
      have r2 := (hL.2.1.resolve_left (fun q => by omega)).2
      show σ' (shA (shN A n y z row cap mo f) 6) = some (eO g.2.1 cap f)
      rw [e6a]
      exact r2
    · have hc2 : 1 ≤ shC A j := by
        have q3 : 1 ≤ (if j = 0 then cap else shC A j) := hc
        rw [if_neg z0] at q3
        exact q3
      rw [eSm (6 + j) (by omega) (by omega) (by omega), keep (Or.inr (Or.inl ⟨by omega, by omega, by rw [Nat.add_sub_cancel_left]; exact hc2⟩)) (by omega) (by omega), h.2.2.2.2.1 j hj hc2]
      show _ = some (eO g.2.1 (if j = 0 then cap else shC A j) (if j = 0 then f else shF A j))
      rw [if_neg z0, if_neg z0]
  · by_cases z0 : j = n
    · subst z0
      refine ⟨?_, ?_⟩
      · rw [e10a, hy]
        unfold ctM
        rw [e20a, tu_k (by decide), tu_s, tu_s]
        rfl
      · rw [e20a, hz]
        congr 2
        funext b
        show none = rfQ _ (if j = j then -1 else _)
        rw [if_pos rfl]
        rfl
    · have hj2 : (j : Int) < c 0 0 := by omega
      have hm := lvM (A := A) hw hj2
      have hmj := eM j (by omega)
      refine ⟨?_, ?_⟩
      · rw [eSm (10 + j) (by omega) (by omega) (by omega), keep hm.1 (by omega) (by omega), (h.2.2.2.2.2.1 j hj2).1]
        unfold ctM
        rw [eSm (20 + j) (by omega) (by omega) (by omega), hmj.1, hmj.2.1, hmj.2.2.1, hmj.2.2.2, tu_k (show (0 : Nat) ≠ 1 by decide), tu_j z0, tu_j z0, tu_k (show (1 : Nat) ≠ 0 by decide), eR]
      · rw [eSm (20 + j) (by omega) (by omega) (by omega), keep hm.2 (by omega) (by omega), (h.2.2.2.2.2.1 j hj2).2]
        congr 2
        funext b
        show rfQ A (shE A j b) = rfQ _ (if j = n then -1 else shE A j b)
        rw [if_neg z0, eR]
  · have hq2 : (q : Int) < c 6 0 := by omega
    have w8 := hw.2.2.2.2.2.2.2.2.1 q
    have w8b := w8.2.2.2.1 hq2
    rw [eQ, keep (lvQ hq2) (by omega) (by omega), h.2.2.2.2.2.2 q hq2]
    unfold ctC
    rw [e7, e8, e9, e10, e11, eSm (10 + (c 8 q).toNat) (by omega) (by omega) (by omega), tu_k (by decide), tu_k (by decide)]
  · rcases K m l with ⟨a1, a2⟩ | ⟨a1, a2⟩ | ⟨a1, a2⟩ | ⟨a1, a2, a3, a4, a5⟩
    · rw [e, a2] at hs; exact hs f1
    · rw [e, a2] at hs; exact hs f2
    · rw [a2] at e
      rcases f4 with ⟨t1, t2, t3⟩ | ⟨t1, t2, t3⟩
      · exact ha ⟨6, l6 t3, e.trans t1⟩
      · rw [e] at hs; exact hs t1
    · exact ha ⟨m, a4, e.trans a5⟩
  · refine ho a (fun q => hs (by rw [q]; exact f1)) (fun q => hs (by rw [q]; exact f2)) (fun q => ?_) (fun q => ha ⟨1, lv0 (by decide), q⟩)
    rcases f4 with ⟨t1, t2, t3⟩ | ⟨t1, t2, t3⟩
    · exact ha ⟨6, l6 t3, q.trans t1⟩
    · exact hs (by rw [q]; exact t1)
  · by_cases z0 : j = n
    · rw [z0, tu_s]; exact Or.inl rfl
    · have := hD j (by omega)
      rw [tu_j z0, tu_k (by decide)]
      unfold runQ at this ⊢
      rw [e6]
      exact this
  · show f i = some _
    by_cases z0 : i = n
    · rw [z0, hfn, e10a]
    · rw [hf i (by omega), eSm (10 + i) (by omega) (by omega) (by omega)]
      exact hI.2.1 i (by omega)
  · rw [eQ]
    exact hI.2.2.1 q (by omega)
  · have := hI.2.2.2.1 k (by omega)
    refine ⟨?_, by rw [e6]; exact this.2⟩
    show shF A 2 k = some (shA (shN A n y z row cap mo f) (30 + shO A k))
    rw [eQ]
    exact this.1
  · have := hI.2.2.2.2.1 k l hk (by omega)
    unfold ahQ at this ⊢
    rw [e7]
    exact this
  · obtain ⟨k, k1, k2⟩ := hI.2.2.2.2.2.1 q (by omega)
    exact ⟨k, by omega, k2⟩
  · by_cases z0 : j = 0
    · subst z0
      have e : nL3 c' 0 = (n + 1 : Nat) := e0
      rw [e]
      show ((n + 1 : Nat) : Int) ≤ cap ∧ cap ≤ 60 ∧ (cap = 0 → _)
      have := hL.2.2
      exact ⟨by omega, by omega, fun q => by omega⟩
    · have e : nL3 c' j = nL3 c j := by unfold nL3; rw [if_neg z0, if_neg z0, e6]
      have i7 := hI.2.2.2.2.2.2.1 j hj
      have ec : shC (shN A n y z row cap mo f) j = shC A j := if_neg z0
      rw [e, ec, eSm (6 + j) (by omega) (by omega) (by omega)]
      exact i7
  · show (if i = n then -1 else shE A i b) = eff c' i b
    unfold eff
    rw [e6, effN_eq e7 e8 e11]
    by_cases z0 : i = n
    · rw [if_pos z0, z0]
      exact (effN_new hw hn b _ (by have := hw.2.1; omega)).symm
    · rw [if_neg z0]
      exact hI.2.2.2.2.2.2.2 i b (by omega)
end L
end KM
