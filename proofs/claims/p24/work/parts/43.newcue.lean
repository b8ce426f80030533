section KN
theorem effN_cut {c c' : Tb} {n : Nat} (e7 : ∀ q : Nat, q < n → c' 7 q = c 7 q) (e8 : ∀ q : Nat, q < n → c' 8 q = c 8 q) (e11 : ∀ q : Nat, q < n → c' 11 q = c 11 q) (i b : Int) : ∀ q : Nat, q ≤ n → effN c' i b q = effN c i b q
  | 0, _ => rfl
  | q + 1, h => by
    unfold effN
    rw [effN_cut e7 e8 e11 i b q (by omega), e7 q (by omega), e8 q (by omega), e11 q (by omega)]
def shQ (A : ShT) (n y r1 r2 c1 c2 i b k : Nat) (m1 m2 : Int) (f1 f2 : Nat → Option Nat) : ShT := (fun m => if m = 30 + n then y else if m = 7 then r1 else if m = 8 then r2 else shA A m, fun j => if j = 1 then f1 else if j = 2 then f2 else shF A j, fun j => if j = 1 then m1 else if j = 2 then m2 else shM A j, fun j => if j = 1 then c1 else if j = 2 then c2 else shC A j, fun j z => if j = i ∧ z = b then (n : Int) else shE A j z, fun l => if l < k then shO A l else if l = k then n else shO A (l - 1))
theorem CB.newQ {g : Gx} {A : ShT} {c c' D : Tb} {σ σ' : Wd} {n y r1 r2 c1 c2 i b k : Nat} {m1 m2 : Int} {f1 f2 : Nat → Option Nat} (hw : WF c) (hI : CI g c A) (h : CW g.2.1 A c D σ) (hD : ∀ j : Nat, (j : Int) < c 0 0 → runQ c (D 1 j)) (hn : c 6 0 = n) (hn24 : n < 24) (e0 : c' 0 0 = c 0 0) (e6 : c' 6 0 = (n + 1 : Nat)) (eOO : ctO A c' = ctO A c) (e17 : c' 17 = c 17) (e18 : c' 18 = c 18) (eM : ∀ j : Nat, tkQ c' j = tkQ c j ∧ c' 5 j = c 5 j ∧ wdQ c' j = wdQ c j ∧ c' 4 j = c 4 j) (eq : ∀ q : Nat, q < n → c' 7 q = c 7 q ∧ c' 8 q = c 8 q ∧ c' 9 q = c 9 q ∧ c' 10 q = c 10 q ∧ c' 11 q = c 11 q) (e8n : c' 8 n = i) (e7n : c' 7 n = b) (e11n : c' 11 n = 0)
    (hy : σ' y = some (.inr (3, [.ref (shA A (10 + i)), iv (c' 7 n), iv (c' 9 n), iv (c' 10 n), iv (c' 11 n), iv 0]))) (hL1 : ALst g σ' (shA A 2) m1 r1 (n + 1) c1 f1) (hf1 : ∀ j, j < n → f1 j = shF A 1 j) (hf1n : f1 n = some y)
    (hL2 : ALst g σ' (shA A 3) m2 r2 (n + 1) c2 f2) (hk : k ≤ n) (hfa : ∀ j, j < k → f2 j = shF A 2 j) (hfb : f2 k = some y) (hfc : ∀ j, k < j → j ≤ n → f2 j = shF A 2 (j - 1)) (hlo : ∀ l : Nat, l < k → c 7 (shO A l) ≤ b) (hhi : ∀ l : Nat, k ≤ l → l < n → (b : Int) < c 7 (shO A l))
    (hi : (i : Int) < c 0 0) (hr : σ' (shA A (20 + i)) = some (eC g.2.1 30 (va_up (fun z => rfQ A (shE A i z)) b (some y))))
    (ho : ∀ a, a ≠ y → a ≠ r1 → a ≠ r2 → a ≠ shA A 2 → a ≠ shA A 3 → a ≠ shA A (20 + i) → σ' a = σ a) (g1 : σ y = none) (g2 : (r1 = shA A 7 ∧ 1 ≤ shC A 1) ∨ (σ r1 = none ∧ r1 ≠ y)) (g3 : (r2 = shA A 8 ∧ 1 ≤ shC A 2) ∨ (σ r2 = none ∧ r2 ≠ y ∧ r2 ≠ r1)) (hc1 : 1 ≤ c1) (hc2 : 1 ≤ c2) :
    GW g.2.1 A c σ (shQ A n y r1 r2 c1 c2 i b k m1 m2 f1 f2) c' (tu D 2 n 0) σ' ∧ CI g c' (shQ A n y r1 r2 c1 c2 i b k m1 m2 f1 f2) := by
  have hw0 := hw.1
  obtain ⟨B, hB⟩ : ∃ B : ShT, B = shQ A n y r1 r2 c1 c2 i b k m1 m2 f1 f2 := ⟨_, rfl⟩
  have hBA : ∀ m, shA B m = if m = 30 + n then y else if m = 7 then r1 else if m = 8 then r2 else shA A m := fun m => by rw [hB]; rfl
  have hBF : ∀ j, shF B j = if j = 1 then f1 else if j = 2 then f2 else shF A j := fun j => by rw [hB]; rfl
  have hBM : ∀ j, shM B j = if j = 1 then m1 else if j = 2 then m2 else shM A j := fun j => by rw [hB]; rfl
  have hBC : ∀ j, shC B j = if j = 1 then c1 else if j = 2 then c2 else shC A j := fun j => by rw [hB]; rfl
  have hBE : ∀ (j : Nat) (z : Int), shE B j z = if j = i ∧ z = b then (n : Int) else shE A j z := fun j z => by rw [hB]; rfl
  have hBO : ∀ l, shO B l = if l < k then shO A l else if l = k then n else shO A (l - 1) := fun l => by rw [hB]; rfl
  rw [← hB]
  have hsm := fun {m : Nat} (hl : LV A c m) => h.some hw hl
  have l7 : 1 ≤ shC A 1 → LV A c 7 := fun q => Or.inr (Or.inl ⟨by omega, by omega, q⟩)
  have l8 : 1 ≤ shC A 2 → LV A c 8 := fun q => Or.inr (Or.inl ⟨by omega, by omega, q⟩)
  have K : ∀ m, LV B c' m → (m = 30 + n ∧ shA B m = y) ∨ (m = 7 ∧ shA B m = r1) ∨ (m = 8 ∧ shA B m = r2) ∨ (m ≠ 30 + n ∧ m ≠ 7 ∧ m ≠ 8 ∧ LV A c m ∧ shA B m = shA A m) := by
    intro m hl
    have ea := hBA m
    by_cases z1 : m = 30 + n
    · exact Or.inl ⟨z1, by rw [ea, if_pos z1]⟩
    · by_cases z2 : m = 7
      · exact Or.inr (Or.inl ⟨z2, by rw [ea, if_neg z1, if_pos z2]⟩)
      · by_cases z3 : m = 8
        · exact Or.inr (Or.inr (Or.inl ⟨z3, by rw [ea, if_neg z1, if_neg z2, if_pos z3]⟩))
        · refine Or.inr (Or.inr (Or.inr ⟨z1, z2, z3, ?_, by rw [ea, if_neg z1, if_neg z2, if_neg z3]⟩))
          rcases hl with q | q | q | q | q
          · exact Or.inl q
          · refine Or.inr (Or.inl ⟨q.1, q.2.1, ?_⟩)
            have q3 := q.2.2
            rw [hBC, if_neg (by omega), if_neg (by omega)] at q3
            exact q3
          · exact Or.inr (Or.inr (Or.inl ⟨q.1, q.2.1, by omega⟩))
          · exact Or.inr (Or.inr (Or.inr (Or.inl ⟨q.1, q.2.1, by omega⟩)))
          · exact Or.inr (Or.inr (Or.inr (Or.inr ⟨q.1, by omega⟩)))
  have ny : ∀ {m}, LV A c m → shA A m ≠ y := fun hl q => hsm hl (by rw [q]; exact g1)
  have n1 : ∀ {m}, LV A c m → m ≠ 7 → shA A m ≠ r1 := fun {m} hl hm q => by
    rcases g2 with ⟨t1, t2⟩ | ⟨t1, t2⟩
    · exact hm (hI.1 _ _ hl (l7 t2) (q.trans t1))
    · exact hsm hl (by rw [q]; exact t1)
  have n2 : ∀ {m}, LV A c m → m ≠ 8 → shA A m ≠ r2 := fun {m} hl hm q => by
    rcases g3 with ⟨t1, t2⟩ | ⟨t1, t2, t3⟩
    · exact hm (hI.1 _ _ hl (l8 t2) (q.trans t1))
    · exact hsm hl (by rw [q]; exact t1)
  have r1y : r1 ≠ y := by
    rcases g2 with ⟨t1, t2⟩ | ⟨t1, t2⟩
    · rw [t1]; exact ny (l7 t2)
    · exact t2
  have r2y : r2 ≠ y := by
    rcases g3 with ⟨t1, t2⟩ | ⟨t1, t2, t3⟩
    · rw [t1]; exact ny (l8 t2)
    · exact t2
  have r21 : r2 ≠ r1 := by
    rcases g3 with ⟨t1, t2⟩ | ⟨t1, t2, t3⟩
    · rw [t1]; exact n1 (l8 t2) (by decide)
    · exact t3
  have inj : ∀ m m', LV B c' m → LV B c' m' → shA B m = shA B m' → m = m' := by
    intro m m' l l' e
    rcases K m l with ⟨a1, a2⟩ | ⟨a1, a2⟩ | ⟨a1, a2⟩ | ⟨a1, a2, a3, a4, a5⟩
    all_goals rcases K m' l' with ⟨b1, b2⟩ | ⟨b1, b2⟩ | ⟨b1, b2⟩ | ⟨b1, b2, b3, b4, b5⟩
    all_goals (first | rw [a2, b2] at e | rw [a2, b5] at e | rw [a5, b2] at e | rw [a5, b5] at e)
    · omega
    · exact absurd e.symm r1y
    · exact absurd e.symm r2y
    · exact absurd e.symm (ny b4)
    · exact absurd e r1y
    · omega
    · exact absurd e.symm r21
    · exact absurd e.symm (n1 b4 b2)
    · exact absurd e r2y
    · exact absurd e r21
    · omega
    · exact absurd e.symm (n2 b4 b3)
    · exact absurd e (ny a4)
    · exact absurd e (n1 a4 a2)
    · exact absurd e (n2 a4 a3)
    · exact hI.1 _ _ a4 b4 e
  have keep : ∀ {m}, LV A c m → m ≠ 7 → m ≠ 8 → m ≠ 2 → m ≠ 3 → m ≠ 20 + i → σ' (shA A m) = σ (shA A m) := fun {m} hl h7 h8 h2 h3 h20 => ho _ (ny hl) (n1 hl h7) (n2 hl h8) (hI.ne hl (lv0 (by decide)) h2) (hI.ne hl (lv0 (by decide)) h3) (hI.ne hl (lvM hw hi).2 h20)
  have eSm : ∀ m, m ≠ 30 + n → m ≠ 7 → m ≠ 8 → shA B m = shA A m := fun m q1 q2 q3 => by rw [hBA, if_neg q1, if_neg q2, if_neg q3]
  have e30 : shA B (30 + n) = y := by rw [hBA, if_pos rfl]
  have e7a : shA B 7 = r1 := by rw [hBA, if_neg (by omega), if_pos rfl]
  have e8a : shA B 8 = r2 := by rw [hBA, if_neg (by omega), if_neg (by omega), if_pos rfl]
  have eR : ∀ r : Int, -1 ≤ r → r < n → rfQ B r = rfQ A r := fun r hr0 hr => by
    unfold rfQ
    split
    · rfl
    · rw [eSm _ (by omega) (by omega) (by omega)]
  have hRn : rfQ B (n : Int) = some y := by rw [rfQ_n, e30]
  have hElt : ∀ (j z : Nat), (j : Int) < c 0 0 → -1 ≤ shE A j z ∧ shE A j z < n := fun j z hj => by
    rw [hI.2.2.2.2.2.2.2 j z hj]
    have := eff_rg c j z (c 6 0).toNat (by omega)
    unfold eff
    omega
  refine ⟨⟨⟨?_, fun j hj => ?_, ?_, ?_, fun j hj hc => ?_, fun j hj => ?_, fun q hq => ?_⟩, eSm 0 (by omega) (by omega) (by omega), fun a ha hs => ⟨fun ⟨m, l, e⟩ => ?_, ?_⟩, fun j hj => ?_⟩, inj, fun j hj => ?_, fun q hq => ?_, fun l hl => ?_, fun l l2 hl hl2 => ?_, fun q hq => ?_, fun j hj => ?_, fun j z hj => ?_⟩
  · rw [eSm 0 (by omega) (by omega) (by omega), keep (lv0 (by decide)) (by decide) (by decide) (by decide) (by decide) (by omega), h.1]
    unfold ctO at eOO ⊢
    rw [eSm 1 (by omega) (by omega) (by omega), eSm 2 (by omega) (by omega) (by omega), eSm 3 (by omega) (by omega) (by omega), eSm 4 (by omega) (by omega) (by omega), eSm 5 (by omega) (by omega) (by omega), eOO]
  · have hj3 : j = 0 ∨ j = 1 ∨ j = 2 := by omega
    unfold ctL
    rcases hj3 with rfl | rfl | rfl
    · rw [eSm (1 + 0) (by omega) (by omega) (by omega), keep (lv0 (by omega)) (by omega) (by omega) (by omega) (by omega) (by omega), h.2.1 0 hj, eSm (6 + 0) (by omega) (by omega) (by omega), hBM]
      have e : nL3 c' 0 = nL3 c 0 := e0
      unfold ctL
      rw [e]
      rfl
    · rw [eSm (1 + 1) (by omega) (by omega) (by omega), show 6 + 1 = 7 from rfl, e7a, hBM]
      have e : nL3 c' 1 = (n + 1 : Nat) := e6
      rw [e]
      exact hL1.1
    · rw [eSm (1 + 2) (by omega) (by omega) (by omega), show 6 + 2 = 8 from rfl, e8a, hBM]
      have e : nL3 c' 2 = (n + 1 : Nat) := e6
      rw [e]
      exact hL2.1
  · rw [eSm 4 (by omega) (by omega) (by omega), keep (lv0 (by decide)) (by decide) (by decide) (by decide) (by decide) (by omega), e17]; exact h.2.2.1
  · rw [eSm 5 (by omega) (by omega) (by omega), keep (lv0 (by decide)) (by decide) (by decide) (by decide) (by decide) (by omega), e18]; exact h.2.2.2.1
  · have hj3 : j = 0 ∨ j = 1 ∨ j = 2 := by omega
    rcases hj3 with rfl | rfl | rfl
    · have hc2 : 1 ≤ shC A 0 := by rw [hBC] at hc; exact hc
      rw [eSm (6 + 0) (by omega) (by omega) (by omega), keep (Or.inr (Or.inl ⟨by omega, by omega, hc2⟩)) (by omega) (by omega) (by omega) (by omega) (by omega), h.2.2.2.2.1 0 hj hc2, hBC, hBF]
      rfl
    · have r2' := (hL1.2.1.resolve_left (fun q => by omega)).2
      rw [show 6 + 1 = 7 from rfl, e7a, hBC, hBF]
      exact r2'
    · have r2' := (hL2.2.1.resolve_left (fun q => by omega)).2
      rw [show 6 + 2 = 8 from rfl, e8a, hBC, hBF]
      exact r2'
  · have hj2 : (j : Int) < c 0 0 := by omega
    have hm := lvM (A := A) hw hj2
    have hmj := eM j
    have hr0 := hD j hj2
    have hrr : -1 ≤ D 1 j ∧ D 1 j < n := by
      rcases hr0 with q | ⟨q, q1, q2⟩ <;> omega
    refine ⟨?_, ?_⟩
    · rw [eSm (10 + j) (by omega) (by omega) (by omega), keep hm.1 (by omega) (by omega) (by omega) (by omega) (by omega), (h.2.2.2.2.2.1 j hj2).1]
      unfold ctM
      rw [eSm (20 + j) (by omega) (by omega) (by omega), hmj.1, hmj.2.1, hmj.2.2.1, hmj.2.2.2, tu_k (show (0 : Nat) ≠ 2 by decide), tu_k (show (1 : Nat) ≠ 2 by decide), eR _ hrr.1 hrr.2]
    · rw [eSm (20 + j) (by omega) (by omega) (by omega)]
      by_cases z0 : j = i
      · subst z0
        rw [hr]
        congr 2
        funext z
        rw [hBE]
        unfold va_up
        by_cases t : z = b
        · rw [if_pos t, if_pos ⟨rfl, by omega⟩, hRn]
        · rw [if_neg t, if_neg (fun u => t (by omega))]
          have hz := hElt j z hj2
          exact (eR _ hz.1 hz.2).symm
      · rw [keep hm.2 (by omega) (by omega) (by omega) (by omega) (by omega), (h.2.2.2.2.2.1 j hj2).2]
        congr 2
        funext z
        have hz := hElt j z hj2
        rw [hBE, if_neg (fun u => z0 u.1), eR _ hz.1 hz.2]
  · by_cases z0 : q = n
    · subst z0
      rw [e30, hy]
      unfold ctC
      rw [e8n, Int.toNat_natCast, eSm (10 + i) (by omega) (by omega) (by omega), tu_s]
    · have hq2 : (q : Int) < c 6 0 := by omega
      have w8 := hw.2.2.2.2.2.2.2.2.1 q
      have w8b := w8.2.2.2.1 hq2
      obtain ⟨q7, q8, q9, q10, q11⟩ := eq q (by omega)
      rw [eSm (30 + q) (by omega) (by omega) (by omega), keep (lvQ hq2) (by omega) (by omega) (by omega) (by omega) (by omega), h.2.2.2.2.2.2 q hq2]
      unfold ctC
      rw [q7, q8, q9, q10, q11, eSm (10 + (c 8 q).toNat) (by omega) (by omega) (by omega), tu_j z0]
  · rcases K m l with ⟨a1, a2⟩ | ⟨a1, a2⟩ | ⟨a1, a2⟩ | ⟨a1, a2, a3, a4, a5⟩
    · rw [e, a2] at hs; exact hs g1
    · rw [a2] at e
      rcases g2 with ⟨t1, t2⟩ | ⟨t1, t2⟩
      · exact ha ⟨7, l7 t2, e.trans t1⟩
      · rw [e] at hs; exact hs t1
    · rw [a2] at e
      rcases g3 with ⟨t1, t2⟩ | ⟨t1, t2, t3⟩
      · exact ha ⟨8, l8 t2, e.trans t1⟩
      · rw [e] at hs; exact hs t1
    · exact ha ⟨m, a4, e.trans a5⟩
  · refine ho a (fun q => hs (by rw [q]; exact g1)) (fun q => ?_) (fun q => ?_) (fun q => ha ⟨2, lv0 (by decide), q⟩) (fun q => ha ⟨3, lv0 (by decide), q⟩) (fun q => ha ⟨_, (lvM hw hi).2, q⟩)
    · rcases g2 with ⟨t1, t2⟩ | ⟨t1, t2⟩
      · exact ha ⟨7, l7 t2, q.trans t1⟩
      · exact hs (by rw [q]; exact t1)
    · rcases g3 with ⟨t1, t2⟩ | ⟨t1, t2, t3⟩
      · exact ha ⟨8, l8 t2, q.trans t1⟩
      · exact hs (by rw [q]; exact t1)
  · rw [tu_k (by decide)]
    rcases hD j (by omega) with q | ⟨q, q1, q2⟩
    · exact Or.inl q
    · exact Or.inr ⟨q, q1, by omega⟩
  · rw [hBF, eSm (10 + j) (by omega) (by omega) (by omega)]
    exact hI.2.1 j (by omega)
  · rw [hBF]
    show f1 q = _
    by_cases z0 : q = n
    · rw [z0, hf1n, e30]
    · rw [hf1 q (by omega), eSm (30 + q) (by omega) (by omega) (by omega)]
      exact hI.2.2.1 q (by omega)
  · rw [hBF, hBO]
    show f2 l = _ ∧ _
    by_cases z1 : l < k
    · have t := hI.2.2.2.1 l (by omega)
      rw [if_pos z1, hfa l z1, t.1, eSm _ (by omega) (by omega) (by omega)]
      exact ⟨rfl, by omega⟩
    · by_cases z2 : l = k
      · rw [if_neg z1, if_pos z2, z2, hfb, e30]
        exact ⟨rfl, by omega⟩
      · have t := hI.2.2.2.1 (l - 1) (by omega)
        rw [if_neg z1, if_neg z2, hfc l (by omega) (by omega), t.1, eSm _ (by omega) (by omega) (by omega)]
        exact ⟨rfl, by omega⟩
  · have so := hI.2.2.2.2.1
    have si : ∀ u : Nat, u < n → shO A u < n := fun u hu => by have := (hI.2.2.2.1 u (by omega)).2; omega
    have s7 : ∀ u : Nat, u < n → c' 7 (shO A u) = c 7 (shO A u) := fun u hu => (eq _ (si u hu)).1
    have hold : ∀ u v : Nat, u < v → v < n → ahQ c' (shO A u) (shO A v) := fun u v h1 h2 => by
      have := so u v h1 (by omega)
      unfold ahQ at this ⊢
      rw [s7 u (by omega), s7 v h2]
      exact this
    rw [hBO l, hBO l2]
    by_cases z1 : l < k
    · rw [if_pos z1]
      by_cases z2 : l2 < k
      · rw [if_pos z2]; exact hold l l2 hl (by omega)
      · rw [if_neg z2]
        by_cases z3 : l2 = k
        · rw [if_pos z3]
          have := hlo l z1
          have t := si l (by omega)
          unfold ahQ
          rw [s7 l (by omega), e7n]
          omega
        · rw [if_neg z3]; exact hold l (l2 - 1) (by omega) (by omega)
    · rw [if_neg z1, if_neg (show ¬ l2 < k by omega), if_neg (show ¬ l2 = k by omega)]
      by_cases z2 : l = k
      · rw [if_pos z2]
        have := hhi (l2 - 1) (by omega) (by omega)
        unfold ahQ
        rw [s7 (l2 - 1) (by omega), e7n]
        exact Or.inl this
      · rw [if_neg z2]; exact hold (l - 1) (l2 - 1) (by omega) (by omega)
  · by_cases z0 : q = n
    · exact ⟨k, by omega, by rw [hBO, if_neg (Nat.lt_irrefl k), if_pos rfl, z0]⟩
    · obtain ⟨u, u1, u2⟩ := hI.2.2.2.2.2.1 q (by omega)
      by_cases z1 : u < k
      · exact ⟨u, by omega, by rw [hBO, if_pos z1, u2]⟩
      · exact ⟨u + 1, by omega, by rw [hBO, if_neg (by omega), if_neg (by omega), Nat.add_sub_cancel, u2]⟩
  · have hj3 : j = 0 ∨ j = 1 ∨ j = 2 := by omega
    have p1 := hL1.2.2
    have p2 := hL2.2.2
    rcases hj3 with rfl | rfl | rfl
    · have e : nL3 c' 0 = nL3 c 0 := e0
      have i7 := hI.2.2.2.2.2.2.1 0 hj
      rw [e, hBC, eSm (6 + 0) (by omega) (by omega) (by omega)]
      exact i7
    · have e : nL3 c' 1 = (n + 1 : Nat) := e6
      rw [e, hBC]
      show ((n + 1 : Nat) : Int) ≤ (c1 : Int) ∧ c1 ≤ 60 ∧ (c1 = 0 → _)
      exact ⟨by omega, by omega, fun q => by omega⟩
    · have e : nL3 c' 2 = (n + 1 : Nat) := e6
      rw [e, hBC]
      show ((n + 1 : Nat) : Int) ≤ (c2 : Int) ∧ c2 ≤ 60 ∧ (c2 = 0 → _)
      exact ⟨by omega, by omega, fun q => by omega⟩
  · rw [hBE]
    have hj2 : (j : Int) < c 0 0 := by omega
    have ee : eff c' j z = if c' 11 n = 0 ∧ c' 8 n = j ∧ c' 7 n = z then (n : Int) else eff c j z := by
      unfold eff
      rw [show (c' 6 0).toNat = n + 1 by omega, show (c 6 0).toNat = n by omega, ← effN_cut (c := c) (c' := c') (n := n) (fun q hq => (eq q hq).1) (fun q hq => (eq q hq).2.1) (fun q hq => (eq q hq).2.2.2.2) j z n (Nat.le_refl n)]
      rfl
    rw [ee, e11n, e8n, e7n]
    by_cases t : j = i ∧ (z : Int) = b
    · rw [if_pos t, if_pos ⟨rfl, by omega, by omega⟩]
    · rw [if_neg t, if_neg (fun u => t ⟨by omega, by omega⟩)]
      exact hI.2.2.2.2.2.2.2 j z hj2
end KN
