/-! what callers build, as the law keeps it -/
section LS
theorem mI_eq {c c' : Tb} {f : Nat → Int} (h : mI c f) (h0 : c' 0 0 = c 0 0) (h1 : c' 1 = c 1) (h2 : c' 2 = c 2) (h3 : c' 3 = c 3) (h4 : c' 4 = c 4) (h5 : c' 5 = c 5) : mI c' f := fun i hi => by
  rw [h1, h2, h3, h4, h5]
  exact h i (by rw [← h0]; exact hi)
theorem qI_eq {c c' : Tb} {f : Nat → Int} (h : qI c f) (h6 : c' 6 0 = c 6 0) (h7 : c' 7 = c 7) (h8 : c' 8 = c 8) (h9 : c' 9 = c 9) (h10 : c' 10 = c 10) (h11 : c' 11 = c 11) : qI c' f := fun k hk => by
  rw [h k (by rw [← h6]; exact hk)]
  unfold qv
  rw [h7, h8, h9, h10, h11]
theorem zI_eq {c c' : Tb} {f : Nat → Int} (h : zI c f) (h18 : c' 18 = c 18) : zI c' f := fun w hw => by
  rw [h18]
  exact h w hw
theorem stB_eq {c c' : Tb} (h : c' 17 = c 17) : stB c' = stB c := by
  unfold stB
  rw [h]
theorem mI_wagon {c : Tb} {fm f : Nat → Int} {n : Nat} {t p w s : Int} (hw : WF c) (hn : c 0 0 = n) (h : mI c fm) (h0 : f (4 * n) = t) (h1 : f (4 * n + 1) = p) (h2 : f (4 * n + 2) = w) (h3 : f (4 * n + 3) = s) (hr : ∀ j : Nat, j < 4 * n → f j = fm j) : mI (nxWagon c t p w s) f := by
  intro i hi
  have hi' : nxWagon c t p w s 0 0 = c 0 0 + 1 := tu_s ..
  have hN : (c 0 0).toNat = n := by omega
  by_cases z : i = n
  · subst z
    have e1 : nxWagon c t p w s 1 i = 0 := (show nxWagon c t p w s 1 i = c 1 i from rfl).trans ((hw.2.2.2.2.2.2.2.1 i).2.1 (by omega))
    have e2 : nxWagon c t p w s 2 i = t := by
      unfold nxWagon
      rw [hN, tu_k (by decide), tu_k (by decide), tu_k (by decide), tu_k (by decide), tu_s]
    have e3 : nxWagon c t p w s 3 i = w := by
      unfold nxWagon
      rw [hN, tu_k (by decide), tu_k (by decide), tu_k (by decide), tu_s]
    have e4 : nxWagon c t p w s 4 i = s := by
      unfold nxWagon
      rw [hN, tu_k (by decide), tu_k (by decide), tu_s]
    have e5 : nxWagon c t p w s 5 i = p := by
      unfold nxWagon
      rw [hN, tu_k (by decide), tu_s]
    rw [e1, e2, e3, e4, e5, if_neg (by decide)]
    exact ⟨h0, h1, h3, fun _ => h2⟩
  · have e : ∀ k : Nat, k ≠ 0 → nxWagon c t p w s k i = c k i := fun k hk => by
      unfold nxWagon
      rw [hN, tu_k hk, tu_j z, tu_j z, tu_j z, tu_j z]
    rw [e 1 (by decide), e 2 (by decide), e 3 (by decide), e 4 (by decide), e 5 (by decide), hr _ (by omega), hr _ (by omega), hr _ (by omega), hr _ (by omega)]
    exact h i (by omega)
theorem mI_table {c : Tb} {fm f : Nat → Int} {n : Nat} {p s : Int} (hn : c 0 0 = n) (h : mI c fm) (h0 : f (4 * n) = 3) (h1 : f (4 * n + 1) = p) (h3 : f (4 * n + 3) = s) (hr : ∀ j : Nat, j < 4 * n → f j = fm j) : mI (nxTable c p s) f := by
  intro i hi
  have hi' : nxTable c p s 0 0 = c 0 0 + 1 := tu_s ..
  have hN : (c 0 0).toNat = n := by omega
  by_cases z : i = n
  · subst z
    have e1 : nxTable c p s 1 i = 1 := by
      unfold nxTable
      rw [hN, tu_k (by decide), tu_k (by decide), tu_k (by decide), tu_s]
    have e4 : nxTable c p s 4 i = s := by
      unfold nxTable
      rw [hN, tu_k (by decide), tu_k (by decide), tu_s]
    have e5 : nxTable c p s 5 i = p := by
      unfold nxTable
      rw [hN, tu_k (by decide), tu_s]
    rw [e1, e4, e5, if_pos rfl]
    exact ⟨h0, h1, h3, fun z => by cases z⟩
  · have e : ∀ k : Nat, k ≠ 0 → nxTable c p s k i = c k i := fun k hk => by
      unfold nxTable
      rw [hN, tu_k hk, tu_j z, tu_j z, tu_j z]
    rw [e 1 (by decide), e 2 (by decide), e 3 (by decide), e 4 (by decide), e 5 (by decide), hr _ (by omega), hr _ (by omega), hr _ (by omega), hr _ (by omega)]
    exact h i (by omega)
theorem qI_cue {c : Tb} {fq f : Nat → Int} {n : Nat} {a b t w : Int} (hw : WF c) (hn : c 6 0 = n) (h : qI c fq) (h0 : f n = b + 32 * a + 256 * w + 2048 * t) (hr : ∀ j : Nat, j < n → f j = fq j) : qI (nxCue c a b t w) f := by
  intro i hi
  have hi' : nxCue c a b t w 6 0 = c 6 0 + 1 := tu_s ..
  have hN : (c 6 0).toNat = n := by omega
  by_cases z : i = n
  · subst z
    have e8 : nxCue c a b t w 8 i = a := by
      unfold nxCue
      rw [hN, tu_k (by decide), tu_k (by decide), tu_k (by decide), tu_k (by decide), tu_s]
    have e7 : nxCue c a b t w 7 i = b := by
      unfold nxCue
      rw [hN, tu_k (by decide), tu_k (by decide), tu_k (by decide), tu_s]
    have e9 : nxCue c a b t w 9 i = t := by
      unfold nxCue
      rw [hN, tu_k (by decide), tu_k (by decide), tu_s]
    have e10 : nxCue c a b t w 10 i = w := by
      unfold nxCue
      rw [hN, tu_k (by decide), tu_s]
    have e11 : nxCue c a b t w 11 i = 0 := (show nxCue c a b t w 11 i = c 11 i from rfl).trans ((hw.2.2.2.2.2.2.2.2.1 i).2.2.2.2.2.2.2.2 (by omega))
    unfold qv
    rw [e7, e8, e9, e10, e11, h0]
    omega
  · have e : ∀ k : Nat, k ≠ 6 → nxCue c a b t w k i = c k i := fun k hk => by
      unfold nxCue
      rw [hN, tu_k hk, tu_j z, tu_j z, tu_j z, tu_j z]
    rw [hr i (by omega), h i (by omega)]
    unfold qv
    rw [e 7 (by decide), e 8 (by decide), e 9 (by decide), e 10 (by decide), e 11 (by decide)]
theorem qI_out {c : Tb} {fq f : Nat → Int} {k : Nat} (h : qI c fq) (h11 : c 11 k = 0) (h0 : f k = qv c k + 1048576) (hr : ∀ j : Nat, j ≠ k → f j = fq j) : qI (nxOut c (k : Int)) f := by
  intro i hi
  have hi' : (i : Int) < c 6 0 := hi
  by_cases z : i = k
  · subst z
    have e11 : nxOut c (i : Int) 11 i = 1 := by
      unfold nxOut
      rw [Int.toNat_natCast, tu_s]
    have e : ∀ k : Nat, k ≠ 11 → nxOut c (i : Int) k i = c k i := fun k hk => tu_k hk
    rw [h0]
    unfold qv
    rw [e 7 (by decide), e 8 (by decide), e 9 (by decide), e 10 (by decide), e11, h11]
    omega
  · have e : ∀ j : Nat, nxOut c (k : Int) j i = c j i := fun j => by
      unfold nxOut
      rw [Int.toNat_natCast]
      exact tu_j z
    rw [hr i z, h i hi']
    unfold qv
    rw [e, e, e, e, e]
theorem z_or20 {x : Int} (h0 : 0 ≤ x) (h1 : x < 1048576) : iI x ||| iI 1048576 = iI (x + 1048576) := by
  obtain ⟨n, rfl⟩ : ∃ n : Nat, x = n := ⟨x.toNat, by omega⟩
  exact z_or (a := n) (b := 1) (k := 20) (by omega)
theorem z_or0 (x : Int) : iI x ||| iI 0 = iI x := Int32.or_zero
theorem z_orq {b i w t : Nat} (hb : b < 32) (hi : i < 8) (hw : w < 8) (ht : t < 512) : iI (b : Int) ||| iI ((i * 2 ^ 5 : Nat) : Int) = iI ((b + i * 2 ^ 5 : Nat) : Int) ∧ iI ((b + i * 2 ^ 5 : Nat) : Int) ||| iI ((w * 2 ^ 8 : Nat) : Int) = iI ((b + i * 2 ^ 5 + w * 2 ^ 8 : Nat) : Int) ∧ iI ((b + i * 2 ^ 5 + w * 2 ^ 8 : Nat) : Int) ||| iI ((t * 2 ^ 11 : Nat) : Int) = iI ((b + i * 2 ^ 5 + w * 2 ^ 8 + t * 2 ^ 11 : Nat) : Int) := ⟨z_or (by omega), z_or (by omega), z_or (by omega)⟩
/-- the object's part of SJ -/
def OBp (g : Gx) (x am aq ac az : Nat) (c : Tb) (σ : Wd) : Prop := ∃ (A : ShT) (D : Tb), shA A 0 = x ∧ CB g.2.1 A σ c D σ ∧ CI g c A ∧ WF c ∧ ∀ a, (a = am ∨ a = aq ∨ a = ac ∨ a = az) → ¬ ownQ A c a
theorem OBp.wr {g : Gx} {x am aq ac az a : Nat} {c : Tb} {σ σ' : Wd} (h : OBp g x am aq ac az c σ) (ha : a = am ∨ a = aq ∨ a = ac ∨ a = az) (h3 : ∀ b, b ≠ a → σ' b = σ b) : OBp g x am aq ac az c σ' := by
  obtain ⟨A, D, hx, hM, hI, hw, hown⟩ := h
  exact ⟨A, D, hx, ⟨hM.1.eqv hw (fun m l => h3 _ (fun z => hown a ha (z ▸ ⟨m, l, rfl⟩))), fun _ _ => rfl, hM.2.2⟩, hI, hw, hown⟩
def STP (g : Gx) (x am aq ac az : Nat) : Option Value → Wd → Prop := fun r σ' => r = some (iv 1) ∧ ∃ c' : Tb, SJ g x am aq ac az c' c' σ' ∧ 1 ≤ c' 0 0
theorem fit_s (c : Tb) (b : Int) (k : Nat) : fitB c b (k + 1) = true ↔ fitB c b k = true ∧ (c 11 k ≠ 0 ∨ c 7 k < b) := by
  show (fitB c b k && (decide (c 11 k ≠ 0) || decide (c 7 k < b))) = true ↔ _
  rw [Bool.and_eq_true, Bool.or_eq_true, decide_eq_true_eq, decide_eq_true_eq]
end LS
