/-! the first table; an object in its making -/
section KC
def sc0 (k : Nat) : Int := match k with
  | 12 => 16
  | 13 => 20
  | 14 => 100
  | 15 => 5
  | 16 => 400
  | _ => 0
/-- what a new object holds, the first i substitutes none -/
def c0T (i : Nat) : Tb := fun k j => if k = 18 then (if j < i then -1 else 0) else sc0 k
theorem c0_up (i : Nat) : tu (c0T i) 18 i (-1) = c0T (i + 1) := by
  funext k j
  unfold tu c0T
  by_cases h : k = 18
  · by_cases h2 : j = i
    · rw [if_pos ⟨h, h2⟩, if_pos h, if_pos (by omega)]
    · rw [if_neg (fun z => h2 z.2), if_pos h, if_pos h]
      by_cases h3 : j < i
      · rw [if_pos h3, if_pos (by omega)]
      · rw [if_neg h3, if_neg (by omega)]
  · rw [if_neg (fun z => h z.1), if_neg h, if_neg h]
theorem sc0_19 {k : Nat} (h : 19 ≤ k) : sc0 k = 0 := by
  unfold sc0
  split <;> first | rfl | omega
theorem c0_cut (i : Nat) : cut (c0T i) = c0T i := by
  funext k j
  unfold cut
  split
  · rfl
  · unfold c0T
    rw [if_neg (by omega), sc0_19 (by omega)]
theorem c0_z {i k : Nat} (h : k ≠ 18) (j : Nat) : c0T i k j = sc0 k := if_neg h
theorem c0_18 (i : Nat) : c0T i 18 = fun j => if j < i then -1 else 0 := by
  funext j
  exact if_pos rfl
theorem c0_r18 : c0T 0 18 = fun _ => 0 := by
  rw [c0_18]
  funext j
  exact if_neg (Nat.not_lt_zero j)
theorem c0_WF : WF (c0T 6) := by
  have z : ∀ k, k ≠ 18 → ∀ j, c0T 6 k j = sc0 k := fun k h j => if_neg h
  have z18 : ∀ j, c0T 6 18 j = -1 ∨ c0T 6 18 j = 0 := fun j => by
    rw [c0_18]
    show (if j < 6 then (-1 : Int) else 0) = -1 ∨ (if j < 6 then (-1 : Int) else 0) = 0
    split <;> omega
  unfold WF
  simp only [z 0 (by decide), z 1 (by decide), z 2 (by decide), z 3 (by decide), z 4 (by decide), z 5 (by decide), z 6 (by decide), z 7 (by decide), z 8 (by decide), z 9 (by decide), z 10 (by decide), z 11 (by decide), z 12 (by decide), z 13 (by decide), z 14 (by decide), z 15 (by decide), z 16 (by decide), z 17 (by decide)]
  simp only [show sc0 0 = 0 from rfl, show sc0 1 = 0 from rfl, show sc0 2 = 0 from rfl, show sc0 3 = 0 from rfl, show sc0 4 = 0 from rfl, show sc0 5 = 0 from rfl, show sc0 6 = 0 from rfl, show sc0 7 = 0 from rfl, show sc0 8 = 0 from rfl, show sc0 9 = 0 from rfl, show sc0 10 = 0 from rfl, show sc0 11 = 0 from rfl, show sc0 12 = 16 from rfl, show sc0 13 = 20 from rfl, show sc0 14 = 100 from rfl, show sc0 15 = 5 from rfl, show sc0 16 = 400 from rfl, show sc0 17 = 0 from rfl]
  refine ⟨by omega, by omega, by omega, by omega, by omega, by omega, by omega, fun i => ?_, fun q => ?_, fun w => ?_⟩
  · refine ⟨?_, ?_, ?_, ?_, ?_, ?_, ?_, ?_⟩ <;> intros <;> first | omega | simp
  · refine ⟨?_, ?_, ?_, ?_, ?_, ?_, ?_, ?_, ?_⟩ <;> intros <;> first | omega | simp
  · have := z18 w
    refine ⟨?_, ?_, ?_⟩ <;> first | omega | simp
/-- a world in the making: L lists what is made, o first -/
def FC (β : Wd) (o : Nat) (L : List (Nat × va_E)) (σ : Wd) : Prop :=
  (∀ (i a : Nat) (e : va_E), L[i]? = some (a, e) → σ a = some e ∧ (a ≠ o → β a = none)) ∧ (∀ (i j a : Nat) (e e' : va_E), L[i]? = some (a, e) → L[j]? = some (a, e') → i = j) ∧ (∃ (i : Nat) (e : va_E), L[i]? = some (o, e)) ∧ ∀ a : Nat, (∀ (i b : Nat) (e : va_E), L[i]? = some (b, e) → a ≠ b) → σ a = β a
theorem FC.at {β : Wd} {o : Nat} {L : List (Nat × va_E)} {σ : Wd} (h : FC β o L σ) (i : Nat) {a : Nat} {e : va_E} (hi : L[i]? = some (a, e)) : σ a = some e := (h.1 i a e hi).1
theorem FC.set {β : Wd} {o : Nat} {L L' : List (Nat × va_E)} {σ σ' : Wd} (h : FC β o L σ) (i : Nat) {a : Nat} {e0 e : va_E} (hi : L[i]? = some (a, e0)) (h1 : σ' a = some e) (h2 : ∀ q, q ≠ a → σ' q = σ q) (hL : L.set i (a, e) = L') : FC β o L' σ' := by
  subst hL
  obtain ⟨g1, g2, g3, g4⟩ := h
  have hl := (List.getElem?_eq_some_iff.mp hi).1
  have G : ∀ (j b : Nat) (f : va_E), (L.set i (a, e))[j]? = some (b, f) → (j = i ∧ b = a ∧ f = e) ∨ (j ≠ i ∧ L[j]? = some (b, f)) := fun j b f hj => by
    by_cases q : j = i
    · subst q
      rw [List.getElem?_set_self hl] at hj
      cases hj
      exact Or.inl ⟨rfl, rfl, rfl⟩
    · rw [List.getElem?_set_ne (fun z => q z.symm)] at hj
      exact Or.inr ⟨q, hj⟩
  refine ⟨fun j b f hj => ?_, fun j k b f f' hj hk => ?_, ?_, fun b hb => ?_⟩
  · rcases G j b f hj with ⟨q1, q2, q3⟩ | ⟨q1, q2⟩
    · rw [q2, q3]
      exact ⟨h1, (g1 i a e0 hi).2⟩
    · have hba : b ≠ a := fun z => by rw [z] at q2; exact q1 (g2 j i a f e0 q2 hi)
      exact ⟨by rw [h2 b hba]; exact (g1 j b f q2).1, (g1 j b f q2).2⟩
  · rcases G j b f hj with ⟨q1, q2, q3⟩ | ⟨q1, q2⟩ <;> rcases G k b f' hk with ⟨r1, r2, r3⟩ | ⟨r1, r2⟩
    · rw [q1, r1]
    · rw [q2] at r2
      exact absurd (g2 k i a f' e0 r2 hi) r1
    · rw [r2] at q2
      exact absurd (g2 j i a f e0 q2 hi) q1
    · exact g2 j k b f f' q2 r2
  · obtain ⟨j, f, hj⟩ := g3
    by_cases q : j = i
    · subst q
      rw [hi] at hj
      cases hj
      exact ⟨j, e, List.getElem?_set_self hl⟩
    · exact ⟨j, f, by rw [List.getElem?_set_ne (fun z => q z.symm)]; exact hj⟩
  · have hba : b ≠ a := hb i a e (List.getElem?_set_self hl)
    rw [h2 b hba]
    refine g4 b (fun j d f hj => ?_)
    by_cases q : j = i
    · subst q
      rw [hi] at hj
      cases hj
      exact hba
    · exact hb j d f (by rw [List.getElem?_set_ne (fun z => q z.symm)]; exact hj)
theorem FC.push {β : Wd} {o : Nat} {L L' : List (Nat × va_E)} {σ σ' : Wd} (h : FC β o L σ) {q : Nat} {e : va_E} (hq : σ q = none) (h1 : σ' q = some e) (h2 : ∀ a, a ≠ q → σ' a = σ a) (hL : L ++ [(q, e)] = L') : FC β o L' σ' := by
  subst hL
  obtain ⟨g1, g2, g3, g4⟩ := h
  have G : ∀ (j b : Nat) (f : va_E), (L ++ [(q, e)])[j]? = some (b, f) → (j = L.length ∧ b = q ∧ f = e) ∨ L[j]? = some (b, f) := fun j b f hj => by
    by_cases z : j < L.length
    · rw [List.getElem?_append_left z] at hj
      exact Or.inr hj
    · rw [List.getElem?_append_right (by omega)] at hj
      by_cases y : j - L.length = 0
      · rw [y] at hj
        cases hj
        exact Or.inl ⟨by omega, rfl, rfl⟩
      · obtain ⟨k, hk⟩ : ∃ k, j - L.length = k + 1 := ⟨j - L.length - 1, by omega⟩
        rw [hk] at hj
        cases hj
  have G2 : ∀ (j b : Nat) (f : va_E), L[j]? = some (b, f) → (L ++ [(q, e)])[j]? = some (b, f) := fun j b f hj => by
    rw [List.getElem?_append_left (List.getElem?_eq_some_iff.mp hj).1]
    exact hj
  have G3 : (L ++ [(q, e)])[L.length]? = some (q, e) := by
    rw [List.getElem?_append_right (Nat.le_refl _), Nat.sub_self]
    rfl
  have N1 : ∀ (j b : Nat) (f : va_E), L[j]? = some (b, f) → b ≠ q := fun j b f hj z => by
    have := (g1 j b f hj).1
    rw [z, hq] at this
    cases this
  refine ⟨fun j b f hj => ?_, fun j k b f f' hj hk => ?_, ?_, fun b hb => ?_⟩
  · rcases G j b f hj with ⟨-, q2, q3⟩ | q2
    · rw [q2, q3]
      exact ⟨h1, fun _ => by rw [← g4 q (fun i d f2 hd z => N1 i d f2 hd z.symm)]; exact hq⟩
    · exact ⟨by rw [h2 b (N1 j b f q2)]; exact (g1 j b f q2).1, (g1 j b f q2).2⟩
  · rcases G j b f hj with ⟨q1, q2, q3⟩ | q2 <;> rcases G k b f' hk with ⟨r1, r2, r3⟩ | r2
    · rw [q1, r1]
    · exact absurd q2 (N1 k b f' r2)
    · exact absurd r2 (N1 j b f q2)
    · exact g2 j k b f f' q2 r2
  · obtain ⟨j, f, hj⟩ := g3
    exact ⟨j, f, G2 j o f hj⟩
  · rw [h2 b (hb _ _ _ G3)]
    exact g4 b (fun j d f hj => hb j d f (G2 j d f hj))
theorem FC.one {β : Wd} {o : Nat} {e : va_E} (h : β o = some e) : FC β o [(o, e)] β := by
  have G : ∀ (j b : Nat) (f : va_E), [(o, e)][j]? = some (b, f) → j = 0 ∧ b = o ∧ f = e := fun j b f hj => by
    cases j with
    | zero => cases hj; exact ⟨rfl, rfl, rfl⟩
    | succ j => cases hj
  refine ⟨fun j b f hj => ?_, fun j k b f f' hj hk => by rw [(G j b f hj).1, (G k b f' hk).1], ⟨0, e, rfl⟩, fun _ _ => rfl⟩
  obtain ⟨-, q2, q3⟩ := G j b f hj
  rw [q2, q3]
  exact ⟨h, fun z => absurd rfl z⟩
theorem c0_upI (i : Nat) : upI (c0T i 18) i (-1) = c0T (i + 1) 18 := by
  rw [← tu_row, c0_up]
def shZ (x l0 l1 l2 z s r : Nat) : ShT := (fun m => match m with
  | 0 => x
  | 1 => l0
  | 2 => l1
  | 3 => l2
  | 4 => z
  | 5 => s
  | _ => r, fun _ _ => none, fun _ => 0, fun _ => 0, fun _ _ => -1, fun _ => 0)
abbrev fcL (κ : KG) (x l0 l1 l2 z s r : Nat) (i : Nat) : List (Nat × va_E) := [(x, .inr (5, [.ref l0, .ref l1, .ref l2, .ref z, .ref s, iv 16, iv 20, iv 100, iv 5, iv 400])), (l0, .inr (2, [iv 0, .ref r, iv 0])), (l1, .inr (2, [iv 0, .ref r, iv 0])), (l2, .inr (2, [iv 0, .ref r, iv 0])), (z, eZ κ 6 (fun _ => 0)), (s, eI κ 6 (c0T i 18))]
theorem fc_done {g : Gx} {β σ : Wd} {x l0 l1 l2 z s : Nat} (h : FC β x (fcL g.2.1 x l0 l1 l2 z s g.2.2.1 6) σ) : ∃ A : ShT, shA A 0 = x ∧ CW g.2.1 A (c0T 6) (fun _ _ => 0) σ ∧ CI g (c0T 6) A ∧ (∀ a, ownQ A (c0T 6) a → a = x ∨ β a = none) ∧ ∀ a, ¬ ownQ A (c0T 6) a → σ a = β a := by
  have e0 : c0T 6 0 0 = 0 := rfl
  have e6 : c0T 6 6 0 = 0 := rfl
  have e17 : c0T 6 17 = fun _ => 0 := rfl
  have lv : ∀ m, LV (shZ x l0 l1 l2 z s g.2.2.1) (c0T 6) m → m ≤ 5 := fun m hm => by
    unfold LV at hm
    rw [e0, e6] at hm
    have : shC (shZ x l0 l1 l2 z s g.2.2.1) (m - 6) = 0 := rfl
    rw [this] at hm
    omega
  have at5 : ∀ m, m ≤ 5 → ∃ e, (fcL g.2.1 x l0 l1 l2 z s g.2.2.1 6)[m]? = some (shA (shZ x l0 l1 l2 z s g.2.2.1) m, e) := fun m hm => by
    match m, hm with
    | 0, _ => exact ⟨_, rfl⟩
    | 1, _ => exact ⟨_, rfl⟩
    | 2, _ => exact ⟨_, rfl⟩
    | 3, _ => exact ⟨_, rfl⟩
    | 4, _ => exact ⟨_, rfl⟩
    | 5, _ => exact ⟨_, rfl⟩
    | m + 6, hm => exfalso; omega
  have inv : ∀ (i b : Nat) (e : va_E), (fcL g.2.1 x l0 l1 l2 z s g.2.2.1 6)[i]? = some (b, e) → i ≤ 5 ∧ b = shA (shZ x l0 l1 l2 z s g.2.2.1) i := fun i b e hi => by
    have hl := (List.getElem?_eq_some_iff.mp hi).1
    have hl2 : i ≤ 5 := by
      have : (fcL g.2.1 x l0 l1 l2 z s g.2.2.1 6).length = 6 := rfl
      omega
    obtain ⟨e', he⟩ := at5 i hl2
    rw [hi] at he
    cases he
    exact ⟨hl2, rfl⟩
  refine ⟨shZ x l0 l1 l2 z s g.2.2.1, rfl, ⟨h.at 0 rfl, fun j hj => ?_, h.at 4 rfl, h.at 5 rfl, fun j hj hc => ?_, fun i hi => ?_, fun q hq => ?_⟩, ⟨fun m m' l l' hz => ?_, fun i hi => ?_, fun q hq => ?_, fun k hk => ?_, fun k l hk hl => ?_, fun q hq => ?_, fun j hj => ⟨?_, Nat.zero_le _, fun _ => ?_⟩, fun i b hi => ?_⟩, fun a ha => ?_, fun a ha => ?_⟩
  · match j, hj with
    | 0, _ => exact h.at 1 rfl
    | 1, _ => exact h.at 2 rfl
    | 2, _ => exact h.at 3 rfl
    | j + 3, hj => exfalso; omega
  · exact absurd hc (by show ¬ 1 ≤ 0; omega)
  · rw [e0] at hi; omega
  · rw [e6] at hq; omega
  · obtain ⟨e, he⟩ := at5 m (lv m l)
    obtain ⟨e', he'⟩ := at5 m' (lv m' l')
    rw [hz] at he
    exact h.2.1 m m' _ e e' he he'
  · rw [e0] at hi; omega
  · rw [e6] at hq; omega
  · rw [e6] at hk; omega
  · rw [e6] at hl; omega
  · rw [e6] at hq; omega
  · unfold nL3
    rw [e0, e6]
    split <;> exact Int.le_refl 0
  · match j, hj with
    | 0, _ => rfl
    | 1, _ => rfl
    | 2, _ => rfl
    | j + 3, hj => exfalso; omega
  · rw [e0] at hi; omega
  · obtain ⟨m, l, rfl⟩ := ha
    obtain ⟨e, he⟩ := at5 m (lv m l)
    by_cases q : shA (shZ x l0 l1 l2 z s g.2.2.1) m = x
    · exact Or.inl q
    · exact Or.inr ((h.1 m _ e he).2 q)
  · refine h.2.2.2 a (fun i b e hi hz => ha ?_)
    obtain ⟨h5, hb⟩ := inv i b e hi
    exact ⟨i, Or.inl h5, hz.trans hb⟩
end KC
/-! the object and the law's rows, one after another -/
section PJ
def PJ (g : Gx) (x : Nat) (c : Tb) (S : List Nat) (σ : Wd) : Prop := ∃ (A : ShT) (D : Tb), shA A 0 = x ∧ CB g.2.1 A σ c D σ ∧ CI g c A ∧ WF c ∧ ∀ a ∈ S, ¬ ownQ A c a
theorem PJ.new {g : Gx} {x q : Nat} {c : Tb} {S : List Nat} {σ σ' : Wd} (h : PJ g x c S σ) (hq : σ q = none) (h3 : ∀ b, b ≠ q → σ' b = σ b) : PJ g x c (q :: S) σ' := by
  obtain ⟨A, D, hx, hM, hI, hw, hS⟩ := h
  have hn : ¬ ownQ A c q := fun ⟨m, l, z⟩ => hM.1.some hw l (by rw [← z]; exact hq)
  refine ⟨A, D, hx, ⟨hM.1.eqv hw (fun m l => h3 _ (fun z => hn ⟨m, l, z.symm⟩)), fun _ _ => rfl, hM.2.2⟩, hI, hw, fun a ha => ?_⟩
  rcases List.mem_cons.mp ha with rfl | ha
  · exact hn
  · exact hS a ha
theorem SJ.start {g : Gx} {x am aq ac az : Nat} {σ : Wd} {fc : Nat → Int} (h : PJ g x (c0T 6) [az, ac, aq, am] σ) (hdis : DIS am aq ac az) (hm : σ am = some (eI g.2.1 24 (fun _ => 0))) (hq : σ aq = some (eI g.2.1 24 (fun _ => 0))) (hc : σ ac = some (eI g.2.1 8 fc)) (hz : σ az = some (eI g.2.1 6 (fun _ => 0))) (h0 : fc 0 = 0) (h1 : fc 1 = 0) (h2 : fc 2 = 16) (h3 : fc 3 = 20) (h4 : fc 4 = 100) (h5 : fc 5 = 5) (h6 : fc 6 = 400) (h7 : fc 7 = 0) : SJ g x am aq ac az (c0T 6) (c0T 6) σ := by
  obtain ⟨A, D, hx, hM, hI, hw, hS⟩ := h
  have e0 : c0T 6 0 0 = 0 := rfl
  have e6 : c0T 6 6 0 = 0 := rfl
  refine ⟨hdis, ⟨A, D, hx, hM, hI, hw, fun a ha => hS a ?_⟩, ⟨_, fun i hi => ?_, hm⟩, ⟨_, fun k hk => ?_, hq⟩, ⟨_, ⟨h0, h1, h2, h3, h4, h5, h6, h7⟩, hc⟩, _, fun w hw6 => ?_, hz⟩
  · rcases ha with rfl | rfl | rfl | rfl
    · exact List.mem_cons_of_mem _ (List.mem_cons_of_mem _ (List.mem_cons_of_mem _ List.mem_cons_self))
    · exact List.mem_cons_of_mem _ (List.mem_cons_of_mem _ List.mem_cons_self)
    · exact List.mem_cons_of_mem _ List.mem_cons_self
    · exact List.mem_cons_self
  · rw [e0] at hi; omega
  · rw [e6] at hk; omega
  · rw [c0_18]
    show (0 : Int) = (if w < 6 then -1 else 0) + 1
    rw [if_pos hw6]
    rfl
theorem PJ.wr {g : Gx} {x a : Nat} {c : Tb} {S : List Nat} {σ σ' : Wd} (h : PJ g x c S σ) (ha : a ∈ S) (h3 : ∀ b, b ≠ a → σ' b = σ b) : PJ g x c S σ' := by
  obtain ⟨A, D, hx, hM, hI, hw, hS⟩ := h
  exact ⟨A, D, hx, ⟨hM.1.eqv hw (fun m l => h3 _ (fun z => hS a ha ⟨m, l, z.symm⟩)), fun _ _ => rfl, hM.2.2⟩, hI, hw, hS⟩
end PJ
