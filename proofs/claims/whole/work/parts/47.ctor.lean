/-! constructors: the reference's object in its making, the first table -/
section KC
def sc0 (k : Nat) : Int := match k with
  | 12 => 16
  | 13 => 20
  | 14 => 100
  | 15 => 5
  | 16 => 400
  | _ => 0
/-- what a new object holds, the first i substitutes none -/
def c0T (i : Nat) : Tb := fun k j => if k = 18 then (if j < i then -1 else 0) else sc0 k
theorem c0_up (i : Nat) : tu (c0T i) 18 i (-1) = c0T (i + 1) := by
  funext k j
  unfold tu c0T
  by_cases h : k = 18
  · by_cases h2 : j = i
    · rw [if_pos ⟨h, h2⟩, if_pos h, if_pos (by omega)]
    · rw [if_neg (fun z => h2 z.2), if_pos h, if_pos h]
      by_cases h3 : j < i
      · rw [if_pos h3, if_pos (by omega)]
      · rw [if_neg h3, if_neg (by omega)]
  · rw [if_neg (fun z => h z.1), if_neg h, if_neg h]
theorem sc0_19 {k : Nat} (h : 19 ≤ k) : sc0 k = 0 := by
  unfold sc0
  split <;> first | rfl | omega
theorem c0_cut (i : Nat) : cut (c0T i) = c0T i := by
  funext k j
  unfold cut
  split
  · rfl
  · unfold c0T
    rw [if_neg (by omega), sc0_19 (by omega)]
theorem c0_z {i k : Nat} (h : k ≠ 18) (j : Nat) : c0T i k j = sc0 k := if_neg h
theorem c0_18 (i : Nat) : c0T i 18 = fun j => if j < i then -1 else 0 := by
  funext j
  exact if_pos rfl
theorem c0_WF : WF (c0T 6) := by
  have z : ∀ k, k ≠ 18 → ∀ j, c0T 6 k j = sc0 k := fun k h j => if_neg h
  have z18 : ∀ j, c0T 6 18 j = -1 ∨ c0T 6 18 j = 0 := fun j => by
    rw [c0_18]
    show (if j < 6 then (-1 : Int) else 0) = -1 ∨ (if j < 6 then (-1 : Int) else 0) = 0
    split <;> omega
  unfold WF
  simp only [z 0 (by decide), z 1 (by decide), z 2 (by decide), z 3 (by decide), z 4 (by decide), z 5 (by decide), z 6 (by decide), z 7 (by decide), z 8 (by decide), z 9 (by decide), z 10 (by decide), z 11 (by decide), z 12 (by decide), z 13 (by decide), z 14 (by decide), z 15 (by decide), z 16 (by decide), z 17 (by decide)]
  simp only [show sc0 0 = 0 from rfl, show sc0 1 = 0 from rfl, show sc0 2 = 0 from rfl, show sc0 3 = 0 from rfl, show sc0 4 = 0 from rfl, show sc0 5 = 0 from rfl, show sc0 6 = 0 from rfl, show sc0 7 = 0 from rfl, show sc0 8 = 0 from rfl, show sc0 9 = 0 from rfl, show sc0 10 = 0 from rfl, show sc0 11 = 0 from rfl, show sc0 12 = 16 from rfl, show sc0 13 = 20 from rfl, show sc0 14 = 100 from rfl, show sc0 15 = 5 from rfl, show sc0 16 = 400 from rfl, show sc0 17 = 0 from rfl]
  refine ⟨by omega, by omega, by omega, by omega, by omega, by omega, by omega, fun i => ?_, fun q => ?_, fun w => ?_⟩
  · refine ⟨?_, ?_, ?_, ?_, ?_, ?_, ?_, ?_⟩ <;> intros <;> first | omega | simp
  · refine ⟨?_, ?_, ?_, ?_, ?_, ?_, ?_, ?_, ?_⟩ <;> intros <;> first | omega | simp
  · have := z18 w
    refine ⟨?_, ?_, ?_⟩ <;> first | omega | simp
theorem isA_lt {k : Nat} (h : isA k = true) : k < 27 := by
  unfold isA at h
  split at h
  all_goals first | (cases h; done) | exact Nat.le_of_ble_eq_true h
def upN (ar : Nat → Nat) (k q : Nat) : Nat → Nat := fun j => bif Nat.beq j k then q else ar j
theorem upN_s (ar : Nat → Nat) (k q : Nat) : upN ar k q k = q := by
  unfold upN
  cases hb : Nat.beq k k with
  | true => rfl
  | false => exact absurd rfl (Nat.ne_of_beq_eq_false hb)
theorem upN_n {ar : Nat → Nat} {k q j : Nat} (h : j ≠ k) : upN ar k q j = ar j := by
  unfold upN
  cases hb : Nat.beq j k with
  | true => exact absurd (Nat.eq_of_beq_eq_true hb) h
  | false => rfl
/-- the reference's object in its making: the rows of S made -/
def MC (κ : KG) (o : Nat) (ar : Nat → Nat) (β : Wd) (fs : List Value) (S : List Nat) (σ : Wd) : Prop :=
  σ o = some (.inr (6, fs)) ∧ (∀ k, k ∈ S → σ (ar k) = some (aEnt κ k (fun _ => 0)) ∧ ar k ≠ o ∧ β (ar k) = none) ∧ (∀ k, k ∈ S → ∀ j, j ∈ S → ar k = ar j → k = j) ∧ ∀ a, a ≠ o → (∀ k, k ∈ S → a ≠ ar k) → σ a = β a
theorem MC.put {κ : KG} {o : Nat} {ar : Nat → Nat} {β : Wd} {fs fs' : List Value} {S : List Nat} {σ : Wd} (h : MC κ o ar β fs S σ) : MC κ o ar β fs' S (wup σ o (.inr (6, fs'))) := by
  obtain ⟨h1, h2, h3, h4⟩ := h
  refine ⟨wup_s .., fun k hk => ?_, h3, fun a ha hS => ?_⟩
  · obtain ⟨a1, a2, a3⟩ := h2 k hk
    exact ⟨by rw [wup_n a2]; exact a1, a2, a3⟩
  · rw [wup_n ha]
    exact h4 a ha hS
theorem MC.push {κ : KG} {o : Nat} {ar : Nat → Nat} {β : Wd} {fs : List Value} {S : List Nat} {σ : Wd} (h : MC κ o ar β fs S σ) {q j : Nat} (hq : σ q = none) (hj : j ∉ S) : MC κ o (upN ar j q) β fs (j :: S) (wup σ q (aEnt κ j (fun _ => 0))) := by
  obtain ⟨h1, h2, h3, h4⟩ := h
  have qo : q ≠ o := fun z => by rw [z, h1] at hq; cases hq
  have qk : ∀ k, k ∈ S → ar k ≠ q := fun k hk z => by
    have := (h2 k hk).1
    rw [z, hq] at this
    cases this
  have kj : ∀ k, k ∈ S → k ≠ j := fun k hk z => hj (z ▸ hk)
  refine ⟨by rw [wup_n qo.symm]; exact h1, fun k hk => ?_, fun k hk i hi hz => ?_, fun a ha hS => ?_⟩
  · rcases List.mem_cons.mp hk with z | hk
    · subst z
      rw [upN_s]
      exact ⟨wup_s .., qo, by rw [← h4 q qo (fun k hk z => qk k hk z.symm)]; exact hq⟩
    · rw [upN_n (kj k hk), wup_n (qk k hk)]
      exact h2 k hk
  · rcases List.mem_cons.mp hk with z | hk <;> rcases List.mem_cons.mp hi with y | hi
    · rw [z, y]
    · rw [z, upN_s, upN_n (kj i hi)] at hz
      exact absurd hz.symm (qk i hi)
    · rw [y, upN_s, upN_n (kj k hk)] at hz
      exact absurd hz (qk k hk)
    · rw [upN_n (kj k hk), upN_n (kj i hi)] at hz
      exact h3 k hk i hi hz
  · have aq : a ≠ q := fun z => hS j List.mem_cons_self (by rw [upN_s]; exact z)
    rw [wup_n aq]
    exact h4 a ha (fun k hk z => hS k (List.mem_cons_of_mem _ hk) (by rw [upN_n (kj k hk)]; exact z))
theorem MC.done {κ : KG} {o : Nat} {ar : Nat → Nat} {β : Wd} {fs : List Value} {S : List Nat} {σ : Wd} {M : Tb} (h : MC κ o ar β fs S σ) (hS : ∀ k, isA k = true → k ∈ S) (hS2 : ∀ k, k ∈ S → isA k = true) (hf : fs = rfs ar M) (hM : ∀ k, isA k = true → M k = fun _ => 0) : RI o ar ∧ MW κ o ar β M σ ∧ ∀ k, isA k = true → β (ar k) = none := by
  obtain ⟨h1, h2, h3, h4⟩ := h
  refine ⟨⟨fun k hk => (h2 k (hS k hk)).2.1, fun k j hk hj z => h3 k (hS k hk) j (hS j hj) z⟩, ⟨by rw [← hf]; exact h1, fun k hk => ?_, fun a ha hb => h4 a ha (fun k hk => hb k (hS2 k hk))⟩, fun k hk => (h2 k (hS k hk)).2.2⟩
  rw [hM k hk]
  exact (h2 k (hS k hk)).1
section Rows
variable {g : Gx} {Φ : Fx} {cc : ByteArray} {own : String} {ret : Option FieldType} {d mc ms k n : Nat} {σ β : Wd} {pc : Nat} {lv : List (Nat × Value)} {st : List Value} {o : Nat} {ar : Nat → Nat} {fs : List Value} {S : List Nat}
theorem mc_newI (C : Ok g Φ cc own ret d mc ms) (h : MC g.2.1 o ar β fs S σ) (j : Nat) {M : Nat} (hj : j ∉ S) (hZ : isZ j = false) (hl : aLen j = M) (hM : M ≤ 100000) (hw : Cond.arrayClass .int ∈ GT) (h1 : k + 1 ≤ mc) (h2 : n + M ≤ ms) (hd : decode cc pc = .ok (.newarray .int, 2)) (K : ∀ (q : Nat) (σ' : Wd), MC g.2.1 o (upN ar j q) β fs (j :: S) σ' → N Φ (k + 1) (n + M) σ' (pc + 2) lv (.ref q :: st)) : N Φ k n σ pc lv (iv M :: st) :=
  n_newI C hM hw h1 h2 hd (fun q hq => K q _ (by
    have := h.push hq hj
    rw [aEnt_I hZ, hl] at this
    exact this))
theorem mc_newZ (C : Ok g Φ cc own ret d mc ms) (h : MC g.2.1 o ar β fs S σ) (j : Nat) {M : Nat} (hj : j ∉ S) (hZ : isZ j = true) (hl : aLen j = M) (hM : M ≤ 100000) (hw : Cond.arrayClass .boolean ∈ GT) (h1 : k + 1 ≤ mc) (h2 : n + M ≤ ms) (hd : decode cc pc = .ok (.newarray .boolean, 2)) (K : ∀ (q : Nat) (σ' : Wd), MC g.2.1 o (upN ar j q) β fs (j :: S) σ' → N Φ (k + 1) (n + M) σ' (pc + 2) lv (.ref q :: st)) : N Φ k n σ pc lv (iv M :: st) :=
  n_newZ C hM hw h1 h2 hd (fun q hq => K q _ (by
    have := h.push hq hj
    rw [aEnt_Z hZ, hl] at this
    exact this))
theorem mc_putF (C : Ok g Φ cc "OperaMachinesModel" ret d mc ms) (hinit : fY Φ = "<init>") (h : MC g.2.1 o ar β fs S σ) {idx : Nat} {v : Value} (j : Nat) (fs' : List Value) (hf : fs.set j v = fs') (hj : j < 27) (hw : Cond.fieldLink "OperaMachinesModel" idx "OperaMachinesModel" (TX3 j).2.1 (TX3 j).2.2.1 ∈ GT) (hs : (TX3 j).1 = "OperaMachinesModel") (hfin : (TX3 j).2.2.2 = true) (hn : narrow (tyX3 j) v = v) (hf2 : fits (tyX3 j) v = true) (hlen : j < fs.length) (hd : decode cc pc = .ok (.putfield idx, 3)) (K : ∀ σ', MC g.2.1 o ar β fs' S σ' → N Φ k n σ' (pc + 3) lv st) : N Φ k n σ pc lv (v :: .ref o :: st) := by
  subst hf
  exact n_putF C hinit h.1 (show vwCl[6]? = some ("OperaMachinesModel", TX3, 27) from rfl) in3 tyX3 tyX3_ok nmX3 j hj hw hs hs hfin hn hf2 hlen hd (K _ h.put)
theorem mc_put (C : Ok g Φ cc "OperaMachinesModel" ret d mc ms) (h : MC g.2.1 o ar β fs S σ) {idx : Nat} {v : Value} (j : Nat) (fs' : List Value) (hf : fs.set j v = fs') (hj : j < 27) (hw : Cond.fieldLink "OperaMachinesModel" idx "OperaMachinesModel" (TX3 j).2.1 (TX3 j).2.2.1 ∈ GT) (hs : (TX3 j).1 = "OperaMachinesModel") (hfin : (TX3 j).2.2.2 = false) (hn : narrow (tyX3 j) v = v) (hf2 : fits (tyX3 j) v = true) (hlen : j < fs.length) (hd : decode cc pc = .ok (.putfield idx, 3)) (K : ∀ σ', MC g.2.1 o ar β fs' S σ' → N Φ k n σ' (pc + 3) lv st) : N Φ k n σ pc lv (v :: .ref o :: st) := by
  subst hf
  exact n_put C h.1 (show vwCl[6]? = some ("OperaMachinesModel", TX3, 27) from rfl) in3 tyX3 tyX3_ok nmX3 j hj hw hs hfin hn hf2 hlen hd (K _ h.put)
end Rows
/-- a world in the making: L lists what is made, o first -/
def FC (β : Wd) (o : Nat) (L : List (Nat × va_E)) (σ : Wd) : Prop :=
  (∀ (i a : Nat) (e : va_E), L[i]? = some (a, e) → σ a = some e ∧ (a ≠ o → β a = none)) ∧ (∀ (i j a : Nat) (e e' : va_E), L[i]? = some (a, e) → L[j]? = some (a, e') → i = j) ∧ (∃ (i : Nat) (e : va_E), L[i]? = some (o, e)) ∧ ∀ a : Nat, (∀ (i b : Nat) (e : va_E), L[i]? = some (b, e) → a ≠ b) → σ a = β a
theorem FC.at {β : Wd} {o : Nat} {L : List (Nat × va_E)} {σ : Wd} (h : FC β o L σ) (i : Nat) {a : Nat} {e : va_E} (hi : L[i]? = some (a, e)) : σ a = some e := (h.1 i a e hi).1
theorem FC.set {β : Wd} {o : Nat} {L L' : List (Nat × va_E)} {σ σ' : Wd} (h : FC β o L σ) (i : Nat) {a : Nat} {e0 e : va_E} (hi : L[i]? = some (a, e0)) (h1 : σ' a = some e) (h2 : ∀ q, q ≠ a → σ' q = σ q) (hL : L.set i (a, e) = L') : FC β o L' σ' := by
  subst hL
  obtain ⟨g1, g2, g3, g4⟩ := h
  have hl := (List.getElem?_eq_some_iff.mp hi).1
  have G : ∀ (j b : Nat) (f : va_E), (L.set i (a, e))[j]? = some (b, f) → (j = i ∧ b = a ∧ f = e) ∨ (j ≠ i ∧ L[j]? = some (b, f)) := fun j b f hj => by
    by_cases q : j = i
    · subst q
      rw [List.getElem?_set_self hl] at hj
      cases hj
      exact Or.inl ⟨rfl, rfl, rfl⟩
    · rw [List.getElem?_set_ne (fun z => q z.symm)] at hj
      exact Or.inr ⟨q, hj⟩
  refine ⟨fun j b f hj => ?_, fun j k b f f' hj hk => ?_, ?_, fun b hb => ?_⟩
  · rcases G j b f hj with ⟨q1, q2, q3⟩ | ⟨q1, q2⟩
    · rw [q2, q3]
      exact ⟨h1, (g1 i a e0 hi).2⟩
    · have hba : b ≠ a := fun z => by rw [z] at q2; exact q1 (g2 j i a f e0 q2 hi)
      exact ⟨by rw [h2 b hba]; exact (g1 j b f q2).1, (g1 j b f q2).2⟩
  · rcases G j b f hj with ⟨q1, q2, q3⟩ | ⟨q1, q2⟩ <;> rcases G k b f' hk with ⟨r1, r2, r3⟩ | ⟨r1, r2⟩
    · rw [q1, r1]
    · rw [q2] at r2
      exact absurd (g2 k i a f' e0 r2 hi) r1
    · rw [r2] at q2
      exact absurd (g2 j i a f e0 q2 hi) q1
    · exact g2 j k b f f' q2 r2
  · obtain ⟨j, f, hj⟩ := g3
    by_cases q : j = i
    · subst q
      rw [hi] at hj
      cases hj
      exact ⟨j, e, List.getElem?_set_self hl⟩
    · exact ⟨j, f, by rw [List.getElem?_set_ne (fun z => q z.symm)]; exact hj⟩
  · have hba : b ≠ a := hb i a e (List.getElem?_set_self hl)
    rw [h2 b hba]
    refine g4 b (fun j d f hj => ?_)
    by_cases q : j = i
    · subst q
      rw [hi] at hj
      cases hj
      exact hba
    · exact hb j d f (by rw [List.getElem?_set_ne (fun z => q z.symm)]; exact hj)
theorem FC.push {β : Wd} {o : Nat} {L L' : List (Nat × va_E)} {σ σ' : Wd} (h : FC β o L σ) {q : Nat} {e : va_E} (hq : σ q = none) (h1 : σ' q = some e) (h2 : ∀ a, a ≠ q → σ' a = σ a) (hL : L ++ [(q, e)] = L') : FC β o L' σ' := by
  subst hL
  obtain ⟨g1, g2, g3, g4⟩ := h
  have G : ∀ (j b : Nat) (f : va_E), (L ++ [(q, e)])[j]? = some (b, f) → (j = L.length ∧ b = q ∧ f = e) ∨ L[j]? = some (b, f) := fun j b f hj => by
    by_cases z : j < L.length
    · rw [List.getElem?_append_left z] at hj
      exact Or.inr hj
    · rw [List.getElem?_append_right (by omega)] at hj
      by_cases y : j - L.length = 0
      · rw [y] at hj
        cases hj
        exact Or.inl ⟨by omega, rfl, rfl⟩
      · obtain ⟨k, hk⟩ : ∃ k, j - L.length = k + 1 := ⟨j - L.length - 1, by omega⟩
        rw [hk] at hj
        cases hj
  have G2 : ∀ (j b : Nat) (f : va_E), L[j]? = some (b, f) → (L ++ [(q, e)])[j]? = some (b, f) := fun j b f hj => by
    rw [List.getElem?_append_left (List.getElem?_eq_some_iff.mp hj).1]
    exact hj
  have G3 : (L ++ [(q, e)])[L.length]? = some (q, e) := by
    rw [List.getElem?_append_right (Nat.le_refl _), Nat.sub_self]
    rfl
  have N1 : ∀ (j b : Nat) (f : va_E), L[j]? = some (b, f) → b ≠ q := fun j b f hj z => by
    have := (g1 j b f hj).1
    rw [z, hq] at this
    cases this
  refine ⟨fun j b f hj => ?_, fun j k b f f' hj hk => ?_, ?_, fun b hb => ?_⟩
  · rcases G j b f hj with ⟨-, q2, q3⟩ | q2
    · rw [q2, q3]
      exact ⟨h1, fun _ => by rw [← g4 q (fun i d f2 hd z => N1 i d f2 hd z.symm)]; exact hq⟩
    · exact ⟨by rw [h2 b (N1 j b f q2)]; exact (g1 j b f q2).1, (g1 j b f q2).2⟩
  · rcases G j b f hj with ⟨q1, q2, q3⟩ | q2 <;> rcases G k b f' hk with ⟨r1, r2, r3⟩ | r2
    · rw [q1, r1]
    · exact absurd q2 (N1 k b f' r2)
    · exact absurd r2 (N1 j b f q2)
    · exact g2 j k b f f' q2 r2
  · obtain ⟨j, f, hj⟩ := g3
    exact ⟨j, f, G2 j o f hj⟩
  · rw [h2 b (hb _ _ _ G3)]
    exact g4 b (fun j d f hj => hb j d f (G2 j d f hj))
theorem FC.one {β : Wd} {o : Nat} {e : va_E} (h : β o = some e) : FC β o [(o, e)] β := by
  have G : ∀ (j b : Nat) (f : va_E), [(o, e)][j]? = some (b, f) → j = 0 ∧ b = o ∧ f = e := fun j b f hj => by
    cases j with
    | zero => cases hj; exact ⟨rfl, rfl, rfl⟩
    | succ j => cases hj
  refine ⟨fun j b f hj => ?_, fun j k b f f' hj hk => by rw [(G j b f hj).1, (G k b f' hk).1], ⟨0, e, rfl⟩, fun _ _ => rfl⟩
  obtain ⟨-, q2, q3⟩ := G j b f hj
  rw [q2, q3]
  exact ⟨h, fun z => absurd rfl z⟩
theorem c0_upI (i : Nat) : upI (c0T i 18) i (-1) = c0T (i + 1) 18 := by
  rw [← tu_row, c0_up]
def shZ (x l0 l1 l2 z s r : Nat) : ShT := (fun m => match m with
  | 0 => x
  | 1 => l0
  | 2 => l1
  | 3 => l2
  | 4 => z
  | 5 => s
  | _ => r, fun _ _ => none, fun _ => 0, fun _ => 0, fun _ _ => -1, fun _ => 0)
abbrev fcL (κ : KG) (x l0 l1 l2 z s r : Nat) (i : Nat) : List (Nat × va_E) := [(x, .inr (5, [.ref l0, .ref l1, .ref l2, .ref z, .ref s, iv 16, iv 20, iv 100, iv 5, iv 400])), (l0, .inr (2, [iv 0, .ref r, iv 0])), (l1, .inr (2, [iv 0, .ref r, iv 0])), (l2, .inr (2, [iv 0, .ref r, iv 0])), (z, eZ κ 6 (fun _ => 0)), (s, eI κ 6 (c0T i 18))]
theorem fc_done {g : Gx} {β σ : Wd} {x l0 l1 l2 z s : Nat} (h : FC β x (fcL g.2.1 x l0 l1 l2 z s g.2.2.1 6) σ) : ∃ A : ShT, shA A 0 = x ∧ CW g.2.1 A (c0T 6) (fun _ _ => 0) σ ∧ CI g (c0T 6) A ∧ (∀ a, ownQ A (c0T 6) a → a = x ∨ β a = none) ∧ ∀ a, ¬ ownQ A (c0T 6) a → σ a = β a := by
  have e0 : c0T 6 0 0 = 0 := rfl
  have e6 : c0T 6 6 0 = 0 := rfl
  have e17 : c0T 6 17 = fun _ => 0 := rfl
  have lv : ∀ m, LV (shZ x l0 l1 l2 z s g.2.2.1) (c0T 6) m → m ≤ 5 := fun m hm => by
    unfold LV at hm
    rw [e0, e6] at hm
    have : shC (shZ x l0 l1 l2 z s g.2.2.1) (m - 6) = 0 := rfl
    rw [this] at hm
    omega
  have at5 : ∀ m, m ≤ 5 → ∃ e, (fcL g.2.1 x l0 l1 l2 z s g.2.2.1 6)[m]? = some (shA (shZ x l0 l1 l2 z s g.2.2.1) m, e) := fun m hm => by
    match m, hm with
    | 0, _ => exact ⟨_, rfl⟩
    | 1, _ => exact ⟨_, rfl⟩
    | 2, _ => exact ⟨_, rfl⟩
    | 3, _ => exact ⟨_, rfl⟩
    | 4, _ => exact ⟨_, rfl⟩
    | 5, _ => exact ⟨_, rfl⟩
    | m + 6, hm => exfalso; omega
  have inv : ∀ (i b : Nat) (e : va_E), (fcL g.2.1 x l0 l1 l2 z s g.2.2.1 6)[i]? = some (b, e) → i ≤ 5 ∧ b = shA (shZ x l0 l1 l2 z s g.2.2.1) i := fun i b e hi => by
    have hl := (List.getElem?_eq_some_iff.mp hi).1
    have hl2 : i ≤ 5 := by
      have : (fcL g.2.1 x l0 l1 l2 z s g.2.2.1 6).length = 6 := rfl
      omega
    obtain ⟨e', he⟩ := at5 i hl2
    rw [hi] at he
    cases he
    exact ⟨hl2, rfl⟩
  refine ⟨shZ x l0 l1 l2 z s g.2.2.1, rfl, ⟨h.at 0 rfl, fun j hj => ?_, h.at 4 rfl, h.at 5 rfl, fun j hj hc => ?_, fun i hi => ?_, fun q hq => ?_⟩, ⟨fun m m' l l' hz => ?_, fun i hi => ?_, fun q hq => ?_, fun k hk => ?_, fun k l hk hl => ?_, fun q hq => ?_, fun j hj => ⟨?_, Nat.zero_le _, fun _ => ?_⟩, fun i b hi => ?_⟩, fun a ha => ?_, fun a ha => ?_⟩
  · match j, hj with
    | 0, _ => exact h.at 1 rfl
    | 1, _ => exact h.at 2 rfl
    | 2, _ => exact h.at 3 rfl
    | j + 3, hj => exfalso; omega
  · exact absurd hc (by show ¬ 1 ≤ 0; omega)
  · rw [e0] at hi; omega
  · rw [e6] at hq; omega
  · obtain ⟨e, he⟩ := at5 m (lv m l)
    obtain ⟨e', he'⟩ := at5 m' (lv m' l')
    rw [hz] at he
    exact h.2.1 m m' _ e e' he he'
  · rw [e0] at hi; omega
  · rw [e6] at hq; omega
  · rw [e6] at hk; omega
  · rw [e6] at hl; omega
  · rw [e6] at hq; omega
  · unfold nL3
    rw [e0, e6]
    split <;> exact Int.le_refl 0
  · match j, hj with
    | 0, _ => rfl
    | 1, _ => rfl
    | 2, _ => rfl
    | j + 3, hj => exfalso; omega
  · rw [e0] at hi; omega
  · obtain ⟨m, l, rfl⟩ := ha
    obtain ⟨e, he⟩ := at5 m (lv m l)
    by_cases q : shA (shZ x l0 l1 l2 z s g.2.2.1) m = x
    · exact Or.inl q
    · exact Or.inr ((h.1 m _ e he).2 q)
  · refine h.2.2.2 a (fun i b e hi hz => ha ?_)
    obtain ⟨h5, hb⟩ := inv i b e hi
    exact ⟨i, Or.inl h5, hz.trans hb⟩
end KC
