/-! worlds are functions from addresses; a walk over them: every later row speaks of them alone -/
section NK1
abbrev Wd : Type := Nat → Option va_E
def wup (σ : Wd) (a : Nat) (e : va_E) : Wd := fun q => if q = a then some e else σ q
theorem wup_s (σ : Wd) (a : Nat) (e : va_E) : wup σ a e a = some e := if_pos rfl
theorem wup_n {σ : Wd} {a q : Nat} {e : va_E} (h : q ≠ a) : wup σ a e q = σ q := if_neg h
def wR (σ : Wd) (ws : va_W) : Prop := ∀ (a : Nat) (e : va_E), σ a = some e ↔ (a, e) ∈ ws
theorem wR.cell {σ : Wd} {ws : va_W} {a : Nat} {e : va_E} (h : wR σ ws) (ha : σ a = some e) : ∃ k : Nat, ws[k]? = some (a, e) := List.getElem?_of_mem ((h a e).mp ha)
theorem wR.set {A : Nat → Prop} {σ : Wd} {ws : va_W} {a k : Nat} {e0 e : va_E} (h : wR σ ws) (hD : va_D A ws) (hk : ws[k]? = some (a, e0)) : wR (wup σ a e) (ws.set k (a, e)) := by
  intro b f
  have hl := (List.getElem?_eq_some_iff.mp hk).1
  constructor
  · intro hb
    by_cases hba : b = a
    · subst hba
      rw [wup_s] at hb
      cases hb
      exact List.mem_of_getElem? (i := k) (List.getElem?_set_self hl)
    · rw [wup_n hba] at hb
      obtain ⟨j, hj⟩ := h.cell hb
      have hjk : k ≠ j := fun q => by
        subst q
        rw [hk] at hj
        cases hj
        exact hba rfl
      exact List.mem_of_getElem? (i := j) (by rw [List.getElem?_set_ne hjk]; exact hj)
  · intro hb
    obtain ⟨j, hj⟩ := List.getElem?_of_mem hb
    by_cases hjk : k = j
    · subst hjk
      rw [List.getElem?_set_self hl] at hj
      cases hj
      exact wup_s ..
    · rw [List.getElem?_set_ne hjk] at hj
      have hba : b ≠ a := fun q => hjk (hD.1 k j (a, e0) (b, f) hk hj q.symm)
      rw [wup_n hba]
      exact (h b f).mpr (List.mem_of_getElem? hj)
theorem wR.push {A : Nat → Prop} {σ : Wd} {ws : va_W} {q : Nat} {e : va_E} (h : wR σ ws) (hD : va_D A (ws ++ [(q, e)])) : wR (wup σ q e) (ws ++ [(q, e)]) := by
  have hq : (ws ++ [(q, e)])[ws.length]? = some (q, e) := by rw [List.getElem?_append_right (Nat.le_refl _), Nat.sub_self]; rfl
  intro b f
  constructor
  · intro hb
    by_cases hba : b = q
    · subst hba
      rw [wup_s] at hb
      cases hb
      exact List.mem_append_right _ List.mem_cons_self
    · rw [wup_n hba] at hb
      exact List.mem_append_left _ ((h b f).mp hb)
  · intro hb
    rcases List.mem_append.mp hb with hb | hb
    · obtain ⟨j, hj⟩ := List.getElem?_of_mem hb
      have hl := (List.getElem?_eq_some_iff.mp hj).1
      have hba : b ≠ q := fun z => by
        have := hD.1 j ws.length (b, f) (q, e) (by rw [List.getElem?_append_left hl]; exact hj) hq z
        omega
      rw [wup_n hba]
      exact (h b f).mpr hb
    · have h1 := List.mem_singleton.mp hb
      cases h1
      exact wup_s ..
theorem wR.one {A : Nat → Prop} {σ : Wd} {ws : va_W} {a : Nat} {e : va_E} (h : wR σ ws) (hD : va_D A ws) (ha : σ a = some e) : A a := by
  obtain ⟨k, hk⟩ := h.cell ha
  exact hD.2 k _ hk
/-- the claim's tables: class numbers; of int[], boolean[], long[], Object[], Cue[] -/
abbrev KG : Type := va_G × ClassId × ClassId × ClassId × ClassId × ClassId
def kI (κ : KG) : ClassId := κ.2.1
def kZ (κ : KG) : ClassId := κ.2.2.1
def kJ (κ : KG) : ClassId := κ.2.2.2.1
def kO (κ : KG) : ClassId := κ.2.2.2.2.1
def kC (κ : KG) : ClassId := κ.2.2.2.2.2
def kT (κ : KG) : List (ClassId × FieldType) := [(kI κ, .int), (kZ κ, .boolean), (kI κ, .int), (kO κ, .object "java/lang/Object"), (kC κ, .object "OperaMachines$Cue")]
/-- whole numbers as the machine holds them -/
def iI (x : Int) : Int32 := Int32.ofInt x
def iv (x : Int) : Value := .int (iI x)
def rg (x : Int) : Prop := -2147483648 ≤ x ∧ x < 2147483648
theorem iI_t {x : Int} (h : rg x) : (iI x).toInt = x := Int32.toInt_ofInt_of_le (by unfold rg at h; omega) (by unfold rg at h; omega)
theorem iI_o (x : Int32) : iI x.toInt = x := Int32.ofInt_toInt x
theorem rg_t (x : Int32) : rg x.toInt := ⟨by have := Int32.le_toInt x; omega, by have := Int32.toInt_lt x; omega⟩
theorem iI_c {x : Int} (h : rg x) : (iI x).toNatClampNeg = x.toNat := by
  show (iI x).toInt.toNat = _
  rw [iI_t h]
theorem iI_add (a b : Int) : iI a + iI b = iI (a + b) := (Int32.ofInt_add a b).symm
theorem iI_sub (a b : Int) : iI a - iI b = iI (a - b) := (Int32.ofInt_sub a b).symm
theorem iI_mul (a b : Int) : iI a * iI b = iI (a * b) := (Int32.ofInt_mul a b).symm
theorem iI_neg (a : Int) : - iI a = iI (-a) := (Int32.ofInt_neg a).symm
theorem iI_lt {a b : Int} (ha : rg a) (hb : rg b) : iI a < iI b ↔ a < b := by rw [Int32.lt_iff_toInt_lt, iI_t ha, iI_t hb]
theorem iI_le {a b : Int} (ha : rg a) (hb : rg b) : iI a ≤ iI b ↔ a ≤ b := by rw [Int32.le_iff_toInt_le, iI_t ha, iI_t hb]
theorem iI_eq {a b : Int} (ha : rg a) (hb : rg b) : iI a = iI b ↔ a = b := by rw [← Int32.toInt_inj, iI_t ha, iI_t hb]
theorem iI_0 : iI 0 = 0 := rfl
theorem iI_n (n : Nat) : iI (n : Int) = nI n := Int32.ofInt_eq_ofNat
theorem rg_0 : rg 0 := by unfold rg; omega
theorem iI_in {x : Int} {n : Nat} (h0 : 0 ≤ x) (h : x < n) (hn : n < 2147483648) : vp_in (iI x) n := by
  have hr : rg x := by unfold rg; omega
  exact vp_in_iff.mpr ⟨by rw [iI_t hr]; exact h0, by rw [iI_t hr]; exact h⟩
theorem iI_div {a b : Int} (ha : rg a) (hb : rg b) (h : b ≠ -1) : iI a / iI b = iI (a.tdiv b) := by
  have hne : iI b ≠ -1 := fun q => h (by have h1 := congrArg Int32.toInt q; rw [iI_t hb] at h1; exact h1)
  have h1 := Int32.toInt_div_of_ne_right (iI a) (iI b) hne
  rw [iI_t ha, iI_t hb] at h1
  rw [← h1, iI_o]
theorem iI_rem {a b : Int} (ha : rg a) (hb : rg b) (h : b ≠ -1) : iI a - iI a / iI b * iI b = iI (a.tmod b) := by
  rw [iI_div ha hb h, iI_mul, iI_sub]
  congr 1
  have := Int.tdiv_mul_add_tmod a b
  omega
/-- array entries -/
def eI (κ : KG) (n : Nat) (f : Nat → Int) : va_E := .inl (kI κ, n, .inl (fun j => iI (f j)))
def eZ (κ : KG) (n : Nat) (f : Nat → Int) : va_E := .inl (kZ κ, n, .inl (fun j => iI (f j)))
def eJ (κ : KG) (n : Nat) (f : Nat → Int64) : va_E := .inl (kJ κ, n, .inr (.inl f))
def eO (κ : KG) (n : Nat) (f : Nat → Option Nat) : va_E := .inl (kO κ, n, .inr (.inr (.inr (.inr f))))
def eC (κ : KG) (n : Nat) (f : Nat → Option Nat) : va_E := .inl (kC κ, n, .inr (.inr (.inr (.inr f))))
def upI (f : Nat → Int) (k : Nat) (x : Int) : Nat → Int := fun j => if j = k then x else f j
theorem upI_s (f : Nat → Int) (k : Nat) (x : Int) : upI f k x k = x := if_pos rfl
theorem upI_n {f : Nat → Int} {k j : Nat} {x : Int} (h : j ≠ k) : upI f k x j = f j := if_neg h
theorem upI_c (f : Nat → Int) (k : Nat) (x : Int) : upd (fun j => iI (f j)) k (iI x) = fun j => iI (upI f k x j) := by
  funext j
  unfold upd upI
  split <;> rfl
theorem nar_z {x : Int} (h : x = 0 ∨ x = 1) : vp_nar .boolean (iI x) = iI x := by rcases h with rfl | rfl <;> rfl
/-- the locals, by number -/
def lk : List (Nat × Value) → Nat → Option Value
  | [], _ => none
  | (j, v) :: r, i => bif Nat.beq j i then some v else lk r i
theorem lk_at {ls : Array Slot} {nL : Nat} {lv : List (Nat × Value)} (h : lv_has ls nL lv) {i : Nat} {v : Value} (hk : lk lv i = some v) : ls[i]? = some (.val v) := by
  have h2 := h.2.2
  clear h
  induction lv with
  | nil => cases hk
  | cons q r ih =>
    obtain ⟨j, w⟩ := q
    unfold lk at hk
    cases hb : Nat.beq j i with
    | true =>
      rw [hb] at hk
      cases hk
      have := Nat.eq_of_beq_eq_true hb
      subst this
      exact h2 _ List.mem_cons_self
    | false =>
      rw [hb] at hk
      exact ih hk (fun q hq => h2 q (List.mem_cons_of_mem _ hq))
theorem lk_m {lv : List (Nat × Value)} {i : Nat} {v : Value} (hk : lk lv i = some v) : ∃ k : Nat, lv[k]? = some (i, v) := by
  induction lv with
  | nil => cases hk
  | cons q r ih =>
    obtain ⟨j, w⟩ := q
    unfold lk at hk
    cases hb : Nat.beq j i with
    | true =>
      rw [hb] at hk
      cases hk
      have := Nat.eq_of_beq_eq_true hb
      subst this
      exact ⟨0, rfl⟩
    | false =>
      rw [hb] at hk
      obtain ⟨k, h⟩ := ih hk
      exact ⟨k + 1, h⟩
def sp (lv : List (Nat × Value)) (i : Nat) (v : Value) : List (Nat × Value) := (i, v) :: lv.filter (fun q => !(q.1 == i) && !(q.1 + 1 == i && q.2.category == 2))
/-- what lies outside the worlds, and is read: two statics, the class object, texts -/
abbrev EpT : Type := Nat × Nat × (Nat → Nat)
def txts : List (Nat × String) := [(176, "out of range"), (186, "there are 6 machines"), (85, "a cue has a bar that there would not be"), (181, "no such machine"), (101, "there were 24 cues"), (184, "no such cue")]
/-- the law's script, read from anywhere: its cell, its length, its numbers -/
def scB (ε : EpT) : Nat := ε.2.2 998
def scL (ε : EpT) : Nat := ε.2.2 999
def scX (ε : EpT) : Nat → Int32 := fun j => Int32.ofNat (ε.2.2 (1000 + j))
def SC (ε : EpT) (A : Nat → Prop) (U : State) (H : Heap) : Prop := va_X (scB ε) (scL ε) (scX ε) U H ∧ scB ε < H.size ∧ ¬ A (scB ε)
theorem SC.go {ε : EpT} {A B : Nat → Prop} {s U : State} {H : Heap} (h : SC ε A s s.heap) (hv : s.vm.Alike U.vm) (hq : ∀ a : Nat, a < s.heap.size → ¬ A a → H[a]? = s.heap[a]?) (hAB : ∀ q, B q → A q) : SC ε B U H := by
  obtain ⟨h1, h2, h3⟩ := h
  have e := hq _ h2 h3
  refine ⟨(h1.kept e).moved hv, ?_, fun z => h3 (hAB _ z)⟩
  rw [Array.getElem?_eq_getElem h2] at e
  exact (Array.getElem?_eq_some_iff.mp e).1
def EF (ε : EpT) (A : Nat → Prop) (U : State) (H : Heap) : Prop :=
  va_Z "java/util/ArrayList" "DEFAULTCAPACITY_EMPTY_ELEMENTDATA" "[Ljava/lang/Object;" (.ref ε.1) A U H ∧ va_T (.object "java/lang/Object") ε.1 0 (fun _ => .null) A U H ∧
  vx_Zq Bundle.tN "UNASSIGNED_STACK" Bundle.steD A U H ∧ vx_Zq Bundle.tN "SUPPRESSED_SENTINEL" Bundle.listD A U H ∧
  va_AO "java/lang/Object" U ∧ va_AO "OperaMachines$Cue" U ∧ va_Mi "[Ljava/lang/Object;" ε.2.1 U ∧ (∀ q ∈ txts, vk_R "OperaMachines" q.1 q.2 (ε.2.2 q.1) U) ∧ SC ε A U H
theorem EF.go {ε : EpT} {A B : Nat → Prop} {s U : State} {H : Heap} (h : EF ε A s s.heap) (hW : s.WarmedH U.vm) (hq : ∀ a : Nat, a < s.heap.size → ¬ A a → H[a]? = s.heap[a]?) (hAB : ∀ q, B q → A q) : EF ε B U H := by
  obtain ⟨h1, h2, h3, h4, h5, h6, h7, h8, h9⟩ := h
  have hv := hW.alike
  exact ⟨((h1.kept hq).moved hv).narrow hAB, ((h2.kept hq).moved hv).narrow hAB, ((h3.kept hq).moved hv).narrow hAB, ((h4.kept hq).moved hv).narrow hAB, h5.moved hv, h6.moved hv, h7.moved hv, fun q hm => vk_R.warm hW (h8 q hm), h9.go hv hq hAB⟩
theorem EF.same {ε : EpT} {A : Nat → Prop} {u U : State} {H : Heap} (hv : U.vm = u.vm) (h : EF ε A u H) : EF ε A U H := by
  obtain ⟨h1, h2, h3, h4, h5, h6, h7, h8, h9⟩ := h
  have ha : u.vm.Alike U.vm := by rw [hv]; exact Vm.Alike.refl _
  exact ⟨h1.moved ha, h2.moved ha, h3.moved ha, h4.moved ha, h5.moved ha, h6.moved ha, h7.moved ha, fun q hm => vk_R.same hv (h8 q hm), h9.1.moved ha, h9.2⟩
end NK1
