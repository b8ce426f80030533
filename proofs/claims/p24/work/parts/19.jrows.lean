section NK5
variable {g : Gx} {Φ : Fx} {cc : ByteArray} {own : String} {ret : Option FieldType} {d mc ms k n : Nat} {σ : Wd} {pc : Nat} {lv lv' : List (Nat × Value)} {st : List Value}
/-- the world behind a write, by what it holds -/
theorem wab {a : Nat} {e : va_E} (K : ∀ σ' : Wd, σ' a = some e → (∀ q, q ≠ a → σ' q = σ q) → N Φ k n σ' pc lv st) : N Φ k n (wup σ a e) pc lv st := K _ (wup_s ..) (fun _ hq => wup_n hq)
theorem rf_or (r : Option Nat) : va_rf r = .null ∨ ∃ a, va_rf r = .ref a := by
  cases r with
  | none => exact Or.inl rfl
  | some a => exact Or.inr ⟨a, rfl⟩
/-- an object of one of the classes known -/
def obj (σ : Wd) (y : Nat) : Prop := ∃ (ci : Nat) (fs : List Value) (r : vw_C), σ y = some (.inr (ci, fs)) ∧ vwCl[ci]? = some r ∧ Cond.castable r.1 "java/lang/Object" ∈ GT
theorem n_ldc (C : Ok g Φ cc own ret d mc ms) {i : Nat} {v : Int32} {x : Int} (hw : Cond.constant own i v ∈ GT) (hv : v = iI x) (hd : decode cc pc = .ok (.ldc i, 2)) (K : N Φ k n σ (pc + 2) lv (iv x :: st)) : N Φ k n σ pc lv st := by
  obtain ⟨p, l, e, R, s, m, args, below, meth, c, A, κ, ε, nL, Q⟩ := Φ
  subst hv
  obtain ⟨-, hx, hb, hml, hown, hret, hts, -⟩ := C
  intro ws H locs ls hR hP hD hS hl
  exact lv_ldc hx hb hown (hts _ hw) hd (K ws H locs ls hR hP hD hS hl)
theorem n_ldcM (C : Ok g Φ cc own ret d mc ms) {i : Nat} (hw : Cond.classLink own i "[Ljava/lang/Object;" ∈ GT) (hd : decode cc pc = .ok (.ldc i, 2)) (K : N Φ k n σ (pc + 2) lv (.ref g.2.2.2.1 :: st)) : N Φ k n σ pc lv st := by
  obtain ⟨p, l, e, R, s, m, args, below, meth, c, A, κ, ε, nL, Q⟩ := Φ
  obtain ⟨rfl, hx, hb, hml, hown, hret, hts, hK, hlk, hA, hE, -⟩ := C
  intro ws H locs ls hR hP hD hS hl
  exact va_ldcM hx hb hown (hts _ hw) hE.2.2.2.2.2.2.1 hd (K ws H locs ls hR hP hD hS hl)
theorem n_getClass (C : Ok g Φ cc own ret d mc ms) {idx a M : Nat} {f : Nat → Option Nat} (hσ : σ a = some (eO g.2.1 M f)) (hw : Cond.methodLink own idx ⟨"java/lang/Object", "getClass", "()Ljava/lang/Class;"⟩ ∈ GT) (hw1 : Cond.declares ⟨"java/lang/Object", "getClass", "()Ljava/lang/Class;"⟩ ∈ GT) (hw2 : Cond.selects "[Ljava/lang/Object;" ⟨"java/lang/Object", "getClass", "()Ljava/lang/Class;"⟩ ⟨"java/lang/Object", "getClass", "()Ljava/lang/Class;"⟩ ∈ GT) (hw3 : Cond.instanceMethod ⟨"java/lang/Object", "getClass", "()Ljava/lang/Class;"⟩ ∈ GT) (hw4 : Cond.native ⟨"java/lang/Object", "getClass", "()Ljava/lang/Class;"⟩ ∈ GT) (hs : (st.map fun v => v.category).sum ≤ 8) (hd : decode cc pc = .ok (.invokevirtual idx, 3)) (K : N Φ k n σ (pc + 3) lv (.ref g.2.2.2.1 :: st)) : N Φ k n σ pc lv (.ref a :: st) := by
  obtain ⟨p, l, e, R, s, m, args, below, meth, c, A, κ, ε, nL, Q⟩ := Φ
  obtain ⟨rfl, hx, hb, hml, hown, hret, hts, hK, hlk, hA, hE, hst, hR1, hR2, rfl, rfl⟩ := C
  intro ws H locs ls hR hP hD hS hl
  obtain ⟨q, hq⟩ := hR.cell hσ
  exact va_getC hx hb (by rw [hml]; exact hl.1.symm) hown (hts _ hw) (hts _ hw1) (hts _ hw2) (hts _ hw3) (hts _ hw4) hE.2.2.2.2.2.2.1 ⟨_, hP q _ hq, rfl, va_nmO (hK.2 3 (kO κ, .object "java/lang/Object") rfl).2 (by decide)⟩ (by omega) (by omega) hd (K ws H locs ls hR hP hD hS hl)
theorem n_copy (C : Ok g Φ cc own ret d mc ms) {idx a b na nb sp dp cn : Nat} {f h : Nat → Option Nat} {x y z : Int} (hσ : σ a = some (eO g.2.1 na f)) (hσ2 : σ b = some (eO g.2.1 nb h)) (hx' : x = (sp : Int)) (hy' : y = (dp : Int)) (hz' : z = (cn : Int)) (h4 : sp + cn ≤ na) (h5 : dp + cn ≤ nb) (hna : na < 2147483648) (hnb : nb < 2147483648) (hel : ∀ i : Nat, i < cn → ∀ q : Nat, f (sp + i) = some q → obj σ q) (hw : Cond.methodLink own idx arraycopyName ∈ GT) (hw1 : Cond.native arraycopyName ∈ GT) (hw2 : Cond.static arraycopyName ∈ GT) (hw3 : Cond.initialized "java/lang/System" ∈ GT) (hs : (st.map fun v => v.category).sum ≤ 8) (hd : decode cc pc = .ok (.invokestatic idx, 3)) (K : N Φ k n (wup σ b (eO g.2.1 nb (va_cpy f h sp dp cn))) (pc + 3) lv st) : N Φ k n σ pc lv (iv z :: iv y :: .ref b :: iv x :: .ref a :: st) := by
  obtain ⟨p, l, e, R, s, m, args, below, meth, c, A, κ, ε, nL, Q⟩ := Φ
  subst hx' hy' hz'
  obtain ⟨rfl, hx, hb, hml, hown, hret, hts, hK, hlk, hA, hE, hst, hR1, hR2, rfl, rfl⟩ := C
  intro ws H locs ls hR hP hD hS hl
  obtain ⟨q, hq⟩ := hR.cell hσ
  obtain ⟨q2, hq2⟩ := hR.cell hσ2
  have c1 : ∀ j : Nat, j < 2147483648 → (iI (j : Int)).toNatClampNeg = j := fun j hj => by rw [iI_c (by unfold rg; omega), Int.toNat_natCast]
  have c2 : ∀ j : Nat, j < 2147483648 → ¬ iI (j : Int) < 0 := fun j hj z => by have := (iI_lt (a := (j : Int)) (b := 0) (by unfold rg; omega) rg_0).mp z; omega
  have hw5 : nativeFrameWords "java/lang/System" "arraycopy" 5 = 7 ∨ True := Or.inr trivial
  refine va_copyM hx hb (by rw [hml]; exact hl.1.symm) hown (hts _ hw) (hts _ hw1) (hts _ hw2) (hts _ hw3) hK hP hD hS q q2 3 3 hq hq2 rfl rfl (c2 sp (by omega)) (c2 dp (by omega)) (c2 cn (by omega)) (by rw [c1 sp (by omega), c1 cn (by omega)]; exact h4) (by rw [c1 dp (by omega), c1 cn (by omega)]; exact h5) ?_ (by omega) ?_ hd (fun H1 locs1 hP1 hD1 hS1 => ?_)
  · intro i hi y0 hy0
    rw [c1 cn (by omega)] at hi
    rw [c1 sp (by omega)] at hy0
    obtain ⟨ci, fs, r, o1, o2, o3⟩ := hel i hi y0 hy0
    obtain ⟨q3, hq3⟩ := hR.cell o1
    exact va_rAny hK hP hq3 o2 (vb_asgC (va_any rfl (hts _ o3)))
  · have hww : nativeFrameWords "java/lang/System" "arraycopy" 5 ≤ 100 := by decide
    omega
  · rw [c1 sp (by omega), c1 dp (by omega), c1 cn (by omega)] at hP1 hD1
    exact K _ H1 locs1 ls (hR.set hD hq2) hP1 hD1 hS1 hl
/-- a list at x: its row (the shared empty one at first), its length n, the row's length cap and entries f -/
def ALst (g : Gx) (σ : Wd) (x : Nat) (mo : Int) (row n cap : Nat) (f : Nat → Option Nat) : Prop :=
  σ x = some (.inr (2, [iv mo, .ref row, iv n])) ∧ ((cap = 0 ∧ row = g.2.2.1) ∨ (1 ≤ cap ∧ σ row = some (eO g.2.1 cap f))) ∧ n ≤ cap ∧ cap ≤ 60
theorem inJ : fG "java/util/ArrayList" TJx4a65c 3 := by
  unfold fG
  decide +kernel
theorem cJ : vwCl[2]? = some ("java/util/ArrayList", TJx4a65c, 3) := rfl
theorem fm_xor : ∀ j : Fin 1601, (0 ≤ ((iI ((j : Nat) - 800 : Int)) ^^^ (iI 360)).toInt) ↔ 800 ≤ (j : Nat) := by decide +kernel
theorem fm_x {x : Int} (h : -800 ≤ x ∧ x ≤ 800) : (0 ≤ (iI x ^^^ iI 360).toInt) ↔ 0 ≤ x := by
  have h1 := fm_xor ⟨(x + 800).toNat, by omega⟩
  have e : (((x + 800).toNat : Nat) : Int) - 800 = x := by omega
  simp only [e] at h1
  rw [h1]
  omega
theorem shr_t : ∀ j : Fin 101, iI (j : Nat) >>> (iI 1 &&& 31) = iI ((j : Nat) / 2 : Nat) := by decide +kernel
theorem shr_1 {j : Nat} (h : j ≤ 100) : iI (j : Int) >>> (iI 1 &&& 31) = iI ((j / 2 : Nat) : Int) := shr_t ⟨j, by omega⟩
theorem tmod_n {x : Int} (h : x < 0) : x.tmod 360 = -((-x) % 360) := by
  have h1 := Int.neg_tmod (-x) 360
  rw [Int.neg_neg] at h1
  rw [h1, Int.tmod_eq_emod_of_nonneg (by omega)]
/-- a method of a class some of whose methods are run otherwise: this one is not -/
theorem CT.ofF {g : Gx} {y : MethodName} {cc : ByteArray} {nL : Nat} {ret : Option FieldType} {d mc ms : Nat} {av : List Value} {σ : Wd} {Po : Option Value → Wd → Prop} {Px : String → Wd → Prop} (hst : g.1.stackTraces = false) (hy : plainFor y = true) (hL : (lg_sl av).length ≤ nL)
    (body : ∀ Φ : Fx, Ok g Φ cc y.cls ret d mc ms → Rt Φ σ Po Px mc ms → fY Φ = y.name → fN Φ = nL → N Φ 0 0 σ 0 (lv_args 0 av) []) : CT g y cc nL ret d mc ms av σ Po Px := by
  obtain ⟨l, κ, ε⟩ := g
  intro sz
  refine MetFree.of_bodySF (code := cc) (maxLocals := nL) (ret := ret) hy ?_ ?_
  · intro args s m h hn
    obtain ⟨meth, c, h1, h2, h3, h4, h5, h6, -, -⟩ := Cond.code_spec hn (atoms_spec (ws := .code y cc nL ret :: GT) h _ List.mem_cons_self)
    exact ⟨meth, c, h1, h2, h3, h4, h5, h6⟩
  intro p e s m args below meth c s₁ B hml hv _
  have hh0 : s₁.heap = s.heap := by rw [B.state]; rfl
  have ht : ∀ x ∈ c.exceptionTable.toList, False := by
    obtain ⟨meth9, c9, h1, h2, -, -, -, -, h7, -⟩ := Cond.code_spec B.named (atoms_spec (ws := .code y cc nL ret :: GT) B.pre _ List.mem_cons_self)
    cases Option.some.inj (h1.symm.trans B.method)
    cases Option.some.inj (h2.symm.trans (Stand.of_body B).code)
    intro x hx
    rw [Array.isEmpty_iff.mp h7] at hx
    cases hx
  have key : W p l e (headSpec (.code y cc nL ret :: GT) (rmd d mc ms)).room s m args below meth c s.heap [] 0 0 (vx_MQ below (Qcc κ σ sz Po) (Xcc κ σ sz Px) args s mc ms (fr σ sz)) (entryFrame m args nL) := by
    obtain ⟨rfl, hsz, ⟨ws, hR, hP, hD⟩, hK, hE⟩ := hv
    subst hsz
    have hts : ∀ w ∈ GT, w.before av.toArray s = true := fun w h => atoms_spec (ws := .code y cc nL ret :: GT) B.pre w (List.mem_cons_of_mem _ h)
    have hown : s.vm.findClass y.cls = some m.cls := findClass_of_methodNamed B.named
    have hl := lv_entry av (n := nL) hL
    rw [lg_entry_eq]
    exact body (p, l, e, (headSpec (.code y cc nL ret :: GT) (rmd d mc ms)).room, s, m, av.toArray, below, meth, c, fr σ s.heap.size, κ, ε, nL, _) ⟨rfl, B.exec, B.bytes, hml, hown, B.returns, hts, hK, B.notSynchronized, fun q h => Or.inr h, hE, hst, Nat.le_refl _, Nat.le_refl _, rfl, rfl⟩ ⟨rfl, rfl, ht⟩ (name_of_methodNamed B.named B.method).1 rfl ws s.heap [] _ hR hP (fr_D hR hD) va_S.rf hl
  obtain ⟨t, a1, o, b1, b2, b3⟩ := key s₁ hh0 (Stand.of_body B)
  exact ⟨t, o, a1, b1, b2, b3⟩
end NK5
