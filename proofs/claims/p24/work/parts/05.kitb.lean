/-! the walk N: at pc, with the locals lv and the stack st, in the world σ, k cells and n slots made so far -/
section NK2
abbrev Gx : Type := Launch × KG × EpT
abbrev Fx : Type := Program × Launch × Env × Room × State × MethodId × Array Value × List Frame × Method × Code × (Nat → Prop) × KG × EpT × Nat × (State → Prop)
def fN (Φ : Fx) : Nat := Φ.2.2.2.2.2.2.2.2.2.2.2.2.2.1
def fY (Φ : Fx) : String := Φ.2.2.2.2.2.2.2.2.1.name
def N (Φ : Fx) (k n : Nat) (σ : Wd) (pc : Nat) (lv : List (Nat × Value)) (st : List Value) : Prop := match Φ with
  | (p, l, e, R, s, m, args, below, meth, c, A, κ, _, nL, Q) => ∀ (ws : va_W) (H : Heap) (locs : List Loc) (ls : Array Slot), wR σ ws → va_P κ.1 vwCl ws H → va_D A ws → va_S A s.heap H locs → lv_has ls nL lv → W p l e R s m args below meth c H locs k n Q (F0 m pc ls st)
/-- .. with an exception of class E thrown there -/
def NX (Φ : Fx) (k n : Nat) (σ : Wd) (pc : Nat) (lv : List (Nat × Value)) (E : String) : Prop := match Φ with
  | (p, l, e, R, s, m, args, below, meth, c, A, κ, _, nL, Q) => ∀ (ws : va_W) (H : Heap) (locs : List Loc) (ls : Array Slot) (q : Addr) (ce : Cell) (rest : List Value), wR σ ws → va_P κ.1 vwCl ws H → va_D A ws → va_S A s.heap H locs → lv_has ls nL lv → H[q]? = some ce → ce.vm = .none → s.vm.findClass E = some ce.cls → vx_W p l e R s m args below meth c H locs k n Q (F0 m pc ls rest) q
/-- what stands throughout a method's body: its code, its class, the words, the room (of depth d), the statics -/
def Ok (g : Gx) (Φ : Fx) (cc : ByteArray) (own : String) (ret : Option FieldType) (d mc ms : Nat) : Prop := match Φ with
  | (p, l, _, R, s, m, args, _, meth, c, A, κ, ε, nL, _) => g = (l, κ, ε) ∧ p.tables.exec = Jvm.exec ∧ c.code = cc ∧ c.maxLocals = nL ∧ s.vm.findClass own = some m.cls ∧ meth.sig.returnType = ret ∧ (∀ w ∈ GT, w.before args s = true) ∧ va_K κ.1 vwCl (kT κ) s ∧ meth.locks = false ∧ (∀ q, s.heap.size ≤ q → A q) ∧ EF ε A s s.heap ∧ l.stackTraces = false ∧ 8 + d ≤ R.frames ∧ 200 + 40 * d ≤ R.locals ∧ R.cells = mc ∧ R.slots = ms
def fr (σ : Wd) (sz : Nat) : Nat → Prop := fun q => σ q ≠ none ∨ sz ≤ q
def Pcc (κ : KG) (ε : EpT) (av : List Value) (σ : Wd) (sz : Nat) : Array Value → State → Prop := fun v U => v = av.toArray ∧ U.heap.size = sz ∧ (∃ ws, wR σ ws ∧ va_P κ.1 vwCl ws U.heap ∧ va_D (fun _ => True) ws) ∧ va_K κ.1 vwCl (kT κ) U ∧ EF ε (fr σ sz) U U.heap
def Qcc (κ : KG) (σ : Wd) (sz : Nat) (Po : Option Value → Wd → Prop) : Array Value → State → Outcome → State → Prop := fun _ st oc t => (∃ (r : Option Value) (σ' : Wd), oc = .returned r ∧ Po r σ' ∧ ∃ ws, wR σ' ws ∧ va_P κ.1 vwCl ws t.heap ∧ va_D (fr σ sz) ws) ∧ va_F (fr σ sz) st t
def Xcc (κ : KG) (σ : Wd) (sz : Nat) (Px : String → Wd → Prop) : String → State → State → Prop := fun E st t => (∃ σ' : Wd, Px E σ' ∧ ∃ ws, wR σ' ws ∧ va_P κ.1 vwCl ws t.heap ∧ va_D (fr σ sz) ws) ∧ va_F (fr σ sz) st t
def rmd (d mc ms : Nat) : Room := { frames := 8 + d, cells := mc, slots := ms, locals := 200 + 40 * d }
/-- a contract: from the world σ, with the arguments av, the method answers and leaves a world by Po, or throws by Px; it makes at most mc cells of ms slots -/
def CT (g : Gx) (y : MethodName) (cc : ByteArray) (nL : Nat) (ret : Option FieldType) (d mc ms : Nat) (av : List Value) (σ : Wd) (Po : Option Value → Wd → Prop) (Px : String → Wd → Prop) : Prop :=
  ∀ sz : Nat, vx_Met g.1 y (.code y cc nL ret :: GT) (rmd d mc ms) (Pcc g.2.1 g.2.2 av σ sz) (Qcc g.2.1 σ sz Po) (Xcc g.2.1 σ sz Px) mc ms (fr σ sz)
/-- how a body under such a contract ends -/
def Rt (Φ : Fx) (σ0 : Wd) (Po : Option Value → Wd → Prop) (Px : String → Wd → Prop) (mc ms : Nat) : Prop := match Φ with
  | (_, _, _, _, s, _, args, below, _, c, A, κ, _, _, Q) => A = fr σ0 s.heap.size ∧ Q = vx_MQ below (Qcc κ σ0 s.heap.size Po) (Xcc κ σ0 s.heap.size Px) args s mc ms (fr σ0 s.heap.size) ∧ ∀ x ∈ c.exceptionTable.toList, False
theorem fr_D {σ : Wd} {sz : Nat} {A : Nat → Prop} {ws : va_W} (hR : wR σ ws) (hD : va_D A ws) : va_D (fr σ sz) ws := ⟨hD.1, fun k q hk => Or.inl (by
  rw [(hR q.1 q.2).mpr (List.mem_of_getElem? hk)]
  exact fun h => by cases h)⟩
theorem fr_A {σ : Wd} {ws : va_W} {A : Nat → Prop} {H0 H : Heap} {locs : List Loc} (hR : wR σ ws) (hD : va_D A ws) (hS : va_S A H0 H locs) (hA : ∀ q, H0.size ≤ q → A q) : ∀ q, fr σ H.size q → A q := by
  intro q hq
  rcases hq with hq | hq
  · cases h : σ q with
    | none => exact absurd h hq
    | some e => exact hR.one hD h
  · exact hA q (Nat.le_trans hS.1 hq)
theorem Pcc_blind {κ : KG} {ε : EpT} {av : List Value} {σ : Wd} {sz : Nat} : FrameBlind (Pcc κ ε av σ sz) := fun a U g mk ⟨h1, h2, h3, h4, h5⟩ => ⟨h1, h2, h3, va_K.moved (u := U) (U := U.calling g mk a) (Vm.Alike.refl U.vm) h4, EF.same (u := U) (U := U.calling g mk a) rfl h5⟩
theorem CT.of {g : Gx} {y : MethodName} {cc : ByteArray} {nL : Nat} {ret : Option FieldType} {d mc ms : Nat} {av : List Value} {σ : Wd} {Po : Option Value → Wd → Prop} {Px : String → Wd → Prop} (hst : g.1.stackTraces = false) (hy : plainName y.cls = true) (hL : (lg_sl av).length ≤ nL)
    (body : ∀ Φ : Fx, Ok g Φ cc y.cls ret d mc ms → Rt Φ σ Po Px mc ms → fY Φ = y.name → fN Φ = nL → N Φ 0 0 σ 0 (lv_args 0 av) []) : CT g y cc nL ret d mc ms av σ Po Px := by
  obtain ⟨l, κ, ε⟩ := g
  intro sz
  refine vx_ofW (cc := cc) (maxL := nL) (ret := ret) hy rfl ?_
  intro p e s m args below meth c s₁ B hml ht hv
  obtain ⟨rfl, hsz, ⟨ws, hR, hP, hD⟩, hK, hE⟩ := hv
  subst hsz
  have hts : ∀ w ∈ GT, w.before av.toArray s = true := fun w h => atoms_spec (ws := .code y cc nL ret :: GT) B.pre w (List.mem_cons_of_mem _ h)
  have hown : s.vm.findClass y.cls = some m.cls := findClass_of_methodNamed B.named
  have hl := lv_entry av (n := nL) hL
  rw [lg_entry_eq]
  exact body (p, l, e, (headSpec (.code y cc nL ret :: GT) (rmd d mc ms)).room, s, m, av.toArray, below, meth, c, fr σ s.heap.size, κ, ε, nL, _) ⟨rfl, B.exec, B.bytes, hml, hown, B.returns, hts, hK, B.notSynchronized, fun q h => Or.inr h, hE, hst, Nat.le_refl _, Nat.le_refl _, rfl, rfl⟩ ⟨rfl, rfl, ht⟩ (name_of_methodNamed B.named B.method).1 rfl ws s.heap [] _ hR hP (fr_D hR hD) va_S.rf hl
section Rows
variable {g : Gx} {Φ : Fx} {cc : ByteArray} {own : String} {ret : Option FieldType} {d mc ms k n : Nat} {σ : Wd} {pc : Nat} {lv lv' : List (Nat × Value)} {st : List Value} {Po : Option Value → Wd → Prop} {Px : String → Wd → Prop} {σ0 : Wd}
theorem n_wd {σ' : Wd} (h : σ = σ') (K : N Φ k n σ' pc lv st) : N Φ k n σ pc lv st := h ▸ K
theorem n_widen {k' n' : Nat} (h1 : k ≤ k') (h2 : n ≤ n') (K : N Φ k' n' σ pc lv st) : N Φ k n σ pc lv st := by
  obtain ⟨p, l, e, R, s, m, args, below, meth, c, A, κ, ε, nL, Q⟩ := Φ
  intro ws H locs ls hR hP hD hS hl
  exact W.widen h1 h2 (K ws H locs ls hR hP hD hS hl)
theorem n_lv (h : ∀ q ∈ lv', q ∈ lv) (K : N Φ k n σ pc lv' st) : N Φ k n σ pc lv st := by
  obtain ⟨p, l, e, R, s, m, args, below, meth, c, A, κ, ε, nL, Q⟩ := Φ
  intro ws H locs ls hR hP hD hS hl
  exact K ws H locs ls hR hP hD hS ⟨hl.1, hl.2.1, fun q hq => hl.2.2 q (h q hq)⟩
/-- fewer listed locals, by number -/
theorem n_keep (ks : List Nat) (h : ks.filterMap (fun i => (lk lv i).map (fun v => (i, v))) = lv') (K : N Φ k n σ pc lv' st) : N Φ k n σ pc lv st := by
  refine n_lv (fun q hq => ?_) K
  rw [← h] at hq
  obtain ⟨i, -, hi⟩ := List.mem_filterMap.mp hq
  cases hv : lk lv i with
  | none => rw [hv] at hi; cases hi
  | some v =>
    rw [hv] at hi
    cases hi
    obtain ⟨j, hj⟩ := lk_m hv
    exact List.mem_of_getElem? hj
theorem n_iconst (C : Ok g Φ cc own ret d mc ms) {x : Int} (hd : decode cc pc = .ok (.iconst x, 1)) (K : N Φ k n σ (pc + 1) lv (iv x :: st)) : N Φ k n σ pc lv st := by
  obtain ⟨p, l, e, R, s, m, args, below, meth, c, A, κ, ε, nL, Q⟩ := Φ
  intro ws H locs ls hR hP hD hS hl
  exact lv_iconst C.2.1 C.2.2.1 hd rfl (K ws H locs ls hR hP hD hS hl)
theorem n_bipush (C : Ok g Φ cc own ret d mc ms) {x : Int} (hd : decode cc pc = .ok (.bipush x, 2)) (hv : (Int8.ofInt x).toInt32 = iI x) (K : N Φ k n σ (pc + 2) lv (iv x :: st)) : N Φ k n σ pc lv st := by
  obtain ⟨p, l, e, R, s, m, args, below, meth, c, A, κ, ε, nL, Q⟩ := Φ
  intro ws H locs ls hR hP hD hS hl
  exact lv_bipush C.2.1 C.2.2.1 hd hv (K ws H locs ls hR hP hD hS hl)
theorem n_sipush (C : Ok g Φ cc own ret d mc ms) {x : Int} (hd : decode cc pc = .ok (.sipush x, 3)) (hv : (Int16.ofInt x).toInt32 = iI x) (K : N Φ k n σ (pc + 3) lv (iv x :: st)) : N Φ k n σ pc lv st := by
  obtain ⟨p, l, e, R, s, m, args, below, meth, c, A, κ, ε, nL, Q⟩ := Φ
  intro ws H locs ls hR hP hD hS hl
  exact lv_sipush C.2.1 C.2.2.1 hd hv (K ws H locs ls hR hP hD hS hl)
theorem n_iload_n (C : Ok g Φ cc own ret d mc ms) {i : Fin 4} {x : Int} (hd : decode cc pc = .ok (.iload_n i, 1)) (hk : lk lv (i : Nat) = some (iv x)) (K : N Φ k n σ (pc + 1) lv (iv x :: st)) : N Φ k n σ pc lv st := by
  obtain ⟨p, l, e, R, s, m, args, below, meth, c, A, κ, ε, nL, Q⟩ := Φ
  intro ws H locs ls hR hP hD hS hl
  exact lv_iload_n C.2.1 C.2.2.1 hd rfl (lk_at hl hk) (K ws H locs ls hR hP hD hS hl)
theorem n_iload (C : Ok g Φ cc own ret d mc ms) {i : Nat} {x : Int} (hd : decode cc pc = .ok (.iload i, 2)) (hk : lk lv i = some (iv x)) (K : N Φ k n σ (pc + 2) lv (iv x :: st)) : N Φ k n σ pc lv st := by
  obtain ⟨p, l, e, R, s, m, args, below, meth, c, A, κ, ε, nL, Q⟩ := Φ
  intro ws H locs ls hR hP hD hS hl
  exact lv_iload C.2.1 C.2.2.1 hd (lk_at hl hk) (K ws H locs ls hR hP hD hS hl)
theorem n_aload_n (C : Ok g Φ cc own ret d mc ms) {i : Fin 4} {a : Nat} (hd : decode cc pc = .ok (.aload_n i, 1)) (hk : lk lv (i : Nat) = some (.ref a)) (K : N Φ k n σ (pc + 1) lv (.ref a :: st)) : N Φ k n σ pc lv st := by
  obtain ⟨p, l, e, R, s, m, args, below, meth, c, A, κ, ε, nL, Q⟩ := Φ
  intro ws H locs ls hR hP hD hS hl
  exact lv_aload_n C.2.1 C.2.2.1 hd rfl (lk_at hl hk) (K ws H locs ls hR hP hD hS hl)
theorem n_aload (C : Ok g Φ cc own ret d mc ms) {i : Nat} {a : Nat} (hd : decode cc pc = .ok (.aload i, 2)) (hk : lk lv i = some (.ref a)) (K : N Φ k n σ (pc + 2) lv (.ref a :: st)) : N Φ k n σ pc lv st := by
  obtain ⟨p, l, e, R, s, m, args, below, meth, c, A, κ, ε, nL, Q⟩ := Φ
  intro ws H locs ls hR hP hD hS hl
  exact lv_aload C.2.1 C.2.2.1 hd (lk_at hl hk) (K ws H locs ls hR hP hD hS hl)
theorem n_aload_nN (C : Ok g Φ cc own ret d mc ms) {i : Fin 4} (hd : decode cc pc = .ok (.aload_n i, 1)) (hk : lk lv (i : Nat) = some .null) (K : N Φ k n σ (pc + 1) lv (.null :: st)) : N Φ k n σ pc lv st := by
  obtain ⟨p, l, e, R, s, m, args, below, meth, c, A, κ, ε, nL, Q⟩ := Φ
  intro ws H locs ls hR hP hD hS hl
  exact lv_aload_nN C.2.1 C.2.2.1 hd rfl (lk_at hl hk) (K ws H locs ls hR hP hD hS hl)
theorem n_aload_nO (C : Ok g Φ cc own ret d mc ms) {i : Fin 4} {r : Option Nat} (hd : decode cc pc = .ok (.aload_n i, 1)) (hk : lk lv (i : Nat) = some (va_rf r)) (K : N Φ k n σ (pc + 1) lv (va_rf r :: st)) : N Φ k n σ pc lv st := by
  cases r with
  | none => exact n_aload_nN C hd hk K
  | some a => exact n_aload_n C hd hk K
theorem n_istore_n (C : Ok g Φ cc own ret d mc ms) {i : Fin 4} {x : Int} (hd : decode cc pc = .ok (.istore_n i, 1)) (hn : (i : Nat) < fN Φ) (hl' : sp lv (i : Nat) (iv x) = lv') (K : N Φ k n σ (pc + 1) lv' st) : N Φ k n σ pc lv (iv x :: st) := by
  obtain ⟨p, l, e, R, s, m, args, below, meth, c, A, κ, ε, nL, Q⟩ := Φ
  intro ws H locs ls hR hP hD hS hl
  exact lv_istore_n C.2.1 C.2.2.1 hd rfl hl hn hl' (fun ls hl => K ws H locs ls hR hP hD hS hl)
theorem n_istore (C : Ok g Φ cc own ret d mc ms) {i : Nat} {x : Int} (hd : decode cc pc = .ok (.istore i, 2)) (hn : i < fN Φ) (hl' : sp lv i (iv x) = lv') (K : N Φ k n σ (pc + 2) lv' st) : N Φ k n σ pc lv (iv x :: st) := by
  obtain ⟨p, l, e, R, s, m, args, below, meth, c, A, κ, ε, nL, Q⟩ := Φ
  intro ws H locs ls hR hP hD hS hl
  exact lv_istore C.2.1 C.2.2.1 hd hl hn hl' (fun ls hl => K ws H locs ls hR hP hD hS hl)
theorem n_astore_n (C : Ok g Φ cc own ret d mc ms) {i : Fin 4} {a : Nat} (hd : decode cc pc = .ok (.astore_n i, 1)) (hn : (i : Nat) < fN Φ) (hl' : sp lv (i : Nat) (.ref a) = lv') (K : N Φ k n σ (pc + 1) lv' st) : N Φ k n σ pc lv (.ref a :: st) := by
  obtain ⟨p, l, e, R, s, m, args, below, meth, c, A, κ, ε, nL, Q⟩ := Φ
  intro ws H locs ls hR hP hD hS hl
  exact lv_astore_n C.2.1 C.2.2.1 hd rfl hl hn hl' (fun ls hl => K ws H locs ls hR hP hD hS hl)
theorem n_astore (C : Ok g Φ cc own ret d mc ms) {i : Nat} {a : Nat} (hd : decode cc pc = .ok (.astore i, 2)) (hn : i < fN Φ) (hl' : sp lv i (.ref a) = lv') (K : N Φ k n σ (pc + 2) lv' st) : N Φ k n σ pc lv (.ref a :: st) := by
  obtain ⟨p, l, e, R, s, m, args, below, meth, c, A, κ, ε, nL, Q⟩ := Φ
  intro ws H locs ls hR hP hD hS hl
  exact lv_astore C.2.1 C.2.2.1 hd hl hn hl' (fun ls hl => K ws H locs ls hR hP hD hS hl)
theorem n_iinc (C : Ok g Φ cc own ret d mc ms) {i : Nat} {z x : Int} (hd : decode cc pc = .ok (.iinc i z, 3)) (hk : lk lv i = some (iv x)) (hn : i < fN Φ) (hl' : sp lv i (iv (x + z)) = lv') (K : N Φ k n σ (pc + 3) lv' st) : N Φ k n σ pc lv st := by
  obtain ⟨p, l, e, R, s, m, args, below, meth, c, A, κ, ε, nL, Q⟩ := Φ
  intro ws H locs ls hR hP hD hS hl
  obtain ⟨j, hj⟩ := lk_m hk
  exact lv_iinc C.2.1 C.2.2.1 hd hl hj (iI_add x z) hn hl' (fun ls hl => K ws H locs ls hR hP hD hS hl)
theorem n_iadd (C : Ok g Φ cc own ret d mc ms) {x y : Int} (hd : decode cc pc = .ok (.iadd, 1)) (K : N Φ k n σ (pc + 1) lv (iv (x + y) :: st)) : N Φ k n σ pc lv (iv y :: iv x :: st) := by
  obtain ⟨p, l, e, R, s, m, args, below, meth, c, A, κ, ε, nL, Q⟩ := Φ
  intro ws H locs ls hR hP hD hS hl
  have K := K ws H locs ls hR hP hD hS hl
  unfold iv at K
  rw [← iI_add] at K
  exact lv_iadd C.2.1 C.2.2.1 hd K
theorem n_isub (C : Ok g Φ cc own ret d mc ms) {x y : Int} (hd : decode cc pc = .ok (.isub, 1)) (K : N Φ k n σ (pc + 1) lv (iv (x - y) :: st)) : N Φ k n σ pc lv (iv y :: iv x :: st) := by
  obtain ⟨p, l, e, R, s, m, args, below, meth, c, A, κ, ε, nL, Q⟩ := Φ
  intro ws H locs ls hR hP hD hS hl
  have K := K ws H locs ls hR hP hD hS hl
  unfold iv at K
  rw [← iI_sub] at K
  exact lv_isub C.2.1 C.2.2.1 hd K
theorem n_imul (C : Ok g Φ cc own ret d mc ms) {x y : Int} (hd : decode cc pc = .ok (.imul, 1)) (K : N Φ k n σ (pc + 1) lv (iv (x * y) :: st)) : N Φ k n σ pc lv (iv y :: iv x :: st) := by
  obtain ⟨p, l, e, R, s, m, args, below, meth, c, A, κ, ε, nL, Q⟩ := Φ
  intro ws H locs ls hR hP hD hS hl
  have K := K ws H locs ls hR hP hD hS hl
  unfold iv at K
  rw [← iI_mul] at K
  exact lv_imul C.2.1 C.2.2.1 hd K
theorem n_ineg (C : Ok g Φ cc own ret d mc ms) {x : Int} (hd : decode cc pc = .ok (.ineg, 1)) (K : N Φ k n σ (pc + 1) lv (iv (-x) :: st)) : N Φ k n σ pc lv (iv x :: st) := by
  obtain ⟨p, l, e, R, s, m, args, below, meth, c, A, κ, ε, nL, Q⟩ := Φ
  intro ws H locs ls hR hP hD hS hl
  have K := K ws H locs ls hR hP hD hS hl
  unfold iv at K
  rw [← iI_neg] at K
  exact lv_ineg C.2.1 C.2.2.1 hd K
theorem n_idiv (C : Ok g Φ cc own ret d mc ms) {x y : Int} (hd : decode cc pc = .ok (.idiv, 1)) (hx : rg x) (hy : rg y) (h0 : y ≠ 0) (h1 : y ≠ -1) (K : N Φ k n σ (pc + 1) lv (iv (x.tdiv y) :: st)) : N Φ k n σ pc lv (iv y :: iv x :: st) := by
  obtain ⟨p, l, e, R, s, m, args, below, meth, c, A, κ, ε, nL, Q⟩ := Φ
  intro ws H locs ls hR hP hD hS hl
  have K := K ws H locs ls hR hP hD hS hl
  unfold iv at K
  rw [← iI_div hx hy h1] at K
  exact lv_idiv C.2.1 C.2.2.1 hd (fun q => h0 ((iI_eq hy rg_0).mp q)) K
theorem n_irem (C : Ok g Φ cc own ret d mc ms) {x y : Int} (hd : decode cc pc = .ok (.irem, 1)) (hx : rg x) (hy : rg y) (h0 : y ≠ 0) (h1 : y ≠ -1) (K : N Φ k n σ (pc + 1) lv (iv (x.tmod y) :: st)) : N Φ k n σ pc lv (iv y :: iv x :: st) := by
  obtain ⟨p, l, e, R, s, m, args, below, meth, c, A, κ, ε, nL, Q⟩ := Φ
  intro ws H locs ls hR hP hD hS hl
  have K := K ws H locs ls hR hP hD hS hl
  unfold iv at K
  rw [← iI_rem hx hy h1] at K
  exact lv_irem C.2.1 C.2.2.1 hd (fun q => h0 ((iI_eq hy rg_0).mp q)) K
theorem n_idivP (C : Ok g Φ cc own ret d mc ms) {x y : Int} (hd : decode cc pc = .ok (.idiv, 1)) (hx : rg x) (hy : rg y) (h0 : 0 ≤ x) (h1 : 0 < y) (K : N Φ k n σ (pc + 1) lv (iv (x / y) :: st)) : N Φ k n σ pc lv (iv y :: iv x :: st) :=
  n_idiv C hd hx hy (by omega) (by omega) (by rw [Int.tdiv_eq_ediv_of_nonneg h0]; exact K)
theorem n_iremP (C : Ok g Φ cc own ret d mc ms) {x y : Int} (hd : decode cc pc = .ok (.irem, 1)) (hx : rg x) (hy : rg y) (h0 : 0 ≤ x) (h1 : 0 < y) (K : N Φ k n σ (pc + 1) lv (iv (x % y) :: st)) : N Φ k n σ pc lv (iv y :: iv x :: st) :=
  n_irem C hd hx hy (by omega) (by omega) (by rw [Int.tmod_eq_emod_of_nonneg h0]; exact K)
/-- ixor, ishr: the answer is named by what it is in the machine -/
theorem n_ixor (C : Ok g Φ cc own ret d mc ms) {x y z : Int} (hd : decode cc pc = .ok (.ixor, 1)) (hz : iI x ^^^ iI y = iI z) (K : N Φ k n σ (pc + 1) lv (iv z :: st)) : N Φ k n σ pc lv (iv y :: iv x :: st) := by
  obtain ⟨p, l, e, R, s, m, args, below, meth, c, A, κ, ε, nL, Q⟩ := Φ
  intro ws H locs ls hR hP hD hS hl
  have K := K ws H locs ls hR hP hD hS hl
  unfold iv at K
  rw [← hz] at K
  exact lv_ixor C.2.1 C.2.2.1 hd K
theorem n_ishr (C : Ok g Φ cc own ret d mc ms) {x y z : Int} (hd : decode cc pc = .ok (.ishr, 1)) (hz : iI x >>> (iI y &&& 31) = iI z) (K : N Φ k n σ (pc + 1) lv (iv z :: st)) : N Φ k n σ pc lv (iv y :: iv x :: st) := by
  obtain ⟨p, l, e, R, s, m, args, below, meth, c, A, κ, ε, nL, Q⟩ := Φ
  intro ws H locs ls hR hP hD hS hl
  have K := K ws H locs ls hR hP hD hS hl
  unfold iv at K
  rw [← hz] at K
  exact lv_ishr C.2.1 C.2.2.1 hd K
theorem n_iand (C : Ok g Φ cc own ret d mc ms) {x y z : Int} (hd : decode cc pc = .ok (.iand, 1)) (hz : iI x &&& iI y = iI z) (K : N Φ k n σ (pc + 1) lv (iv z :: st)) : N Φ k n σ pc lv (iv y :: iv x :: st) := by
  obtain ⟨p, l, e, R, s, m, args, below, meth, c, A, κ, ε, nL, Q⟩ := Φ
  intro ws H locs ls hR hP hD hS hl
  have K := K ws H locs ls hR hP hD hS hl
  unfold iv at K
  rw [← hz] at K
  exact lv_iand C.2.1 C.2.2.1 hd K
theorem n_dup (C : Ok g Φ cc own ret d mc ms) {v : Value} (hd : decode cc pc = .ok (.dup, 1)) (hv : v.category = 1) (K : N Φ k n σ (pc + 1) lv (v :: v :: st)) : N Φ k n σ pc lv (v :: st) := by
  obtain ⟨p, l, e, R, s, m, args, below, meth, c, A, κ, ε, nL, Q⟩ := Φ
  intro ws H locs ls hR hP hD hS hl
  exact lv_dup C.2.1 C.2.2.1 hd hv (K ws H locs ls hR hP hD hS hl)
theorem n_dup_x1 (C : Ok g Φ cc own ret d mc ms) {v w : Value} (hd : decode cc pc = .ok (.dup_x1, 1)) (hv : v.category = 1) (hw : w.category = 1) (K : N Φ k n σ (pc + 1) lv (v :: w :: v :: st)) : N Φ k n σ pc lv (v :: w :: st) := by
  obtain ⟨p, l, e, R, s, m, args, below, meth, c, A, κ, ε, nL, Q⟩ := Φ
  intro ws H locs ls hR hP hD hS hl
  exact lv_dup_x1 C.2.1 C.2.2.1 hd hv hw (K ws H locs ls hR hP hD hS hl)
theorem n_dup2 (C : Ok g Φ cc own ret d mc ms) {v w : Value} (hd : decode cc pc = .ok (.dup2, 1)) (hv : v.category = 1) (hw : w.category = 1) (K : N Φ k n σ (pc + 1) lv (v :: w :: v :: w :: st)) : N Φ k n σ pc lv (v :: w :: st) := by
  obtain ⟨p, l, e, R, s, m, args, below, meth, c, A, κ, ε, nL, Q⟩ := Φ
  intro ws H locs ls hR hP hD hS hl
  exact lv_dup2_11 C.2.1 C.2.2.1 hd hv hw (K ws H locs ls hR hP hD hS hl)
theorem n_pop (C : Ok g Φ cc own ret d mc ms) {v : Value} (hd : decode cc pc = .ok (.pop, 1)) (hv : v.category = 1) (K : N Φ k n σ (pc + 1) lv st) : N Φ k n σ pc lv (v :: st) := by
  obtain ⟨p, l, e, R, s, m, args, below, meth, c, A, κ, ε, nL, Q⟩ := Φ
  intro ws H locs ls hR hP hD hS hl
  exact lv_pop C.2.1 C.2.2.1 hd hv (K ws H locs ls hR hP hD hS hl)
theorem n_goto (C : Ok g Φ cc own ret d mc ms) {off : Int} (tgt : Nat) (hd : decode cc pc = .ok (.goto off, 3)) (ht : (pc : Int) + off = (tgt : Int)) (K : N Φ k n σ tgt lv st) : N Φ k n σ pc lv st := by
  obtain ⟨p, l, e, R, s, m, args, below, meth, c, A, κ, ε, nL, Q⟩ := Φ
  intro ws H locs ls hR hP hD hS hl
  exact lv_goto C.2.1 C.2.2.1 hd ht (K ws H locs ls hR hP hD hS hl)
theorem n_null (C : Ok g Φ cc own ret d mc ms) (hd : decode cc pc = .ok (.aconst_null, 1)) (K : N Φ k n σ (pc + 1) lv (.null :: st)) : N Φ k n σ pc lv st := by
  obtain ⟨p, l, e, R, s, m, args, below, meth, c, A, κ, ε, nL, Q⟩ := Φ
  intro ws H locs ls hR hP hD hS hl
  exact lv_null C.2.1 C.2.2.1 hd (K ws H locs ls hR hP hD hS hl)
theorem n_if_eq (C : Ok g Φ cc own ret d mc ms) {x : Int} {off : Int} (tgt : Nat) (hd : decode cc pc = .ok (.ifCond .eq off, 3)) (ht : (pc : Int) + off = (tgt : Int)) (hx : rg x) (kt : x = 0 → N Φ k n σ tgt lv st) (kf : x ≠ 0 → N Φ k n σ (pc + 3) lv st) : N Φ k n σ pc lv (iv x :: st) := by
  obtain ⟨p, l, e, R, s, m, args, below, meth, c, A, κ, ε, nL, Q⟩ := Φ
  intro ws H locs ls hR hP hD hS hl
  exact lv_if_eq C.2.1 C.2.2.1 hd ht (fun h => kt (by have h := (iI_eq hx rg_0).mp h; omega) ws H locs ls hR hP hD hS hl) (fun h => kf (by have h := mt (iI_eq hx rg_0).mpr h; omega) ws H locs ls hR hP hD hS hl)
theorem n_icmp_eq (C : Ok g Φ cc own ret d mc ms) {x y : Int} {off : Int} (tgt : Nat) (hd : decode cc pc = .ok (.if_icmp .eq off, 3)) (ht : (pc : Int) + off = (tgt : Int)) (hx : rg x) (hy : rg y) (kt : x = y → N Φ k n σ tgt lv st) (kf : x ≠ y → N Φ k n σ (pc + 3) lv st) : N Φ k n σ pc lv (iv y :: iv x :: st) := by
  obtain ⟨p, l, e, R, s, m, args, below, meth, c, A, κ, ε, nL, Q⟩ := Φ
  intro ws H locs ls hR hP hD hS hl
  exact lv_icmp_eq C.2.1 C.2.2.1 hd ht (fun h => kt (by have h := (iI_eq hx hy).mp h; omega) ws H locs ls hR hP hD hS hl) (fun h => kf (by have h := mt (iI_eq hx hy).mpr h; omega) ws H locs ls hR hP hD hS hl)
theorem n_if_lt (C : Ok g Φ cc own ret d mc ms) {x : Int} {off : Int} (tgt : Nat) (hd : decode cc pc = .ok (.ifCond .lt off, 3)) (ht : (pc : Int) + off = (tgt : Int)) (hx : rg x) (kt : x < 0 → N Φ k n σ tgt lv st) (kf : 0 ≤ x → N Φ k n σ (pc + 3) lv st) : N Φ k n σ pc lv (iv x :: st) := by
  obtain ⟨p, l, e, R, s, m, args, below, meth, c, A, κ, ε, nL, Q⟩ := Φ
  intro ws H locs ls hR hP hD hS hl
  exact lv_if_lt C.2.1 C.2.2.1 hd ht (fun h => kt (by have h := (iI_lt hx rg_0).mp h; omega) ws H locs ls hR hP hD hS hl) (fun h => kf (by have h := mt (iI_lt hx rg_0).mpr h; omega) ws H locs ls hR hP hD hS hl)
theorem n_icmp_lt (C : Ok g Φ cc own ret d mc ms) {x y : Int} {off : Int} (tgt : Nat) (hd : decode cc pc = .ok (.if_icmp .lt off, 3)) (ht : (pc : Int) + off = (tgt : Int)) (hx : rg x) (hy : rg y) (kt : x < y → N Φ k n σ tgt lv st) (kf : y ≤ x → N Φ k n σ (pc + 3) lv st) : N Φ k n σ pc lv (iv y :: iv x :: st) := by
  obtain ⟨p, l, e, R, s, m, args, below, meth, c, A, κ, ε, nL, Q⟩ := Φ
  intro ws H locs ls hR hP hD hS hl
  exact lv_icmp_lt C.2.1 C.2.2.1 hd ht (fun h => kt (by have h := (iI_lt hx hy).mp h; omega) ws H locs ls hR hP hD hS hl) (fun h => kf (by have h := mt (iI_lt hx hy).mpr h; omega) ws H locs ls hR hP hD hS hl)
theorem n_if_ge (C : Ok g Φ cc own ret d mc ms) {x : Int} {off : Int} (tgt : Nat) (hd : decode cc pc = .ok (.ifCond .ge off, 3)) (ht : (pc : Int) + off = (tgt : Int)) (hx : rg x) (kt : 0 ≤ x → N Φ k n σ tgt lv st) (kf : x < 0 → N Φ k n σ (pc + 3) lv st) : N Φ k n σ pc lv (iv x :: st) := by
  obtain ⟨p, l, e, R, s, m, args, below, meth, c, A, κ, ε, nL, Q⟩ := Φ
  intro ws H locs ls hR hP hD hS hl
  exact lv_if_ge C.2.1 C.2.2.1 hd ht (fun h => kt (by have h := (iI_le rg_0 hx).mp h; omega) ws H locs ls hR hP hD hS hl) (fun h => kf (by have h := mt (iI_le rg_0 hx).mpr h; omega) ws H locs ls hR hP hD hS hl)
theorem n_icmp_ge (C : Ok g Φ cc own ret d mc ms) {x y : Int} {off : Int} (tgt : Nat) (hd : decode cc pc = .ok (.if_icmp .ge off, 3)) (ht : (pc : Int) + off = (tgt : Int)) (hx : rg x) (hy : rg y) (kt : y ≤ x → N Φ k n σ tgt lv st) (kf : x < y → N Φ k n σ (pc + 3) lv st) : N Φ k n σ pc lv (iv y :: iv x :: st) := by
  obtain ⟨p, l, e, R, s, m, args, below, meth, c, A, κ, ε, nL, Q⟩ := Φ
  intro ws H locs ls hR hP hD hS hl
  exact lv_icmp_ge C.2.1 C.2.2.1 hd ht (fun h => kt (by have h := (iI_le hy hx).mp h; omega) ws H locs ls hR hP hD hS hl) (fun h => kf (by have h := mt (iI_le hy hx).mpr h; omega) ws H locs ls hR hP hD hS hl)
theorem n_if_gt (C : Ok g Φ cc own ret d mc ms) {x : Int} {off : Int} (tgt : Nat) (hd : decode cc pc = .ok (.ifCond .gt off, 3)) (ht : (pc : Int) + off = (tgt : Int)) (hx : rg x) (kt : 0 < x → N Φ k n σ tgt lv st) (kf : x ≤ 0 → N Φ k n σ (pc + 3) lv st) : N Φ k n σ pc lv (iv x :: st) := by
  obtain ⟨p, l, e, R, s, m, args, below, meth, c, A, κ, ε, nL, Q⟩ := Φ
  intro ws H locs ls hR hP hD hS hl
  exact lv_if_gt C.2.1 C.2.2.1 hd ht (fun h => kt (by have h := (iI_lt rg_0 hx).mp h; omega) ws H locs ls hR hP hD hS hl) (fun h => kf (by have h := mt (iI_lt rg_0 hx).mpr h; omega) ws H locs ls hR hP hD hS hl)
theorem n_icmp_gt (C : Ok g Φ cc own ret d mc ms) {x y : Int} {off : Int} (tgt : Nat) (hd : decode cc pc = .ok (.if_icmp .gt off, 3)) (ht : (pc : Int) + off = (tgt : Int)) (hx : rg x) (hy : rg y) (kt : y < x → N Φ k n σ tgt lv st) (kf : x ≤ y → N Φ k n σ (pc + 3) lv st) : N Φ k n σ pc lv (iv y :: iv x :: st) := by
  obtain ⟨p, l, e, R, s, m, args, below, meth, c, A, κ, ε, nL, Q⟩ := Φ
  intro ws H locs ls hR hP hD hS hl
  exact lv_icmp_gt C.2.1 C.2.2.1 hd ht (fun h => kt (by have h := (iI_lt hy hx).mp h; omega) ws H locs ls hR hP hD hS hl) (fun h => kf (by have h := mt (iI_lt hy hx).mpr h; omega) ws H locs ls hR hP hD hS hl)
theorem n_if_le (C : Ok g Φ cc own ret d mc ms) {x : Int} {off : Int} (tgt : Nat) (hd : decode cc pc = .ok (.ifCond .le off, 3)) (ht : (pc : Int) + off = (tgt : Int)) (hx : rg x) (kt : x ≤ 0 → N Φ k n σ tgt lv st) (kf : 0 < x → N Φ k n σ (pc + 3) lv st) : N Φ k n σ pc lv (iv x :: st) := by
  obtain ⟨p, l, e, R, s, m, args, below, meth, c, A, κ, ε, nL, Q⟩ := Φ
  intro ws H locs ls hR hP hD hS hl
  exact lv_if_le C.2.1 C.2.2.1 hd ht (fun h => kt (by have h := (iI_le hx rg_0).mp h; omega) ws H locs ls hR hP hD hS hl) (fun h => kf (by have h := mt (iI_le hx rg_0).mpr h; omega) ws H locs ls hR hP hD hS hl)
theorem n_icmp_le (C : Ok g Φ cc own ret d mc ms) {x y : Int} {off : Int} (tgt : Nat) (hd : decode cc pc = .ok (.if_icmp .le off, 3)) (ht : (pc : Int) + off = (tgt : Int)) (hx : rg x) (hy : rg y) (kt : x ≤ y → N Φ k n σ tgt lv st) (kf : y < x → N Φ k n σ (pc + 3) lv st) : N Φ k n σ pc lv (iv y :: iv x :: st) := by
  obtain ⟨p, l, e, R, s, m, args, below, meth, c, A, κ, ε, nL, Q⟩ := Φ
  intro ws H locs ls hR hP hD hS hl
  exact lv_icmp_le C.2.1 C.2.2.1 hd ht (fun h => kt (by have h := (iI_le hx hy).mp h; omega) ws H locs ls hR hP hD hS hl) (fun h => kf (by have h := mt (iI_le hx hy).mpr h; omega) ws H locs ls hR hP hD hS hl)
theorem n_if_ne (C : Ok g Φ cc own ret d mc ms) {x : Int} {off : Int} (tgt : Nat) (hd : decode cc pc = .ok (.ifCond .ne off, 3)) (ht : (pc : Int) + off = (tgt : Int)) (hx : rg x) (kt : x ≠ 0 → N Φ k n σ tgt lv st) (kf : x = 0 → N Φ k n σ (pc + 3) lv st) : N Φ k n σ pc lv (iv x :: st) := by
  obtain ⟨p, l, e, R, s, m, args, below, meth, c, A, κ, ε, nL, Q⟩ := Φ
  intro ws H locs ls hR hP hD hS hl
  exact lv_if_ne C.2.1 C.2.2.1 hd ht (fun h => kt (fun q => h ((iI_eq hx rg_0).mpr q)) ws H locs ls hR hP hD hS hl) (fun h => kf (by first | exact (iI_eq hx rg_0).mp h | exact (iI_eq hx rg_0).mp (Classical.not_not.mp h)) ws H locs ls hR hP hD hS hl)
theorem n_icmp_ne (C : Ok g Φ cc own ret d mc ms) {x y : Int} {off : Int} (tgt : Nat) (hd : decode cc pc = .ok (.if_icmp .ne off, 3)) (ht : (pc : Int) + off = (tgt : Int)) (hx : rg x) (hy : rg y) (kt : x ≠ y → N Φ k n σ tgt lv st) (kf : x = y → N Φ k n σ (pc + 3) lv st) : N Φ k n σ pc lv (iv y :: iv x :: st) := by
  obtain ⟨p, l, e, R, s, m, args, below, meth, c, A, κ, ε, nL, Q⟩ := Φ
  intro ws H locs ls hR hP hD hS hl
  exact lv_icmp_ne C.2.1 C.2.2.1 hd ht (fun h => kt (fun q => h ((iI_eq hx hy).mpr q)) ws H locs ls hR hP hD hS hl) (fun h => kf (by first | exact (iI_eq hx hy).mp h | exact (iI_eq hx hy).mp (Classical.not_not.mp h)) ws H locs ls hR hP hD hS hl)
theorem n_ifnonnull (C : Ok g Φ cc own ret d mc ms) {r : Option Nat} {off : Int} (tgt : Nat) (hd : decode cc pc = .ok (.ifnonnull off, 3)) (ht : (pc : Int) + off = (tgt : Int)) (kt : ∀ a, r = some a → N Φ k n σ tgt lv st) (kf : r = none → N Φ k n σ (pc + 3) lv st) : N Φ k n σ pc lv (va_rf r :: st) := by
  obtain ⟨p, l, e, R, s, m, args, below, meth, c, A, κ, ε, nL, Q⟩ := Φ
  intro ws H locs ls hR hP hD hS hl
  cases r with
  | none => exact lv_ifnonnullN C.2.1 C.2.2.1 hd (kf rfl ws H locs ls hR hP hD hS hl)
  | some a => exact lv_ifnonnull C.2.1 C.2.2.1 hd ht (kt a rfl ws H locs ls hR hP hD hS hl)
theorem n_ifnull (C : Ok g Φ cc own ret d mc ms) {r : Option Nat} {off : Int} (tgt : Nat) (hd : decode cc pc = .ok (.ifnull off, 3)) (ht : (pc : Int) + off = (tgt : Int)) (kt : r = none → N Φ k n σ tgt lv st) (kf : ∀ a, r = some a → N Φ k n σ (pc + 3) lv st) : N Φ k n σ pc lv (va_rf r :: st) := by
  obtain ⟨p, l, e, R, s, m, args, below, meth, c, A, κ, ε, nL, Q⟩ := Φ
  intro ws H locs ls hR hP hD hS hl
  cases r with
  | none => exact lv_ifnullN C.2.1 C.2.2.1 hd ht (kt rfl ws H locs ls hR hP hD hS hl)
  | some a => exact lv_ifnull C.2.1 C.2.2.1 hd (kf a rfl ws H locs ls hR hP hD hS hl)
theorem n_acmp_ne (C : Ok g Φ cc own ret d mc ms) {a b : Nat} {off : Int} (tgt : Nat) (hd : decode cc pc = .ok (.if_acmp .ne off, 3)) (ht : (pc : Int) + off = (tgt : Int)) (kt : a ≠ b → N Φ k n σ tgt lv st) (kf : a = b → N Φ k n σ (pc + 3) lv st) : N Φ k n σ pc lv (.ref b :: .ref a :: st) := by
  obtain ⟨p, l, e, R, s, m, args, below, meth, c, A, κ, ε, nL, Q⟩ := Φ
  intro ws H locs ls hR hP hD hS hl
  exact lv_acmp_ne (rx := some a) (ry := some b) C.2.1 C.2.2.1 hd ht (fun h => kt (fun q => h (by rw [q])) ws H locs ls hR hP hD hS hl) (fun h => kf (by first | exact Option.some.inj h | exact Option.some.inj (Classical.not_not.mp h)) ws H locs ls hR hP hD hS hl)
theorem n_acmp_eq (C : Ok g Φ cc own ret d mc ms) {a b : Nat} {off : Int} (tgt : Nat) (hd : decode cc pc = .ok (.if_acmp .eq off, 3)) (ht : (pc : Int) + off = (tgt : Int)) (kt : a = b → N Φ k n σ tgt lv st) (kf : a ≠ b → N Φ k n σ (pc + 3) lv st) : N Φ k n σ pc lv (.ref b :: .ref a :: st) := by
  obtain ⟨p, l, e, R, s, m, args, below, meth, c, A, κ, ε, nL, Q⟩ := Φ
  intro ws H locs ls hR hP hD hS hl
  exact lv_acmp_eq (rx := some a) (ry := some b) C.2.1 C.2.2.1 hd ht (fun h => kt (Option.some.inj h) ws H locs ls hR hP hD hS hl) (fun h => kf (fun q => h (by rw [q])) ws H locs ls hR hP hD hS hl)
end Rows
end NK2
