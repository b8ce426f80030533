/-! ===== BEGIN a constructor that throws (launches without stack traces) ===== -/
section VXIA
variable {p : Program} {l : Launch} {e : Env} {R : Room} {s : State} {m : MethodId} {args : Array Value} {below : List Frame} {meth : Method} {c : Code} {T : State} {locs : List Loc} {cells slots : Nat}
theorem vx_callI (X : Stand p l e R s m args below meth c T locs cells slots) (hexec : p.tables.exec = Jvm.exec) {own : String} {index : Nat} {y : MethodName} {bytes : ByteArray} {maxL : Nat}
    (hown : s.vm.findClass own = some m.cls) (hy1 : y.name = "<init>") (hlink : (Cond.methodLink own index y).before args s = true) (hinst : (Cond.instanceMethod y).before args s = true)
    (hcode : (Cond.code y bytes maxL none).before args s = true) (hy : y.cls ≠ "java/lang/invoke/MethodHandle" ∧ y.cls ≠ "java/lang/invoke/VarHandle")
    {W9 : Nat} {Pre : Pt → Array Value → Prop} {Post : Pt → Array Value → Option Value → Pt → Prop} {PostX : Pt → Array Value → Addr → Pt → Prop} (hK : vx_Back l R p e below s args y 3 W9 Pre Post PostX)
    {g : JFrame} (hg : g.method = m) (hsize : g.locals.size = c.maxLocals) {a : Addr} {argsL rest : List Value} (hlen : ∀ sig, parseMethodDescriptor y.desc = some sig → argsL.length = sig.parameters.length)
    (hstack : g.stack = argsL.reverse ++ .ref a :: rest) (hW : 2 * g.monitorRoom + (rest.map fun v => v.category).sum ≤ W9) (hdg : decode c.code g.pc = .ok (.invokespecial index, 3))
    (hpre : ∀ vm₁, s.WarmedH vm₁ → Pre ⟨T.setVm vm₁, locs, cells, slots⟩ (Value.ref a :: argsL).toArray) :
    (∃ (v : Option Value) (vm₁ : Vm) (B : Pt), s.WarmedH vm₁ ∧ Stand p l e R s m args below meth c B.U B.locs B.cells B.slots ∧ Post ⟨T.setVm vm₁, locs, cells, slots⟩ (Value.ref a :: argsL).toArray v B ∧
      ∀ target, Steps p.tables e below (B.U.setTop { g with pc := g.pc + 3, stack := v.toList ++ rest }) target → Steps p.tables e below (T.setTop g) target) ∨
    (∃ (q : Addr) (vm₁ : Vm) (B : Pt), s.WarmedH vm₁ ∧ Stand p l e R s m args below meth c B.U B.locs B.cells B.slots ∧ PostX ⟨T.setVm vm₁, locs, cells, slots⟩ (Value.ref a :: argsL).toArray q B ∧
      Steps p.tables e below (T.setTop g) ((B.U.setTop { g with stack := rest }).pushFrame (.throwing q))) := by
  subst hg
  have hpl : e.platform.magicAccessors = ({} : Platform).magicAccessors := by rw [X.admits.platform]
  obtain ⟨mk, methM, cM, kP, vm₁, hnamed, hmethM, hcodeM, -, hlocalsM, -, hkP, -, hW₁, hstep₁⟩ := Steps.initColdArgs (e := e) X.here hexec X.warmed hpl hown hy1 hy hlink hinst hcode (f := g) rfl hlen hstack hdg
  have X₁ := X.noted hW₁
  rcases hK g.method meth c ⟨T.setVm vm₁, locs, cells, slots⟩ { g with stack := rest } (.invokespecial index) mk (Value.ref a :: argsL).toArray X₁ rfl hsize hdg hW (X₁.named hnamed) (hpre vm₁ X₁.warmed) with ⟨v, B, X', hpost, hsteps⟩ | ⟨q, B, X', hpost, hsteps⟩
  · exact Or.inl ⟨v, vm₁, B, X₁.warmed, X', hpost, fun target h => hstep₁ _ fun acts => by rw [doInvoke_state]; exact hsteps.trans h⟩
  · exact Or.inr ⟨q, vm₁, B, X₁.warmed, X', hpost, hstep₁ _ fun acts => by rw [doInvoke_state]; exact hsteps⟩
end VXIA
section VXIB
variable {p : Program} {l : Launch} {e : Env} {R : Room} {s : State} {m : MethodId} {args : Array Value} {below : List Frame} {meth : Method} {c : Code} {H : Heap} {locs : List Loc} {cells slots : Nat}
variable {y : MethodName} {bytes cc : ByteArray} {maxL nL mc ms n index : Nat} {ret : Option FieldType} {ws : List Cond} {rm : Room} {Pc : Array Value → State → Prop} {Qc : Array Value → State → Outcome → State → Prop} {XC : String → State → State → Prop} {free : Addr → Prop} {Ts : List Cond} {own C : String} {b : Addr} {As rest : List Value} {g : JFrame}
theorem vx_runI (S : CallFix p m c cc nL s args Ts own) (hM : vx_Met l y ws rm Pc Qc XC mc ms free) (cw : CallB R s args own index y bytes maxL none ws rm mc ms n ∧ y.name = "<init>" ∧ (Cond.instanceMethod y).before args s = true) (hp : PreS s H Pc (.ref b :: As))
    (hg : g.method = m) (hn : As.length = n) (hsize : g.locals.size = nL) (hstack : g.stack = As.reverse ++ .ref b :: rest) (hW : 2 * g.monitorRoom + (rest.map fun v => v.category).sum ≤ 8) (hdg : decode cc g.pc = .ok (.invokespecial index, 3)) (hf : cells + mc ≤ R.cells ∧ slots + ms ≤ R.slots) :
    vx_Run p l e R s m args below meth c H locs cells slots mc ms g rest (Qc (Value.ref b :: As).toArray) XC free := by
  have hK : vx_Back l R p e below s args y 3 8 (PreOf R mc ms Pc) (PostOf Qc mc ms free) (vx_Post XC mc ms free) := vx_callBack cw.1 hM hp.1
  obtain ⟨⟨-, -, -, -, -, -, hcode, -, hy, hlen, hl⟩, hy1, hin⟩ := cw
  obtain ⟨hx, hb, hml, ho, -⟩ := S
  have hPc := hp.2
  intro T hT X
  rcases vx_callI X hx (bytes := bytes) (maxL := maxL) ho hy1 hl hin hcode hy hK hg (hsize.trans hml.symm) (a := b) (argsL := As) (rest := rest) (fun sig h => hn.trans (hlen sig h)) hstack hW (by rw [hb]; exact hdg)
    (fun vm₁ hW₁ => ⟨hf.1, hf.2, hPc (T.setVm vm₁) hT hW₁⟩) with ⟨v, vm₁, ⟨U', l2, c2, s2⟩, hW₁, X', ⟨g', mk, t, L, e1, e2, hq, h1, hL, h2, h3⟩, st⟩ | ⟨q, vm₁, ⟨U', l2, c2, s2⟩, hW₁, X', ⟨g', mk, t, L, E, ce, e1, e2, hq, hce, hcv, hcl, h1, hL, h2, h3⟩, st⟩
  · dsimp only [Pt.U, Pt.locs, Pt.cells, Pt.slots] at X' e1 e2 h1 h2 h3 st
    subst h1; subst h2; subst h3
    exact Or.inl ⟨v, (T.setVm vm₁).calling g' mk (Value.ref b :: As).toArray, t, U', L, hT, X', hL, e1, e2, hq, st⟩
  · dsimp only [Pt.U, Pt.locs, Pt.cells, Pt.slots] at X' e1 e2 h1 h2 h3 st hcl
    subst h1; subst h2; subst h3
    exact Or.inr ⟨q, (T.setVm vm₁).calling g' mk (Value.ref b :: As).toArray, t, U', L, E, ce, hT, X', hL, e1, e2, hq, hce, hcv, vx_cls hW₁ hcl, st⟩
end VXIB
/-! ===== END ===== -/
section NK4
variable {g : Gx} {Φ : Fx} {cc : ByteArray} {own : String} {ret : Option FieldType} {d mc ms k n : Nat} {σ : Wd} {pc : Nat} {lv lv' : List (Nat × Value)} {st : List Value} {Po : Option Value → Wd → Prop} {Px : String → Wd → Prop} {σ0 : Wd}
theorem n_fresh {A : Nat → Prop} {ws : va_W} {q : Nat} {e : va_E} (hR : wR σ ws) (hD : va_D A (ws ++ [(q, e)])) : σ q = none := by
  cases h : σ q with
  | none => rfl
  | some e' =>
    obtain ⟨j, hj⟩ := hR.cell h
    have hl' := (List.getElem?_eq_some_iff.mp hj).1
    have := hD.1 j ws.length (q, e') (q, e) (by rw [List.getElem?_append_left hl']; exact hj) (by rw [List.getElem?_append_right (Nat.le_refl _), Nat.sub_self]; rfl) rfl
    omega
theorem n_newI (C : Ok g Φ cc own ret d mc ms) {M : Nat} (hM : M ≤ 100000) (hw : Cond.arrayClass .int ∈ GT) (h1 : k + 1 ≤ mc) (h2 : n + M ≤ ms) (hd : decode cc pc = .ok (.newarray .int, 2)) (K : ∀ q : Nat, σ q = none → N Φ (k + 1) (n + M) (wup σ q (eI g.2.1 M (fun _ => 0))) (pc + 2) lv (.ref q :: st)) : N Φ k n σ pc lv (iv M :: st) := by
  obtain ⟨p, l, e, R, s, m, args, below, meth, c, A, κ, ε, nL, Q⟩ := Φ
  obtain ⟨rfl, hx, hb, hml, hown, hret, hts, hK, hlk, hA, hE, hst, hR1, hR2, rfl, rfl⟩ := C
  intro ws H locs ls hR hP hD hS hl
  have hr : rg (M : Int) := by unfold rg; omega
  refine va_newa (atype := .int) (ty := .int) (N' := M) (a0 := (M, .inl (fun _ => iI 0))) hx hb (hts _ hw) rfl hK hP hD hS hA (fun _ => rfl) (fun h => by have := (iI_lt hr rg_0).mp h; omega) (by rw [iI_c hr]; omega) (by show M * 4 ≤ _; omega) h1 h2 hd (fun q cA H1 hK1 hP1 hD1 hS1 => ?_)
  have e1 : s.vm.findClass "[I" = some cA := (hK1.2 5 (cA, .int) rfl).2
  have e2 : s.vm.findClass "[I" = some (kI κ) := (hK.2 0 (kI κ, .int) rfl).2
  have e3 : cA = kI κ := Option.some.inj (e1.symm.trans e2)
  subst e3
  exact K q (n_fresh hR hD1) _ H1 locs ls (hR.push hD1) hP1 hD1 hS1 hl
theorem n_newZ (C : Ok g Φ cc own ret d mc ms) {M : Nat} (hM : M ≤ 100000) (hw : Cond.arrayClass .boolean ∈ GT) (h1 : k + 1 ≤ mc) (h2 : n + M ≤ ms) (hd : decode cc pc = .ok (.newarray .boolean, 2)) (K : ∀ q : Nat, σ q = none → N Φ (k + 1) (n + M) (wup σ q (eZ g.2.1 M (fun _ => 0))) (pc + 2) lv (.ref q :: st)) : N Φ k n σ pc lv (iv M :: st) := by
  obtain ⟨p, l, e, R, s, m, args, below, meth, c, A, κ, ε, nL, Q⟩ := Φ
  obtain ⟨rfl, hx, hb, hml, hown, hret, hts, hK, hlk, hA, hE, hst, hR1, hR2, rfl, rfl⟩ := C
  intro ws H locs ls hR hP hD hS hl
  have hr : rg (M : Int) := by unfold rg; omega
  refine va_newa (atype := .boolean) (ty := .boolean) (N' := M) (a0 := (M, .inl (fun _ => iI 0))) hx hb (hts _ hw) rfl hK hP hD hS hA (fun _ => rfl) (fun h => by have := (iI_lt hr rg_0).mp h; omega) (by rw [iI_c hr]; omega) (by show M * 1 ≤ _; omega) h1 h2 hd (fun q cA H1 hK1 hP1 hD1 hS1 => ?_)
  have e1 : s.vm.findClass "[Z" = some cA := (hK1.2 5 (cA, .boolean) rfl).2
  have e2 : s.vm.findClass "[Z" = some (kZ κ) := (hK.2 1 (kZ κ, .boolean) rfl).2
  have e3 : cA = kZ κ := Option.some.inj (e1.symm.trans e2)
  subst e3
  exact K q (n_fresh hR hD1) _ H1 locs ls (hR.push hD1) hP1 hD1 hS1 hl
theorem n_newO (C : Ok g Φ cc own ret d mc ms) {M idx : Nat} (hM : M ≤ 100000) (hw : Cond.classLink own idx "java/lang/Object" ∈ GT) (h1 : k + 1 ≤ mc) (h2 : n + M ≤ ms) (hd : decode cc pc = .ok (.anewarray idx, 3)) (K : ∀ q : Nat, σ q = none → N Φ (k + 1) (n + M) (wup σ q (eO g.2.1 M (fun _ => none))) (pc + 3) lv (.ref q :: st)) : N Φ k n σ pc lv (iv M :: st) := by
  obtain ⟨p, l, e, R, s, m, args, below, meth, c, A, κ, ε, nL, Q⟩ := Φ
  obtain ⟨rfl, hx, hb, hml, hown, hret, hts, hK, hlk, hA, hE, hst, hR1, hR2, rfl, rfl⟩ := C
  intro ws H locs ls hR hP hD hS hl
  have hr : rg (M : Int) := by unfold rg; omega
  refine va_newq (C := "java/lang/Object") (N' := M) hx hb hown (hts _ hw) hE.2.2.2.2.1 hK hP hD hS hA (fun h => by have := (iI_lt hr rg_0).mp h; omega) (by rw [iI_c hr]; omega) (by omega) h1 h2 hd (fun q cA H1 hK1 hP1 hD1 hS1 => ?_)
  obtain ⟨-, -, -, -, -, e1⟩ := (hK1.2 5 (cA, .object "java/lang/Object") rfl).2
  obtain ⟨-, -, -, -, -, e2⟩ := (hK.2 3 (kO κ, .object "java/lang/Object") rfl).2
  have e3 : cA = kO κ := Option.some.inj (e1.symm.trans e2)
  subst e3
  exact K q (n_fresh hR hD1) _ H1 locs ls (hR.push hD1) hP1 hD1 hS1 hl
theorem n_newC (C : Ok g Φ cc own ret d mc ms) {M idx : Nat} (hM : M ≤ 100000) (hw : Cond.classLink own idx "OperaMachines$Cue" ∈ GT) (h1 : k + 1 ≤ mc) (h2 : n + M ≤ ms) (hd : decode cc pc = .ok (.anewarray idx, 3)) (K : ∀ q : Nat, σ q = none → N Φ (k + 1) (n + M) (wup σ q (eC g.2.1 M (fun _ => none))) (pc + 3) lv (.ref q :: st)) : N Φ k n σ pc lv (iv M :: st) := by
  obtain ⟨p, l, e, R, s, m, args, below, meth, c, A, κ, ε, nL, Q⟩ := Φ
  obtain ⟨rfl, hx, hb, hml, hown, hret, hts, hK, hlk, hA, hE, hst, hR1, hR2, rfl, rfl⟩ := C
  intro ws H locs ls hR hP hD hS hl
  have hr : rg (M : Int) := by unfold rg; omega
  refine va_newq (C := "OperaMachines$Cue") (N' := M) hx hb hown (hts _ hw) hE.2.2.2.2.2.1 hK hP hD hS hA (fun h => by have := (iI_lt hr rg_0).mp h; omega) (by rw [iI_c hr]; omega) (by omega) h1 h2 hd (fun q cA H1 hK1 hP1 hD1 hS1 => ?_)
  obtain ⟨-, -, -, -, -, e1⟩ := (hK1.2 5 (cA, .object "OperaMachines$Cue") rfl).2
  obtain ⟨-, -, -, -, -, e2⟩ := (hK.2 4 (kC κ, .object "OperaMachines$Cue") rfl).2
  have e3 : cA = kC κ := Option.some.inj (e1.symm.trans e2)
  subst e3
  exact K q (n_fresh hR hD1) _ H1 locs ls (hR.push hD1) hP1 hD1 hS1 hl
theorem n_cast (C : Ok g Φ cc own ret d mc ms) {a ci idx : Nat} {fs : List Value} {r : vw_C} (hσ : σ a = some (.inr (ci, fs))) (hc : vwCl[ci]? = some r) (hw : Cond.classLink own idx r.1 ∈ GT) (hd : decode cc pc = .ok (.checkcast idx, 3)) (K : N Φ k n σ (pc + 3) lv (.ref a :: st)) : N Φ k n σ pc lv (.ref a :: st) := by
  obtain ⟨p, l, e, R, s, m, args, below, meth, c, A, κ, ε, nL, Q⟩ := Φ
  obtain ⟨rfl, hx, hb, hml, hown, hret, hts, hK, -⟩ := C
  intro ws H locs ls hR hP hD hS hl
  obtain ⟨q, hq⟩ := hR.cell hσ
  exact va_castS hx hb hown (hts _ hw) (hK.1 ci r hc).2 (va_recv hK hP hc hq) hd (K ws H locs ls hR hP hD hS hl)
theorem n_objInit (C : Ok g Φ cc own ret d mc ms) {a idx : Nat} (hw1 : Cond.methodLink own idx Lib.objectInit ∈ GT) (hw2 : Cond.instanceMethod Lib.objectInit ∈ GT) (hw3 : Cond.code Lib.objectInit ⟨#[0xb1]⟩ 1 none ∈ GT) (hs : (st.map fun v => v.category).sum ≤ 100) (hd : decode cc pc = .ok (.invokespecial idx, 3)) (K : N Φ k n σ (pc + 3) lv st) : N Φ k n σ pc lv (.ref a :: st) := by
  obtain ⟨p, l, e, R, s, m, args, below, meth, c, A, κ, ε, nL, Q⟩ := Φ
  obtain ⟨rfl, hx, hb, hml, hown, hret, hts, hK, hlk, hA, hE, hst, hR1, hR2, rfl, rfl⟩ := C
  intro ws H locs ls hR hP hD hS hl
  refine W.objInit hx hb hown (hts _ hw1) (hts _ hw2) (hts _ hw3) rfl (by rw [hml]; exact hl.1) rfl hd (by omega) ?_ ?_
  · show 2 * 0 + _ + 12 ≤ R.locals
    omega
  · exact K ws H locs ls hR hP hD hS hl
theorem n_max (C : Ok g Φ cc own ret d mc ms) {x y : Int} {idx : Nat} (hx' : rg x) (hy' : rg y) (hw1 : Cond.methodLink own idx Lib.Math.max.name ∈ GT) (hw2 : Cond.static Lib.Math.max.name ∈ GT) (hw3 : Cond.initialized "java/lang/Math" ∈ GT) (hw4 : Cond.code Lib.Math.max.name Lib.Math.max.code 2 (some .int) ∈ GT) (hs : (st.map fun v => v.category).sum ≤ 100) (h1 : k ≤ mc) (h2 : n ≤ ms) (hd : decode cc pc = .ok (.invokestatic idx, 3)) (K : N Φ k n σ (pc + 3) lv (iv (max x y) :: st)) : N Φ k n σ pc lv (iv y :: iv x :: st) := by
  obtain ⟨p, l, e, R, s, m, args, below, meth, c, A, κ, ε, nL, Q⟩ := Φ
  obtain ⟨rfl, hx, hb, hml, hown, hret, hts, hK, hlk, hA, hE, hst, hR1, hR2, rfl, rfl⟩ := C
  intro ws H locs ls hR hP hD hS hl
  refine va_mmax hx hb (by rw [hml]; exact hl.1.symm) hown (hts _ hw1) (hts _ hw2) (hts _ hw3) (hts _ hw4) (by omega) (by omega) h1 h2 hd ?_
  have e1 : (if iI x < iI y then iI y else iI x) = iI (max x y) := by
    by_cases q : x < y
    · rw [if_pos ((iI_lt hx' hy').mpr q), show max x y = y by omega]
    · rw [if_neg (mt (iI_lt hx' hy').mp q), show max x y = x by omega]
  rw [e1]
  exact K ws H locs ls hR hP hD hS hl
theorem n_min (C : Ok g Φ cc own ret d mc ms) {x y : Int} {idx : Nat} (hx' : rg x) (hy' : rg y) (hw1 : Cond.methodLink own idx Lib.Math.min.name ∈ GT) (hw2 : Cond.static Lib.Math.min.name ∈ GT) (hw3 : Cond.initialized "java/lang/Math" ∈ GT) (hw4 : Cond.code Lib.Math.min.name Lib.Math.min.code 2 (some .int) ∈ GT) (hs : (st.map fun v => v.category).sum ≤ 100) (h1 : k ≤ mc) (h2 : n ≤ ms) (hd : decode cc pc = .ok (.invokestatic idx, 3)) (K : N Φ k n σ (pc + 3) lv (iv (min x y) :: st)) : N Φ k n σ pc lv (iv y :: iv x :: st) := by
  obtain ⟨p, l, e, R, s, m, args, below, meth, c, A, κ, ε, nL, Q⟩ := Φ
  obtain ⟨rfl, hx, hb, hml, hown, hret, hts, hK, hlk, hA, hE, hst, hR1, hR2, rfl, rfl⟩ := C
  intro ws H locs ls hR hP hD hS hl
  refine va_mmin hx hb (by rw [hml]; exact hl.1.symm) hown (hts _ hw1) (hts _ hw2) (hts _ hw3) (hts _ hw4) (by omega) (by omega) h1 h2 hd ?_
  have e1 : (if iI y < iI x then iI y else iI x) = iI (min x y) := by
    by_cases q : y < x
    · rw [if_pos ((iI_lt hy' hx').mpr q), show min x y = y by omega]
    · rw [if_neg (mt (iI_lt hy' hx').mp q), show min x y = x by omega]
  rw [e1]
  exact K ws H locs ls hR hP hD hS hl
theorem n_abs (C : Ok g Φ cc own ret d mc ms) {x : Int} {idx : Nat} (hx' : rg x) (hw1 : Cond.methodLink own idx Lib.Math.abs.name ∈ GT) (hw2 : Cond.static Lib.Math.abs.name ∈ GT) (hw3 : Cond.initialized "java/lang/Math" ∈ GT) (hw4 : Cond.code Lib.Math.abs.name Lib.Math.abs.code 1 (some .int) ∈ GT) (hs : (st.map fun v => v.category).sum ≤ 100) (h1 : k ≤ mc) (h2 : n ≤ ms) (hd : decode cc pc = .ok (.invokestatic idx, 3)) (K : N Φ k n σ (pc + 3) lv (iv (if 0 ≤ x then x else -x) :: st)) : N Φ k n σ pc lv (iv x :: st) := by
  obtain ⟨p, l, e, R, s, m, args, below, meth, c, A, κ, ε, nL, Q⟩ := Φ
  obtain ⟨rfl, hx, hb, hml, hown, hret, hts, hK, hlk, hA, hE, hst, hR1, hR2, rfl, rfl⟩ := C
  intro ws H locs ls hR hP hD hS hl
  refine va_mabs hx hb (by rw [hml]; exact hl.1.symm) hown (hts _ hw1) (hts _ hw2) (hts _ hw3) (hts _ hw4) (by omega) (by omega) h1 h2 hd ?_
  have e1 : (if 0 ≤ iI x then iI x else 0 - iI x) = iI (if 0 ≤ x then x else -x) := by
    by_cases q : 0 ≤ x
    · show (if iI 0 ≤ iI x then iI x else iI 0 - iI x) = _
      rw [if_pos ((iI_le rg_0 hx').mpr q), if_pos q]
    · show (if iI 0 ≤ iI x then iI x else iI 0 - iI x) = _
      rw [if_neg (mt (iI_le rg_0 hx').mp q), if_neg q, iI_sub, Int.zero_sub]
  rw [e1]
  exact K ws H locs ls hR hP hD hS hl
theorem n_ireturn {ty : FieldType} (C : Ok g Φ cc own (some ty) d mc ms) (Rr : Rt Φ σ0 Po Px mc ms) {x : Int} (hn : narrow ty (iv x) = iv x) (hp : Po (some (iv x)) σ) (h1 : k ≤ mc) (h2 : n ≤ ms) (hd : decode cc pc = .ok (.ireturn, 1)) : N Φ k n σ pc lv [iv x] := by
  obtain ⟨p, l, e, R, s, m, args, below, meth, c, A, κ, ε, nL, Q⟩ := Φ
  obtain ⟨rfl, hx, hb, hml, hown, hret, hts, hK, hlk, -⟩ := C
  obtain ⟨rfl, rfl, -⟩ := Rr
  intro ws H locs ls hR hP hD hS hl
  refine W.widen h1 h2 (vx_ret ?_)
  exact W.zret hx hb hret hn (fun t ht hW => ⟨⟨some (iv x), σ, rfl, hp, ws, hR, by rw [ht]; exact hP, hD⟩, hS.F ht⟩) hS.2.2 hd hlk
theorem n_return (C : Ok g Φ cc own none d mc ms) (Rr : Rt Φ σ0 Po Px mc ms) (hp : Po none σ) (h1 : k ≤ mc) (h2 : n ≤ ms) (hd : decode cc pc = .ok (.return_, 1)) : N Φ k n σ pc lv [] := by
  obtain ⟨p, l, e, R, s, m, args, below, meth, c, A, κ, ε, nL, Q⟩ := Φ
  obtain ⟨rfl, hx, hb, hml, hown, hret, hts, hK, hlk, -⟩ := C
  obtain ⟨rfl, rfl, -⟩ := Rr
  intro ws H locs ls hR hP hD hS hl
  refine W.widen h1 h2 (vx_ret ?_)
  exact W.vret hx hb hret (fun t ht hW => ⟨⟨none, σ, rfl, hp, ws, hR, by rw [ht]; exact hP, hD⟩, hS.F ht⟩) hS.2.2 hd hlk
theorem n_areturn {rt : FieldType} (C : Ok g Φ cc own (some rt) d mc ms) (Rr : Rt Φ σ0 Po Px mc ms) (hrt : (∃ n, rt = .object n) ∨ ∃ t, rt = .array t) {v : Value} (hv : v = .null ∨ ∃ a, v = .ref a) (hp : Po (some v) σ) (h1 : k ≤ mc) (h2 : n ≤ ms) (hd : decode cc pc = .ok (.areturn, 1)) : N Φ k n σ pc lv [v] := by
  obtain ⟨p, l, e, R, s, m, args, below, meth, c, A, κ, ε, nL, Q⟩ := Φ
  obtain ⟨rfl, hx, hb, hml, hown, hret, hts, hK, hlk, -⟩ := C
  obtain ⟨rfl, rfl, -⟩ := Rr
  intro ws H locs ls hR hP hD hS hl
  refine W.widen h1 h2 (vx_ret ?_)
  exact W.aret hx hb hret hrt hv (fun t ht hW => ⟨⟨some v, σ, rfl, hp, ws, hR, by rw [ht]; exact hP, hD⟩, hS.F ht⟩) hS.2.2 hd hlk
theorem n_out {E : String} (C : Ok g Φ cc own ret d mc ms) (Rr : Rt Φ σ0 Po Px mc ms) (hp : Px E σ) (h1 : k ≤ mc) (h2 : n ≤ ms) : NX Φ k n σ pc lv E := by
  obtain ⟨p, l, e, R, s, m, args, below, meth, c, A, κ, ε, nL, Q⟩ := Φ
  obtain ⟨rfl, hx, hb, hml, hown, hret, hts, hK, hlk, -⟩ := C
  obtain ⟨rfl, rfl, hT⟩ := Rr
  intro ws H locs ls q ce rest hR hP hD hS hl hc1 hc2 hc3
  exact vx_out (fun x hx => (hT x hx).elim) hlk hc1 hc2 hc3 (fun t ht hv => ⟨⟨σ, hp, ws, hR, by rw [ht]; exact hP, hD⟩, hS.F ht⟩) hS.2.2 h1 h2
theorem n_throw (C : Ok g Φ cc "OperaMachines" ret d mc ms) (Rr : Rt Φ σ0 Po Px mc ms) {cls text : String} {names : List String} {ik is ic : Nat} (hm : (is, text) ∈ txts) (hcls : Bundle.fit cls = true) (hnames : ∀ n ∈ names, Bundle.fit n = true) (hn : names.length ≤ 3) (hk : Cond.classLink "OperaMachines" ik cls ∈ GT) (hini : Cond.initialized cls ∈ GT) (hat : ∀ w ∈ vx_atS "OperaMachines" ic cls names, w ∈ GT) (hgood : ∀ w ∈ Cond.classLink "OperaMachines" ik cls :: Cond.initialized cls :: vx_atS "OperaMachines" ic cls names, vx_ot w = true)
    (d0 : decode cc pc = .ok (.new ik, 3)) (d3 : decode cc (pc + 3) = .ok (.dup, 1)) (d4 : decode cc (pc + 4) = .ok (.ldc is, 2)) (d6 : decode cc (pc + 6) = .ok (.invokespecial ic, 3)) (d9 : decode cc (pc + 9) = .ok (.athrow, 1)) (hs : (st.map fun v => v.category).sum ≤ 100) (hp : Px cls σ) (h1 : k + 1 ≤ mc) (h2 : n + 6 ≤ ms) : N Φ k n σ pc lv st := by
  obtain ⟨p, l, e, R, s, m, args, below, meth, c, A, κ, ε, nL, Q⟩ := Φ
  obtain ⟨rfl, hx, hb, hml, hown, hret, hts, hK, hlk, hA, hE, hst, hR1, hR2, rfl, rfl⟩ := C
  obtain ⟨rfl, rfl, hT⟩ := Rr
  intro ws H locs ls hR hP hD hS hl
  refine vx_throwS (names := names) (text := text) (sa := ε.2.2 is) hx hb hst hown hcls hnames (hts _ hk) (hts _ hini) (hE.2.2.2.2.2.2.2.1 _ hm) (fun w h => hts w (hat w h)) hgood hE.2.2.1 hE.2.2.2.1 hS (by rw [hml]; exact hl.1) d0 d3 d4 d6 d9 (fun x hx => (hT x hx).elim) (by omega) ?_ h1 h2 hlk (fun t hv hz hq => ?_) hS.2.2 h1 h2
  · have : 13 * (names.length + 1) ≤ 52 := by omega
    omega
  · refine ⟨⟨σ, hp, ws, hR, hP.kept (fun k q hk => hq q.1 (hP k q hk).lt), hD⟩, Nat.le_trans hS.1 hz, fun q h1 h2 => ?_⟩
    rw [hq q (Nat.lt_of_lt_of_le h1 hS.1)]
    exact hS.2.1 q h1 h2
/-- behind a call -/
theorem nx_tail {p : Program} {l : Launch} {e : Env} {R : Room} {s : State} {m : MethodId} {args : Array Value} {below : List Frame} {meth : Method} {c : Code} {A : Nat → Prop} {κ : KG} {ε : EpT} {nL : Nat} {Q : State → Prop} {ws : va_W} {H : Heap} {locs : List Loc} {ls : Array Slot} {mc' ms' : Nat} {Po' : Option Value → Wd → Prop} {Px' : String → Wd → Prop} {a : Array Value} {st0 : List Value}
    (hR : wR σ ws) (hD : va_D A ws) (hS : va_S A s.heap H locs) (hl : lv_has ls nL lv) (hA : ∀ q, s.heap.size ≤ q → A q)
    (hr : vx_Run p l e R s m args below meth c H locs k n mc' ms' (F0 m pc ls st0) st (Qcc κ σ H.size Po' a) (Xcc κ σ H.size Px') (fr σ H.size))
    (K : ∀ r σ', Po' r σ' → N (p, l, e, R, s, m, args, below, meth, c, A, κ, ε, nL, Q) (k + mc') (n + ms') σ' (pc + 3) lv (r.toList ++ st)) (KX : ∀ E σ', Px' E σ' → NX (p, l, e, R, s, m, args, below, meth, c, A, κ, ε, nL, Q) (k + mc') (n + ms') σ' pc lv E) :
    W p l e R s m args below meth c H locs k n Q (F0 m pc ls st0) := by
  intro T hT X
  have frA := fr_A hR hD hS hA
  rcases hr T hT X with ⟨v, st₀, t, T', L, h0, X', hL, e1, e2, ⟨⟨r, σ', hv, hp, ws', hR', hP', hD'⟩, hF⟩, stp⟩ | ⟨q, st₀, t, T', L, E, ce, h0, X', hL, e1, e2, ⟨⟨σ', hp, ws', hR', hP', hD'⟩, hF⟩, hce, hcv, hcl, stp⟩
  · cases hv
    obtain ⟨k1, k2, k3⟩ := vx_keep h0 e1 hS (fun q _ h => frA q h) frA hL hF
    obtain ⟨t2, a1, b1⟩ := K v σ' hp ws' T'.heap (locs ++ L) ls hR' (by rw [e1]; exact hP') (hD'.weaken (fun k q _ h => frA _ h)) k3 hl T' rfl X'
    exact ⟨t2, stp t2 a1, b1⟩
  · obtain ⟨k1, k2, k3⟩ := vx_keep h0 e1 hS (fun q _ h => frA q h) frA hL hF
    obtain ⟨t2, a1, b1⟩ := KX E σ' hp ws' T'.heap (locs ++ L) ls q ce st hR' (by rw [e1]; exact hP') (hD'.weaken (fun k q _ h => frA _ h)) k3 hl (by rw [e1]; exact hce) hcv hcl T' rfl X'
    exact ⟨t2, stp.trans a1, b1⟩
theorem gt_go {s : State} {args : Array Value} (hts : ∀ w ∈ GT, w.before args s = true) {w0 : Cond} (h0 : w0 ∈ GT) : ∀ w ∈ w0 :: GT, ∀ (a' : Array Value) (U : State), s.WarmedH U.vm → w.before a' U = true := by
  intro w hw a' U hW
  have h1 : w ∈ GT := by
    rcases List.mem_cons.mp hw with rfl | h
    · exact h0
    · exact h
  exact tw_at hW (List.mem_filter.mp h1).2 (hts w h1)
/-- the words of a call -/
def cG (own : String) (idx : Nat) (y : MethodName) (cc' : ByteArray) (nL' : Nat) (ret' : Option FieldType) (np : Nat) : Prop :=
  Cond.methodLink own idx y ∈ GT ∧ Cond.code y cc' nL' ret' ∈ GT ∧ Cond.initialized y.cls ∈ GT ∧ (y.cls ≠ "java/lang/invoke/MethodHandle" ∧ y.cls ≠ "java/lang/invoke/VarHandle") ∧ (parseMethodDescriptor y.desc).map (fun d => d.parameters.length) = some np ∧ nL' ≤ 20
theorem cG.len {own : String} {idx : Nat} {y : MethodName} {cc' : ByteArray} {nL' : Nat} {ret' : Option FieldType} {np : Nat} (h : cG own idx y cc' nL' ret' np) : ∀ sig, parseMethodDescriptor y.desc = some sig → np = sig.parameters.length := by
  intro sig hs
  have h2 := h.2.2.2.2.1
  rw [hs] at h2
  exact (Option.some.inj h2).symm
theorem n_invV (C : Ok g Φ cc own ret d mc ms) {idx b ci d' mc' ms' nL' : Nat} {y : MethodName} {cc' : ByteArray} {ret' : Option FieldType} {As fs : List Value} {T : u_T} {M : Nat} {Po' : Option Value → Wd → Prop} {Px' : String → Wd → Prop} (hM : CT g y cc' nL' ret' d' mc' ms' (.ref b :: As) σ Po' Px') (hw : cG own idx y cc' nL' ret' As.length) (hi : Cond.instanceMethod y ∈ GT) (hsel : Cond.selects y.cls y y ∈ GT) (hσ : σ b = some (.inr (ci, fs))) (hc : vwCl[ci]? = some (y.cls, T, M)) (hdd : d' + 1 ≤ d) (h1 : k + mc' ≤ mc) (h2 : n + ms' ≤ ms) (hs : (st.map fun v => v.category).sum ≤ 8) {st0 : List Value} (hst0 : st0 = As.reverse ++ .ref b :: st) (hd : decode cc pc = .ok (.invokevirtual idx, 3))
    (K : ∀ r σ', Po' r σ' → N Φ (k + mc') (n + ms') σ' (pc + 3) lv (r.toList ++ st)) (KX : ∀ E σ', Px' E σ' → NX Φ (k + mc') (n + ms') σ' pc lv E) : N Φ k n σ pc lv st0 := by
  obtain ⟨p, l, e, R, s, m, args, below, meth, c, A, κ, ε, nL, Q⟩ := Φ
  obtain ⟨rfl, hx, hb, hml, hown, hret, hts, hK, hlk, hA, hE, hst, hR1, hR2, rfl, rfl⟩ := C
  obtain ⟨w1, w2, w3, w4, w5, w6⟩ := id hw
  subst hst0
  intro ws H locs ls hR hP hD hS hl
  obtain ⟨q, hq⟩ := hR.cell hσ
  have frA := fr_A hR hD hS hA
  refine nx_tail hR hD hS hl hA (vx_runV (Ts := GT) ⟨hx, hb, hml, hown, hts⟩ (hM H.size) (C := y.cls) (n := As.length) (bytes := cc') (maxL := nL') (ret := ret') ⟨⟨rfl, rfl, by show 8 + d' + 1 ≤ R.frames; omega, by show 8 + (nL' + 11) + (200 + 40 * d') ≤ R.locals; omega, gt_go hts w2, List.mem_cons_self, hts _ w2, hts _ w3, w4, hw.len, hts _ w1⟩, hts _ hi, hts _ hsel⟩
    ⟨Pcc_blind, va_recv hK hP hc hq, fun U hU hW => ⟨rfl, by rw [hU], ⟨ws, hR, by rw [hU]; exact hP, hD.weaken (fun _ _ _ _ => trivial)⟩, va_K.moved hW.alike hK, by rw [hU]; exact hE.go hW hS.2.1 frA⟩⟩ rfl rfl hl.1 rfl (lv_room hs) hd ⟨h1, h2⟩) K KX
theorem n_invS (C : Ok g Φ cc own ret d mc ms) {idx d' mc' ms' nL' : Nat} {y : MethodName} {cc' : ByteArray} {ret' : Option FieldType} {As : List Value} {Po' : Option Value → Wd → Prop} {Px' : String → Wd → Prop} (hM : CT g y cc' nL' ret' d' mc' ms' As σ Po' Px') (hw : cG own idx y cc' nL' ret' As.length) (hi : Cond.static y ∈ GT) (hdd : d' + 1 ≤ d) (h1 : k + mc' ≤ mc) (h2 : n + ms' ≤ ms) (hs : (st.map fun v => v.category).sum ≤ 8) {st0 : List Value} (hst0 : st0 = As.reverse ++ st) (hd : decode cc pc = .ok (.invokestatic idx, 3))
    (K : ∀ r σ', Po' r σ' → N Φ (k + mc') (n + ms') σ' (pc + 3) lv (r.toList ++ st)) (KX : ∀ E σ', Px' E σ' → NX Φ (k + mc') (n + ms') σ' pc lv E) : N Φ k n σ pc lv st0 := by
  obtain ⟨p, l, e, R, s, m, args, below, meth, c, A, κ, ε, nL, Q⟩ := Φ
  obtain ⟨rfl, hx, hb, hml, hown, hret, hts, hK, hlk, hA, hE, hst, hR1, hR2, rfl, rfl⟩ := C
  obtain ⟨w1, w2, w3, w4, w5, w6⟩ := id hw
  subst hst0
  intro ws H locs ls hR hP hD hS hl
  have frA := fr_A hR hD hS hA
  refine nx_tail hR hD hS hl hA (vx_runS (Ts := GT) ⟨hx, hb, hml, hown, hts⟩ (hM H.size) (n := As.length) (bytes := cc') (maxL := nL') (ret := ret') ⟨⟨rfl, rfl, by show 8 + d' + 1 ≤ R.frames; omega, by show 8 + (nL' + 11) + (200 + 40 * d') ≤ R.locals; omega, gt_go hts w2, List.mem_cons_self, hts _ w2, hts _ w3, w4, hw.len, hts _ w1⟩, hts _ hi⟩
    ⟨Pcc_blind, fun U hU hW => ⟨rfl, by rw [hU], ⟨ws, hR, by rw [hU]; exact hP, hD.weaken (fun _ _ _ _ => trivial)⟩, va_K.moved hW.alike hK, by rw [hU]; exact hE.go hW hS.2.1 frA⟩⟩ rfl rfl hl.1 rfl (lv_room hs) hd ⟨h1, h2⟩) K KX
theorem n_invI (C : Ok g Φ cc own ret d mc ms) {idx b d' mc' ms' nL' : Nat} {y : MethodName} {cc' : ByteArray} {As : List Value} {Po' : Option Value → Wd → Prop} {Px' : String → Wd → Prop} (hM : CT g y cc' nL' none d' mc' ms' (.ref b :: As) σ Po' Px') (hw : cG own idx y cc' nL' none As.length) (hi : Cond.instanceMethod y ∈ GT) (hy : y.name = "<init>") (hdd : d' + 1 ≤ d) (h1 : k + mc' ≤ mc) (h2 : n + ms' ≤ ms) (hs : (st.map fun v => v.category).sum ≤ 8) {st0 : List Value} (hst0 : st0 = As.reverse ++ .ref b :: st) (hd : decode cc pc = .ok (.invokespecial idx, 3))
    (K : ∀ r σ', Po' r σ' → N Φ (k + mc') (n + ms') σ' (pc + 3) lv (r.toList ++ st)) (KX : ∀ E σ', Px' E σ' → NX Φ (k + mc') (n + ms') σ' pc lv E) : N Φ k n σ pc lv st0 := by
  obtain ⟨p, l, e, R, s, m, args, below, meth, c, A, κ, ε, nL, Q⟩ := Φ
  obtain ⟨rfl, hx, hb, hml, hown, hret, hts, hK, hlk, hA, hE, hst, hR1, hR2, rfl, rfl⟩ := C
  obtain ⟨w1, w2, w3, w4, w5, w6⟩ := id hw
  subst hst0
  intro ws H locs ls hR hP hD hS hl
  have frA := fr_A hR hD hS hA
  refine nx_tail hR hD hS hl hA (vx_runI (Ts := GT) ⟨hx, hb, hml, hown, hts⟩ (hM H.size) (n := As.length) (bytes := cc') (maxL := nL') ⟨⟨rfl, rfl, by show 8 + d' + 1 ≤ R.frames; omega, by show 8 + (nL' + 11) + (200 + 40 * d') ≤ R.locals; omega, gt_go hts w2, List.mem_cons_self, hts _ w2, hts _ w3, w4, hw.len, hts _ w1⟩, hy, hts _ hi⟩
    ⟨Pcc_blind, fun U hU hW => ⟨rfl, by rw [hU], ⟨ws, hR, by rw [hU]; exact hP, hD.weaken (fun _ _ _ _ => trivial)⟩, va_K.moved hW.alike hK, by rw [hU]; exact hE.go hW hS.2.1 frA⟩⟩ rfl rfl hl.1 rfl (lv_room hs) hd ⟨h1, h2⟩) K KX
theorem n_sld (C : Ok g Φ cc own ret d mc ms) {j : Int} (h0 : 0 ≤ j) (h1 : j < scL g.2.2) (hL : scL g.2.2 ≤ 260) (hd : decode cc pc = .ok (.iaload, 1)) (K : ∀ y : Int, rg y → N Φ k n σ (pc + 1) lv (iv y :: st)) : N Φ k n σ pc lv (iv j :: .ref (scB g.2.2) :: st) := by
  obtain ⟨p, l, e, R, s, m, args, below, meth, c, A, κ, ε, nL, Q⟩ := Φ
  obtain ⟨rfl, hx, hb, hml, hown, hret, hts, hK, hlk, hA, hE, -⟩ := C
  intro ws H locs ls hR hP hD hS hl
  obtain ⟨hX, hbl, hbA⟩ := hE.2.2.2.2.2.2.2.2
  have K := K _ (rg_t (scX ε j.toNat)) ws H locs ls hR hP hD hS hl
  have hL' : scL ε ≤ 260 := hL
  have h1' : j < scL ε := h1
  refine va_sld hx hb hX hbl hbA hS (iI_in (n := scL ε) h0 h1' (by omega)) hd ?_
  rw [iI_c (by unfold rg; omega)]
  unfold iv at K
  rw [iI_o] at K
  exact K
theorem n_slen (C : Ok g Φ cc own ret d mc ms) (hd : decode cc pc = .ok (.arraylength, 1)) (K : N Φ k n σ (pc + 1) lv (iv (scL g.2.2 : Int) :: st)) : N Φ k n σ pc lv (.ref (scB g.2.2) :: st) := by
  obtain ⟨p, l, e, R, s, m, args, below, meth, c, A, κ, ε, nL, Q⟩ := Φ
  obtain ⟨rfl, hx, hb, hml, hown, hret, hts, hK, hlk, hA, hE, -⟩ := C
  intro ws H locs ls hR hP hD hS hl
  obtain ⟨hX, hbl, hbA⟩ := hE.2.2.2.2.2.2.2.2
  have K := K ws H locs ls hR hP hD hS hl
  unfold iv at K
  rw [iI_n] at K
  exact va_slen hx hb hX hbl hbA hS hd K
theorem n_ior (C : Ok g Φ cc own ret d mc ms) {x y z : Int} (hd : decode cc pc = .ok (.ior, 1)) (hz : iI x ||| iI y = iI z) (K : N Φ k n σ (pc + 1) lv (iv z :: st)) : N Φ k n σ pc lv (iv y :: iv x :: st) := by
  obtain ⟨p, l, e, R, s, m, args, below, meth, c, A, κ, ε, nL, Q⟩ := Φ
  intro ws H locs ls hR hP hD hS hl
  have K := K ws H locs ls hR hP hD hS hl
  unfold iv at K
  rw [← hz] at K
  exact lv_ior C.2.1 C.2.2.1 hd K
theorem n_ishl (C : Ok g Φ cc own ret d mc ms) {x y z : Int} (hd : decode cc pc = .ok (.ishl, 1)) (hz : iI x <<< (iI y &&& 31) = iI z) (K : N Φ k n σ (pc + 1) lv (iv z :: st)) : N Φ k n σ pc lv (iv y :: iv x :: st) := by
  obtain ⟨p, l, e, R, s, m, args, below, meth, c, A, κ, ε, nL, Q⟩ := Φ
  intro ws H locs ls hR hP hD hS hl
  have K := K ws H locs ls hR hP hD hS hl
  unfold iv at K
  rw [← hz] at K
  exact lv_ishl C.2.1 C.2.2.1 hd K
end NK4
