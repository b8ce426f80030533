section NW
def CTW (g : Gx) (y : MethodName) (cc : ByteArray) (nL : Nat) (rt : Option FieldType) (hh : List (Nat × Nat × Nat × Nat)) (d mc ms : Nat) (av : List Value) (σ : Wd) (Po : Option Value → Wd → Prop) : Prop :=
  ∀ sz : Nat, vx_Met g.1 y (.codeWith y cc nL rt hh :: GT) (rmd d mc ms) (Pcc g.2.1 g.2.2 av σ sz) (Qcc g.2.1 σ sz Po) (Xcc g.2.1 σ sz (fun _ _ => False)) mc ms (fr σ sz)
def RtW (Φ : Fx) (σ0 : Wd) (Po : Option Value → Wd → Prop) (hh : List (Nat × Nat × Nat × Nat)) (mc ms : Nat) : Prop := match Φ with
  | (_, _, _, _, s, _, args, below, _, c, A, κ, _, _, Q) => A = fr σ0 s.heap.size ∧ Q = vx_MQ below (Qcc κ σ0 s.heap.size Po) (Xcc κ σ0 s.heap.size (fun _ _ => False)) args s mc ms (fr σ0 s.heap.size) ∧ c.exceptionTable.toList = tableOf hh
theorem CTW.of {g : Gx} {y : MethodName} {cc : ByteArray} {nL : Nat} {rt : Option FieldType} {hh : List (Nat × Nat × Nat × Nat)} {d mc ms : Nat} {av : List Value} {σ : Wd} {Po : Option Value → Wd → Prop} (hst : g.1.stackTraces = false) (hy : plainName y.cls = true) (hL : (lg_sl av).length ≤ nL)
    (body : ∀ Φ : Fx, Ok g Φ cc y.cls rt d mc ms → RtW Φ σ Po hh mc ms → fN Φ = nL → N Φ 0 0 σ 0 (lv_args 0 av) []) : CTW g y cc nL rt hh d mc ms av σ Po := by
  obtain ⟨l, κ, ε⟩ := g
  intro sz
  refine vx_ofWH (cc := cc) (maxL := nL) (ret := rt) (hh := hh) hy rfl ?_
  intro p e s m args below meth c s₁ B hml hv
  obtain ⟨rfl, hsz, ⟨ws, hR, hP, hD⟩, hK, hE⟩ := hv
  subst hsz
  have hts : ∀ w ∈ GT, w.before av.toArray s = true := fun w h => atoms_spec (ws := .codeWith y cc nL rt hh :: GT) B.pre w (List.mem_cons_of_mem _ h)
  have htab : c.exceptionTable.toList = tableOf hh := vx_table (x := y) B (atoms_spec (ws := .codeWith y cc nL rt hh :: GT) B.pre _ List.mem_cons_self)
  have hown : s.vm.findClass y.cls = some m.cls := findClass_of_methodNamed B.named
  have hl := lv_entry av (n := nL) hL
  rw [lg_entry_eq]
  exact body (p, l, e, (headSpec (.codeWith y cc nL rt hh :: GT) (rmd d mc ms)).room, s, m, av.toArray, below, meth, c, fr σ s.heap.size, κ, ε, nL, _) ⟨rfl, B.exec, B.bytes, hml, hown, B.returns, hts, hK, B.notSynchronized, fun q h => Or.inr h, hE, hst, Nat.le_refl _, Nat.le_refl _, rfl, rfl⟩ ⟨rfl, rfl, htab⟩ rfl ws s.heap [] _ hR hP (fr_D hR hD) va_S.rf hl
section Rows
variable {g : Gx} {Φ : Fx} {cc : ByteArray} {own : String} {rt : Option FieldType} {d mc ms k n : Nat} {σ : Wd} {pc : Nat} {lv lv' : List (Nat × Value)} {st : List Value} {Po : Option Value → Wd → Prop} {σ0 : Wd} {hh : List (Nat × Nat × Nat × Nat)}
theorem n_ireturnW {ty : FieldType} (C : Ok g Φ cc own (some ty) d mc ms) (Rr : RtW Φ σ0 Po hh mc ms) {x : Int} (hn : narrow ty (iv x) = iv x) (hp : Po (some (iv x)) σ) (h1 : k ≤ mc) (h2 : n ≤ ms) (hd : decode cc pc = .ok (.ireturn, 1)) : N Φ k n σ pc lv [iv x] := by
  obtain ⟨p, l, e, R, s, m, args, below, meth, c, A, κ, ε, nL, Q⟩ := Φ
  obtain ⟨rfl, hx, hb, hml, hown, hret, hts, hK, hlk, -⟩ := C
  obtain ⟨rfl, rfl, -⟩ := Rr
  intro ws H locs ls hR hP hD hS hl
  refine W.widen h1 h2 (vx_ret ?_)
  exact W.zret hx hb hret hn (fun t ht hW => ⟨⟨some (iv x), σ, rfl, hp, ws, hR, by rw [ht]; exact hP, hD⟩, hS.F ht⟩) hS.2.2 hd hlk
/-- caught by the row x of the table; the rows ahead don't take it -/
theorem n_catch {E name : String} (x : Nat × Nat × Nat × Nat) (suf : List (Nat × Nat × Nat × Nat)) (C : Ok g Φ cc own rt d mc ms) (Rr : RtW Φ σ0 Po (x :: suf) mc ms) (hx : x.1 ≤ pc ∧ pc < x.2.1) (h0 : x.2.2.2 ≠ 0) (hlink : Cond.classLink own x.2.2.2 name ∈ GT) (hcast : Cond.castable E name ∈ GT) (K : ∀ q : Nat, N Φ k n σ x.2.2.1 lv [.ref q]) : NX Φ k n σ pc lv E := by
  obtain ⟨p, l, e, R, s, m, args, below, meth, c, A, κ, ε, nL, Q⟩ := Φ
  obtain ⟨rfl, hx', hb, hml, hown, hret, hts, -⟩ := C
  obtain ⟨-, -, htab⟩ := Rr
  intro ws H locs ls q ce rest hR hP hD hS hl hc1 hc2 hc3
  exact vx_catch (own := own) (name := name) hown [] ⟨x.1, x.2.1, x.2.2.1, x.2.2.2⟩ (tableOf suf) (by rw [htab]; unfold tableOf; rw [List.map_cons]; rfl) (fun z hz => absurd hz List.not_mem_nil) (by show (decide (x.1 ≤ pc) && decide (pc < x.2.1)) = true; rw [decide_eq_true hx.1, decide_eq_true hx.2]; rfl) h0 (hts _ hlink) (hts _ hcast) hc1 hc2 hc3 (K q ws H locs ls hR hP hD hS hl)
def cGW (own : String) (idx : Nat) (y : MethodName) (cc' : ByteArray) (nL' : Nat) (rt' : Option FieldType) (hh' : List (Nat × Nat × Nat × Nat)) (np : Nat) : Prop :=
  Cond.methodLink own idx y ∈ GT ∧ Cond.codeWith y cc' nL' rt' hh' ∈ GT ∧ Cond.initialized y.cls ∈ GT ∧ (y.cls ≠ "java/lang/invoke/MethodHandle" ∧ y.cls ≠ "java/lang/invoke/VarHandle") ∧ (parseMethodDescriptor y.desc).map (fun d => d.parameters.length) = some np ∧ nL' ≤ 20
theorem cGW.len {y : MethodName} {idx nL' np : Nat} {cc' : ByteArray} {rt' : Option FieldType} {hh' : List (Nat × Nat × Nat × Nat)} (h : cGW own idx y cc' nL' rt' hh' np) : ∀ sig, parseMethodDescriptor y.desc = some sig → np = sig.parameters.length := by
  intro sig hs
  have h2 := h.2.2.2.2.1
  rw [hs] at h2
  exact (Option.some.inj h2).symm
theorem n_invSW (C : Ok g Φ cc own rt d mc ms) {idx d' mc' ms' nL' : Nat} {y : MethodName} {cc' : ByteArray} {rt' : Option FieldType} {hh' : List (Nat × Nat × Nat × Nat)} {As : List Value} {Po' : Option Value → Wd → Prop} (hM : CTW g y cc' nL' rt' hh' d' mc' ms' As σ Po') (hw : cGW own idx y cc' nL' rt' hh' As.length) (hi : Cond.static y ∈ GT) (hdd : d' + 1 ≤ d) (h1 : k + mc' ≤ mc) (h2 : n + ms' ≤ ms) (hs : (st.map fun v => v.category).sum ≤ 8) {st0 : List Value} (hst0 : st0 = As.reverse ++ st) (hd : decode cc pc = .ok (.invokestatic idx, 3))
    (K : ∀ r σ', Po' r σ' → N Φ (k + mc') (n + ms') σ' (pc + 3) lv (r.toList ++ st)) : N Φ k n σ pc lv st0 := by
  obtain ⟨p, l, e, R, s, m, args, below, meth, c, A, κ, ε, nL, Q⟩ := Φ
  obtain ⟨rfl, hx, hb, hml, hown, hret, hts, hK, hlk, hA, hE, hst, hR1, hR2, rfl, rfl⟩ := C
  obtain ⟨w1, w2, w3, w4, w5, w6⟩ := id hw
  subst hst0
  intro ws H locs ls hR hP hD hS hl
  have frA := fr_A hR hD hS hA
  refine nx_tail (Px' := fun _ _ => False) hR hD hS hl hA (vx_runSX (Ts := GT) ⟨hx, hb, hml, hown, hts⟩ (hM H.size) (n := As.length) (bytes := cc') (maxL := nL') (ret := rt') (hh := hh') ⟨⟨rfl, rfl, by show 8 + d' + 1 ≤ R.frames; omega, by show 8 + (nL' + 11) + (200 + 40 * d') ≤ R.locals; omega, gt_go hts w2, List.mem_cons_self⟩, hts _ w2, hts _ w3, w4, hw.len, hts _ w1, hts _ hi⟩
    ⟨Pcc_blind, fun U hU hW => ⟨rfl, by rw [hU], ⟨ws, hR, by rw [hU]; exact hP, hD.weaken (fun _ _ _ _ => trivial)⟩, va_K.moved hW.alike hK, by rw [hU]; exact hE.go hW hS.2.1 frA⟩⟩ rfl rfl hl.1 rfl (lv_room hs) hd ⟨h1, h2⟩) K (fun _ _ h => h.elim)
theorem n_ialdv (C : Ok g Φ cc own rt d mc ms) {a M : Nat} {f : Nat → Int} {j : Int} (y : Int) (hσ : σ a = some (eI g.2.1 M f)) (h0 : 0 ≤ j) (h1 : j < M) (hM : M < 2147483648) (hv : f j.toNat = y) (hd : decode cc pc = .ok (.iaload, 1)) (K : N Φ k n σ (pc + 1) lv (iv y :: st)) : N Φ k n σ pc lv (iv j :: .ref a :: st) := by
  rw [← hv] at K
  exact n_iald C hσ h0 h1 hM hd K
end Rows
theorem CT.imp {g : Gx} {y : MethodName} {cc : ByteArray} {nL : Nat} {ret : Option FieldType} {d mc ms : Nat} {av : List Value} {σ : Wd} {Po Po' : Option Value → Wd → Prop} {Px Px' : String → Wd → Prop} (h : CT g y cc nL ret d mc ms av σ Po Px) (h1 : ∀ r σ', Po r σ' → Po' r σ') (h2 : ∀ E σ', Px E σ' → Px' E σ') : CT g y cc nL ret d mc ms av σ Po' Px' := by
  intro sz p e a1 a2 a3 s m args below b1 b2 b3 b4
  obtain ⟨n, o, c1, c2, c3, c4⟩ := h sz p e a1 a2 a3 s m args below b1 b2 b3 b4
  refine ⟨n, o, c1, c2, c3, ?_⟩
  rcases c4 with ⟨⟨⟨r, σ', e1, e2, e3⟩, e4⟩, e5⟩ | ⟨q, e1, E, ce, L, ⟨⟨σ', f1, f2⟩, f3⟩, f4⟩
  · exact Or.inl ⟨⟨⟨r, σ', e1, h1 r σ' e2, e3⟩, e4⟩, e5⟩
  · exact Or.inr ⟨q, e1, E, ce, L, ⟨⟨σ', h2 E σ' f1, f2⟩, f3⟩, f4⟩
/-! the object and the law's four rows of numbers -/
section SS
def mI (c : Tb) (f : Nat → Int) : Prop := ∀ i : Nat, (i : Int) < c 0 0 → f (4 * i) = (if c 1 i = 1 then 3 else c 2 i) ∧ f (4 * i + 1) = c 5 i ∧ f (4 * i + 3) = c 4 i ∧ (c 1 i = 0 → f (4 * i + 2) = c 3 i)
def qI (c : Tb) (f : Nat → Int) : Prop := ∀ k : Nat, (k : Int) < c 6 0 → f k = qv c k
def cI (c : Tb) (f : Nat → Int) : Prop := f 0 = c 0 0 ∧ f 1 = c 6 0 ∧ f 2 = c 12 0 ∧ f 3 = c 13 0 ∧ f 4 = c 14 0 ∧ f 5 = c 15 0 ∧ f 6 = c 16 0 ∧ f 7 = stB c
def zI (c : Tb) (f : Nat → Int) : Prop := ∀ w : Nat, w < 6 → f w = c 18 w + 1
def AR (κ : KG) (am aq ac az : Nat) (c : Tb) (σ : Wd) : Prop := (∃ f, mI c f ∧ σ am = some (eI κ 24 f)) ∧ (∃ f, qI c f ∧ σ aq = some (eI κ 24 f)) ∧ (∃ f, cI c f ∧ σ ac = some (eI κ 8 f)) ∧ ∃ f, zI c f ∧ σ az = some (eI κ 6 f)
def DIS (am aq ac az : Nat) : Prop := am ≠ aq ∧ am ≠ ac ∧ am ≠ az ∧ aq ≠ ac ∧ aq ≠ az ∧ ac ≠ az
/-- between two calls: the object holds the table c, the law's rows the table d -/
def SJ (g : Gx) (x am aq ac az : Nat) (c d : Tb) (σ : Wd) : Prop := DIS am aq ac az ∧ (∃ (A : ShT) (D : Tb), shA A 0 = x ∧ CB g.2.1 A σ c D σ ∧ CI g c A ∧ WF c ∧ ∀ a, (a = am ∨ a = aq ∨ a = ac ∨ a = az) → ¬ ownQ A c a) ∧ AR g.2.1 am aq ac az d σ
section V
variable {g : Gx} {κ : KG} {A A' : ShT} {β : Wd} {c c' d D D' : Tb} {σ σ' : Wd} {x am aq ac az : Nat}
theorem CW.eqv (h : CW κ A c D σ) (hw : WF c) (he : ∀ m, LV A c m → σ' (shA A m) = σ (shA A m)) : CW κ A c D σ' := by
  obtain ⟨a1, a2, a3, a4, a5, a6, a7⟩ := h
  refine ⟨?_, fun j hj => ?_, ?_, ?_, fun j hj hc => ?_, fun i hi => ⟨?_, ?_⟩, fun q hq => ?_⟩
  · rw [he 0 (lv0 (by omega))]; exact a1
  · rw [he _ (lv0 (by omega))]; exact a2 j hj
  · rw [he 4 (lv0 (by omega))]; exact a3
  · rw [he 5 (lv0 (by omega))]; exact a4
  · rw [he _ (Or.inr (Or.inl ⟨by omega, by omega, by rw [Nat.add_sub_cancel_left]; exact hc⟩))]; exact a5 j hj hc
  · rw [he _ (lvM hw hi).1]; exact (a6 i hi).1
  · rw [he _ (lvM hw hi).2]; exact (a6 i hi).2
  · rw [he _ (lvQ hq)]; exact a7 q hq
theorem GW.own (h : CB κ A' σ c' D' σ') (hA : shA A' = shA A) (hC : shC A' = shC A) (h0 : c' 0 0 = c 0 0) (h6 : c' 6 0 = c 6 0) : GW κ A c σ A' c' D' σ' := by
  have lv : ∀ m, LV A' c' m ↔ LV A c m := fun m => by unfold LV; rw [h0, h6, hC]
  have ow : ∀ a, ownQ A' c' a ↔ ownQ A c a := fun a => by
    unfold ownQ
    rw [hA]
    exact ⟨fun ⟨m, l, e⟩ => ⟨m, (lv m).mp l, e⟩, fun ⟨m, l, e⟩ => ⟨m, (lv m).mpr l, e⟩⟩
  exact ⟨h.1, by rw [hA], fun a ha _ => ⟨fun z => ha ((ow a).mp z), h.2.1 a (fun z => ha ((ow a).mp z))⟩, h.2.2⟩
theorem SJ.cls (hdis : DIS am aq ac az) (hx : shA A 0 = x) (hown : ∀ a, (a = am ∨ a = aq ∨ a = ac ∨ a = az) → ¬ ownQ A c a) (hAR : AR g.2.1 am aq ac az d σ) (hG : GW g.2.1 A c σ A' c' D' σ') (hI : CI g c' A') (hw : WF c') : SJ g x am aq ac az c' d σ' := by
  obtain ⟨G1, G2, G3, G4⟩ := hG
  obtain ⟨⟨fm, m1, m2⟩, ⟨fq, q1, q2⟩, ⟨fc, c1, c2⟩, fz, z1, z2⟩ := hAR
  have em := G3 am (hown am (Or.inl rfl)) (by rw [m2]; exact fun z => by cases z)
  have eq := G3 aq (hown aq (Or.inr (Or.inl rfl))) (by rw [q2]; exact fun z => by cases z)
  have ec := G3 ac (hown ac (Or.inr (Or.inr (Or.inl rfl)))) (by rw [c2]; exact fun z => by cases z)
  have ez := G3 az (hown az (Or.inr (Or.inr (Or.inr rfl)))) (by rw [z2]; exact fun z => by cases z)
  refine ⟨hdis, ⟨A', D', G2.trans hx, ⟨G1, fun _ _ => rfl, G4⟩, hI, hw, fun a ha => ?_⟩, ⟨fm, m1, em.2.trans m2⟩, ⟨fq, q1, eq.2.trans q2⟩, ⟨fc, c1, ec.2.trans c2⟩, fz, z1, ez.2.trans z2⟩
  rcases ha with rfl | rfl | rfl | rfl
  · exact em.1
  · exact eq.1
  · exact ec.1
  · exact ez.1
theorem SJ.obj (h : SJ g x am aq ac az c d σ) : ∃ fs, σ x = some (.inr (5, fs)) := by
  obtain ⟨-, ⟨A, D, rfl, hM, -⟩, -⟩ := h
  exact ⟨_, hM.1.1⟩
theorem SJ.wf (h : SJ g x am aq ac az c d σ) : WF c := by
  obtain ⟨-, ⟨A, D, -, -, -, hw, -⟩, -⟩ := h
  exact hw
theorem SJ.ci (h : SJ g x am aq ac az c d σ) : ∃ A, CI g c A := by
  obtain ⟨-, ⟨A, D, -, -, hI, -⟩, -⟩ := h
  exact ⟨A, hI⟩
/-- a write into one of the law's rows -/
theorem SJ.wr (h : SJ g x am aq ac az c d σ) {a : Nat} {e : va_E} (ha : a = am ∨ a = aq ∨ a = ac ∨ a = az) (h2 : σ' a = some e) (h3 : ∀ b, b ≠ a → σ' b = σ b) {d' : Tb} (hAR : AR g.2.1 am aq ac az d' σ') : SJ g x am aq ac az c d' σ' := by
  obtain ⟨hdis, ⟨A, D, hx, hM, hI, hw, hown⟩, -⟩ := h
  refine ⟨hdis, ⟨A, D, hx, ⟨hM.1.eqv hw (fun m l => h3 _ (fun z => hown a ha (z ▸ ⟨m, l, rfl⟩))), fun _ _ => rfl, hM.2.2⟩, hI, hw, hown⟩, hAR⟩
end V
end SS
end NW
