/-! THE CLAIM OUT OF ONE WALK OF THE LAW'S BODY. Your part is whole_start (and what it stands on); all else here is the same for every law, but numbers. -/
def R_law : String := "OperaMachinesLaw"
def lw_P (b : Addr) (xs : List Int32) (args : Array Value) (s : State) : Prop := args = #[.ref b] ∧ s.IntsAt b xs ∧ xs.length ≤ 2560 ∧ (Jvm.Cond.and given_1 narrow_1).before args s = true
def lw_Q (_ : Array Value) (s : State) (o : Outcome) (t : State) : Prop := o = .returned (some (.int 1)) ∧ Framed s o t [] 601024 7293034
def lw_Z (below : List Frame) (a : Array Value) (s : State) : State → Prop := fun t => ∃ o, t.status = .running ∧ Ended t below o ∧ lw_Q a s o t
/-- the law's own end, with 1 on the stack, nothing written that was there before, its room as the claim has it -/
theorem lw_ret {p : Program} {l : Launch} {e : Env} {s : State} {m : MethodId} {below : List Frame} {meth : Method} {c : Code} {b : Nat} (hx : p.tables.exec = Jvm.exec) (hb : c.code = code) (hr : meth.sig.returnType = ret) (hlocks : meth.locks = false) {pc : Nat} {H : Heap} {ls : Array Slot} (hdg : decode code pc = .ok (.ireturn, 1)) : W p l e room_1 s m #[Value.ref b] below meth c H [] 601024 7293034 (lw_Z below #[Value.ref b] s) (F0 m pc ls [.int 1]) := by
  intro T hT X
  obtain ⟨fs, hret, hrun, hended, hW, hframe⟩ := X.leave (v := some (.int 1)) (hlocks := hlocks) (fun h => by rw [hr] at h; cases h)
  have hmeth' : T.vm.method? m = some meth := X.method'
  refine ⟨T.setFrames fs, ?_, .returned (some (.int 1)), hrun, hended, rfl, ⟨_, rfl⟩, hW, hframe⟩
  jvm_step X.here [X.here.top, hx, hb, hdg, hmeth', hr, ret, narrow_b1]
  (try refine ⟨rfl, ?_⟩); (try refine ⟨rfl, ?_⟩)
  first | (intro acts; rw [hret _ acts rfl rfl rfl]) | rw [hret _ _ rfl rfl rfl]
  exact Steps.refl _
/-- what holds at the law's entry: the machine, the code, the tables' words (any of lw_tbl by 'hts w (by decide +kernel)'), the script of L ints xs at the cell b, what the Statement gives of the start (any of its parts by flat_of_before) -/
def lw_At (p : Program) (s : State) (m : MethodId) (meth : Method) (c : Code) (b L : Nat) (xs : Nat → Int32) : Prop :=
  p.tables.exec = Jvm.exec ∧ c.code = code ∧ meth.sig.returnType = ret ∧ c.maxLocals = 7 ∧ s.vm.findClass R_law = some m.cls ∧ (∀ w ∈ lw_tbl, w.before #[Value.ref b] s = true) ∧ va_X b L xs s s.heap ∧ b < s.heap.size ∧ meth.locks = false ∧ (Jvm.Cond.and given_1 narrow_1).before #[Value.ref b] s = true

/-! rows of methods with a table of their own, and of the law -/
section NW
def CTW (g : Gx) (y : MethodName) (cc : ByteArray) (nL : Nat) (rt : Option FieldType) (hh : List (Nat × Nat × Nat × Nat)) (d mc ms : Nat) (av : List Value) (σ : Wd) (Po : Option Value → Wd → Prop) : Prop :=
  ∀ sz : Nat, vx_Met g.1 y (.codeWith y cc nL rt hh :: GT) (rmd d mc ms) (fun v U => Pcc g.2.1 g.2.2 av σ sz v U ∧ NC U) (Qcc g.2.1 σ sz Po) (Xcc g.2.1 σ sz (fun _ _ => False)) mc ms (fr σ sz)
def RtW (Φ : Fx) (σ0 : Wd) (Po : Option Value → Wd → Prop) (hh : List (Nat × Nat × Nat × Nat)) (mc ms : Nat) : Prop := match Φ with
  | (_, _, _, _, s, _, args, below, _, c, A, κ, _, _, Q) => A = fr σ0 s.heap.size ∧ Q = vx_MQ below (Qcc κ σ0 s.heap.size Po) (Xcc κ σ0 s.heap.size (fun _ _ => False)) args s mc ms (fr σ0 s.heap.size) ∧ c.exceptionTable.toList = tableOf hh ∧ NC s
theorem CTW.of {g : Gx} {y : MethodName} {cc : ByteArray} {nL : Nat} {rt : Option FieldType} {hh : List (Nat × Nat × Nat × Nat)} {d mc ms : Nat} {av : List Value} {σ : Wd} {Po : Option Value → Wd → Prop} (hst : g.1.stackTraces = false) (hy : plainName y.cls = true) (hL : (lg_sl av).length ≤ nL)
    (body : ∀ Φ : Fx, Ok g Φ cc y.cls rt d mc ms → RtW Φ σ Po hh mc ms → fN Φ = nL → N Φ 0 0 σ 0 (lv_args 0 av) []) : CTW g y cc nL rt hh d mc ms av σ Po := by
  obtain ⟨l, κ, ε⟩ := g
  intro sz
  refine vx_ofWH (cc := cc) (maxL := nL) (ret := rt) (hh := hh) hy rfl ?_
  intro p e s m args below meth c s₁ B hml hv
  obtain ⟨⟨rfl, hsz, ⟨ws, hR, hP, hD⟩, hK, hE⟩, hnc⟩ := hv
  subst hsz
  have hts : ∀ w ∈ GT, w.before av.toArray s = true := fun w h => atoms_spec (ws := .codeWith y cc nL rt hh :: GT) B.pre w (List.mem_cons_of_mem _ h)
  have htab : c.exceptionTable.toList = tableOf hh := vx_table (x := y) B (atoms_spec (ws := .codeWith y cc nL rt hh :: GT) B.pre _ List.mem_cons_self)
  have hown : s.vm.findClass y.cls = some m.cls := findClass_of_methodNamed B.named
  have hl := lv_entry av (n := nL) hL
  rw [lg_entry_eq]
  exact body (p, l, e, (headSpec (.codeWith y cc nL rt hh :: GT) (rmd d mc ms)).room, s, m, av.toArray, below, meth, c, fr σ s.heap.size, κ, ε, nL, _) ⟨rfl, B.exec, B.bytes, hml, hown, B.returns, hts, hK, B.notSynchronized, fun q h => Or.inr h, hE, hst, Nat.le_refl _, Nat.le_refl _, rfl, rfl⟩ ⟨rfl, rfl, htab, hnc⟩ rfl ws s.heap [] _ hR hP (fr_D hR hD) va_S.rf hl
section Rows
variable {g : Gx} {Φ : Fx} {cc : ByteArray} {own : String} {rt : Option FieldType} {d mc ms k n : Nat} {σ : Wd} {pc : Nat} {lv lv' : List (Nat × Value)} {st : List Value} {Po : Option Value → Wd → Prop} {σ0 : Wd} {hh : List (Nat × Nat × Nat × Nat)}
theorem n_ireturnW {ty : FieldType} (C : Ok g Φ cc own (some ty) d mc ms) (Rr : RtW Φ σ0 Po hh mc ms) {x : Int} (hn : narrow ty (iv x) = iv x) (hp : Po (some (iv x)) σ) (h1 : k ≤ mc) (h2 : n ≤ ms) (hd : decode cc pc = .ok (.ireturn, 1)) : N Φ k n σ pc lv [iv x] := by
  obtain ⟨p, l, e, R, s, m, args, below, meth, c, A, κ, ε, nL, Q⟩ := Φ
  obtain ⟨rfl, hx, hb, hml, hown, hret, hts, hK, hlk, -⟩ := C
  obtain ⟨rfl, rfl, -⟩ := Rr
  intro ws H locs ls hR hP hD hS hl
  refine W.widen h1 h2 (vx_ret ?_)
  exact W.zret hx hb hret hn (fun t ht hW => ⟨⟨some (iv x), σ, rfl, hp, ws, hR, by rw [ht]; exact hP, hD⟩, hS.F ht⟩) hS.2.2 hd hlk
/-- caught by the row x of the table; the rows ahead don't take it -/
theorem n_catch {E name : String} (pre : List (Nat × Nat × Nat × Nat)) (x : Nat × Nat × Nat × Nat) (suf : List (Nat × Nat × Nat × Nat)) (C : Ok g Φ cc own rt d mc ms) (Rr : RtW Φ σ0 Po (pre ++ x :: suf) mc ms) (hpass : ∀ z ∈ pre, z.2.2.2 ≠ 0 ∧ ∃ nm : String, Cond.classLink own z.2.2.2 nm ∈ GT ∧ ∀ U, NC U → va_Nc E nm U) (hx : x.1 ≤ pc ∧ pc < x.2.1) (h0 : x.2.2.2 ≠ 0) (hlink : Cond.classLink own x.2.2.2 name ∈ GT) (hcast : Cond.castable E name ∈ GT) (K : ∀ q : Nat, N Φ k n σ x.2.2.1 lv [.ref q]) : NX Φ k n σ pc lv E := by
  obtain ⟨p, l, e, R, s, m, args, below, meth, c, A, κ, ε, nL, Q⟩ := Φ
  obtain ⟨rfl, hx', hb, hml, hown, hret, hts, -⟩ := C
  obtain ⟨-, -, htab, hnc⟩ := Rr
  intro ws H locs ls q ce rest hR hP hD hS hl hc1 hc2 hc3
  refine vx_catch (own := own) (name := name) hown (tableOf pre) ⟨x.1, x.2.1, x.2.2.1, x.2.2.2⟩ (tableOf suf) (by rw [htab]; unfold tableOf; rw [List.map_append, List.map_cons]) (fun z hz => ?_) (by show (decide (x.1 ≤ pc) && decide (pc < x.2.1)) = true; rw [decide_eq_true hx.1, decide_eq_true hx.2]; rfl) h0 (hts _ hlink) (hts _ hcast) hc1 hc2 hc3 (K q ws H locs ls hR hP hD hS hl)
  obtain ⟨y, hy, rfl⟩ := List.mem_map.mp hz
  obtain ⟨a1, nm, a2, a3⟩ := hpass y hy
  exact Or.inr ⟨a1, nm, hts _ a2, a3 s hnc⟩
theorem n_i2l (C : Ok g Φ cc own rt d mc ms) {x : Int} (hd : decode cc pc = .ok (.i2l, 1)) (K : N Φ k n σ (pc + 1) lv (.long (iI x).toInt64 :: st)) : N Φ k n σ pc lv (iv x :: st) := by
  obtain ⟨p, l, e, R, s, m, args, below, meth, c, A, κ, ε, nL, Q⟩ := Φ
  intro ws H locs ls hR hP hD hS hl
  exact lv_i2l C.2.1 C.2.2.1 hd rfl (K ws H locs ls hR hP hD hS hl)
theorem n_lconst (C : Ok g Φ cc own rt d mc ms) {i : Fin 2} (v : Int64) (hd : decode cc pc = .ok (.lconst i, 1)) (hv : Int64.ofNat (i : Nat) = v) (K : N Φ k n σ (pc + 1) lv (.long v :: st)) : N Φ k n σ pc lv st := by
  obtain ⟨p, l, e, R, s, m, args, below, meth, c, A, κ, ε, nL, Q⟩ := Φ
  intro ws H locs ls hR hP hD hS hl
  exact lv_lconst C.2.1 C.2.2.1 hd hv (K ws H locs ls hR hP hD hS hl)
theorem n_lcmpE (C : Ok g Φ cc own rt d mc ms) {x y : Int64} (h : x = y) (hd : decode cc pc = .ok (.lcmp, 1)) (K : N Φ k n σ (pc + 1) lv (iv 0 :: st)) : N Φ k n σ pc lv (.long y :: .long x :: st) := by
  obtain ⟨p, l, e, R, s, m, args, below, meth, c, A, κ, ε, nL, Q⟩ := Φ
  subst h
  intro ws H locs ls hR hP hD hS hl
  have e0 : lg_cmp x x = 0 := by simp [lg_cmp]
  refine W.lcmp C.2.1 C.2.2.1 hd ?_
  rw [e0]
  exact K ws H locs ls hR hP hD hS hl
def cGW (own : String) (idx : Nat) (y : MethodName) (cc' : ByteArray) (nL' : Nat) (rt' : Option FieldType) (hh' : List (Nat × Nat × Nat × Nat)) (np : Nat) : Prop :=
  Cond.methodLink own idx y ∈ GT ∧ Cond.codeWith y cc' nL' rt' hh' ∈ GT ∧ Cond.initialized y.cls ∈ GT ∧ (y.cls ≠ "java/lang/invoke/MethodHandle" ∧ y.cls ≠ "java/lang/invoke/VarHandle") ∧ (parseMethodDescriptor y.desc).map (fun d => d.parameters.length) = some np ∧ nL' ≤ 20
theorem cGW.len {y : MethodName} {idx nL' np : Nat} {cc' : ByteArray} {rt' : Option FieldType} {hh' : List (Nat × Nat × Nat × Nat)} (h : cGW own idx y cc' nL' rt' hh' np) : ∀ sig, parseMethodDescriptor y.desc = some sig → np = sig.parameters.length := by
  intro sig hs
  have h2 := h.2.2.2.2.1
  rw [hs] at h2
  exact (Option.some.inj h2).symm
def NCx (Φ : Fx) : Prop := match Φ with
  | (_, _, _, _, s, _, _, _, _, _, _, _, _, _, _) => NC s
theorem n_invSW (C : Ok g Φ cc own rt d mc ms) (hnc : NCx Φ) {idx d' mc' ms' nL' : Nat} {y : MethodName} {cc' : ByteArray} {rt' : Option FieldType} {hh' : List (Nat × Nat × Nat × Nat)} {As : List Value} {Po' : Option Value → Wd → Prop} (hM : CTW g y cc' nL' rt' hh' d' mc' ms' As σ Po') (hw : cGW own idx y cc' nL' rt' hh' As.length) (hi : Cond.static y ∈ GT) (hdd : d' + 1 ≤ d) (h1 : k + mc' ≤ mc) (h2 : n + ms' ≤ ms) (hs : (st.map fun v => v.category).sum ≤ 8) {st0 : List Value} (hst0 : st0 = As.reverse ++ st) (hd : decode cc pc = .ok (.invokestatic idx, 3))
    (K : ∀ r σ', Po' r σ' → N Φ (k + mc') (n + ms') σ' (pc + 3) lv (r.toList ++ st)) : N Φ k n σ pc lv st0 := by
  obtain ⟨p, l, e, R, s, m, args, below, meth, c, A, κ, ε, nL, Q⟩ := Φ
  obtain ⟨rfl, hx, hb, hml, hown, hret, hts, hK, hlk, hA, hE, hst, hR1, hR2, rfl, rfl⟩ := C
  obtain ⟨w1, w2, w3, w4, w5, w6⟩ := id hw
  subst hst0
  intro ws H locs ls hR hP hD hS hl
  have frA := fr_A hR hD hS hA
  refine nx_tail (Px' := fun _ _ => False) hR hD hS hl hA (vx_runSX (Ts := GT) ⟨hx, hb, hml, hown, hts⟩ (hM H.size) (n := As.length) (bytes := cc') (maxL := nL') (ret := rt') (hh := hh') ⟨⟨rfl, rfl, by show 12 + d' + 1 ≤ R.frames; omega, by show 8 + (nL' + 11) + (200 + 40 * d') ≤ R.locals; omega, gt_go hts w2, List.mem_cons_self⟩, hts _ w2, hts _ w3, w4, hw.len, hts _ w1, hts _ hi⟩
    ⟨fun a U g mk h => ⟨Pcc_blind a U g mk h.1, NC.moved (u := U) (U := U.calling g mk a) (Vm.Alike.refl U.vm) h.2⟩, fun U hU hW => ⟨⟨rfl, by rw [hU], ⟨ws, hR, by rw [hU]; exact hP, hD.weaken (fun _ _ _ _ => trivial)⟩, va_K.moved hW.alike hK, by rw [hU]; exact hE.go hW hS.2.1 frA⟩, NC.moved hW.alike hnc⟩⟩ rfl rfl hl.1 rfl (lv_room hs) hd ⟨h1, h2⟩) K (fun _ _ h => h.elim)
end Rows
/-- the law's own frame: its script, its end -/
def SX (Φ : Fx) (b L : Nat) (xs : Nat → Int32) : Prop := match Φ with
  | (_, _, _, R, s, _, args, below, _, _, A, _, _, _, Q) => va_X b L xs s s.heap ∧ b < s.heap.size ∧ A = (fun q => s.heap.size ≤ q) ∧ Q = lw_Z below #[Value.ref b] s ∧ R = room_1 ∧ args = #[Value.ref b]
def zz (xs : Nat → Int32) (j : Nat) : Int := (xs j).toInt
theorem zz_rg (xs : Nat → Int32) (j : Nat) : rg (zz xs j) := rg_t _
theorem and31 (a : Int32) : ∃ z : Nat, z ≤ 31 ∧ a &&& iI 31 = iI (z : Int) := by
  refine ⟨(a &&& iI 31).toBitVec.toNat, ?_, ?_⟩
  · rw [Int32.toBitVec_and, BitVec.toNat_and]
    exact Nat.and_le_right
  · apply Int32.toBitVec_inj.mp
    rw [iI_n]
    apply BitVec.eq_of_toNat_eq
    show _ = (BitVec.ofNat 32 _).toNat
    rw [BitVec.toNat_ofNat, Nat.mod_eq_of_lt (BitVec.isLt _)]
section Law
variable {g : Gx} {Φ : Fx} {own : String} {d mc ms k n : Nat} {σ : Wd} {pc : Nat} {lv : List (Nat × Value)} {st : List Value} {b L : Nat} {xs : Nat → Int32}
theorem n_lawret (C : Ok g Φ code own ret d mc ms) (X : SX Φ b L xs) (hk : k ≤ 601024) (hn : n ≤ 7293034) (hd : decode code pc = .ok (.ireturn, 1)) : N Φ k n σ pc lv [iv 1] := by
  obtain ⟨p, l, e, R, s, m, args, below, meth, c, A, κ, ε, nL, Q⟩ := Φ
  obtain ⟨rfl, hx, hb, hml, hown, hret, hts, hK, hlk, -⟩ := C
  obtain ⟨hX, hbl, rfl, rfl, rfl, rfl⟩ := X
  intro ws H locs ls hR hP hD hS hl
  exact va_forget (fun q hq => hS.2.2 q hq) (W.widen hk hn (lw_ret hx hb hret hlk hd))
theorem n_sld {rt : Option FieldType} {cc : ByteArray} (C : Ok g Φ cc own rt d mc ms) (X : SX Φ b L xs) (j : Nat) {y : Int} (hj : y = (j : Int)) (hjl : j < L) (hL : L ≤ 2560) (hd : decode cc pc = .ok (.iaload, 1)) (K : N Φ k n σ (pc + 1) lv (iv (zz xs j) :: st)) : N Φ k n σ pc lv (iv y :: .ref b :: st) := by
  obtain ⟨p, l, e, R, s, m, args, below, meth, c, A, κ, ε, nL, Q⟩ := Φ
  obtain ⟨rfl, hx, hb, hml, hown, hret, hts, hK, hlk, -⟩ := C
  obtain ⟨hX, hbl, rfl, -⟩ := X
  subst hj
  intro ws H locs ls hR hP hD hS hl
  have K := K ws H locs ls hR hP hD hS hl
  refine va_sld hx hb hX hbl (Nat.not_le.mpr hbl) hS (iI_in (n := L) (by omega) (by omega) (by omega)) hd ?_
  rw [iI_c (by unfold rg; omega), Int.toNat_natCast]
  unfold iv zz at K
  rw [iI_o] at K
  exact K
theorem n_slen {rt : Option FieldType} {cc : ByteArray} (C : Ok g Φ cc own rt d mc ms) (X : SX Φ b L xs) (hd : decode cc pc = .ok (.arraylength, 1)) (K : N Φ k n σ (pc + 1) lv (iv (L : Int) :: st)) : N Φ k n σ pc lv (.ref b :: st) := by
  obtain ⟨p, l, e, R, s, m, args, below, meth, c, A, κ, ε, nL, Q⟩ := Φ
  obtain ⟨rfl, hx, hb, hml, hown, hret, hts, hK, hlk, -⟩ := C
  obtain ⟨hX, hbl, rfl, -⟩ := X
  intro ws H locs ls hR hP hD hS hl
  have K := K ws H locs ls hR hP hD hS hl
  unfold iv at K
  rw [iI_n] at K
  exact va_slen hx hb hX hbl (Nat.not_le.mpr hbl) hS hd K
theorem n_tswI {rt : Option FieldType} {cc : ByteArray} (C : Ok g Φ cc own rt d mc ms) {dflt lo hi : Int} {offs : Array Int} {len : Nat} {y off : Int} (tgt : Nat) (hy : rg y) (hd : decode cc pc = .ok (.tableswitch dflt lo hi offs, len)) (h1 : lo ≤ y) (h2 : y ≤ hi) (ho : offs[(y - lo).toNat]? = some off) (ht : (pc : Int) + off = (tgt : Int)) (K : N Φ k n σ tgt lv st) : N Φ k n σ pc lv (iv y :: st) := by
  obtain ⟨p, l, e, R, s, m, args, below, meth, c, A, κ, ε, nL, Q⟩ := Φ
  intro ws H locs ls hR hP hD hS hl
  exact lv_tableIn (x := iI y) C.2.1 C.2.2.1 hd (by rw [iI_t hy]; omega) (by rw [iI_t hy]; omega) (by rw [iI_t hy]; exact ho) ht (K ws H locs ls hR hP hD hS hl)
theorem n_tswO {rt : Option FieldType} {cc : ByteArray} (C : Ok g Φ cc own rt d mc ms) {dflt lo hi : Int} {offs : Array Int} {len : Nat} {y : Int} (tgt : Nat) (hy : rg y) (hd : decode cc pc = .ok (.tableswitch dflt lo hi offs, len)) (h1 : hi < y) (ht : (pc : Int) + dflt = (tgt : Int)) (K : N Φ k n σ tgt lv st) : N Φ k n σ pc lv (iv y :: st) := by
  obtain ⟨p, l, e, R, s, m, args, below, meth, c, A, κ, ε, nL, Q⟩ := Φ
  intro ws H locs ls hR hP hD hS hl
  exact lv_tableOut (x := iI y) C.2.1 C.2.2.1 hd (Or.inr (by rw [iI_t hy]; exact h1)) ht (K ws H locs ls hR hP hD hS hl)
end Law
/-! the class and the reference side by side -/
section SS
variable {g : Gx} {κ : KG} {A A' : ShT} {β : Wd} {c c' D D' M M' : Tb} {σ σ' : Wd} {o w x0 : Nat} {ar : Nat → Nat} {v : Int64}
theorem CW.eqv (h : CW κ A c D σ) (hw : WF c) (he : ∀ m, LV A c m → σ' (shA A m) = σ (shA A m)) : CW κ A c D σ' := by
  obtain ⟨a1, a2, a3, a4, a5, a6, a7⟩ := h
  refine ⟨?_, fun j hj => ?_, ?_, ?_, fun j hj hc => ?_, fun i hi => ⟨?_, ?_⟩, fun q hq => ?_⟩
  · rw [he 0 (lv0 (by omega))]; exact a1
  · rw [he _ (lv0 (by omega))]; exact a2 j hj
  · rw [he 4 (lv0 (by omega))]; exact a3
  · rw [he 5 (lv0 (by omega))]; exact a4
  · rw [he _ (Or.inr (Or.inl ⟨by omega, by omega, by rw [Nat.add_sub_cancel_left]; exact hc⟩))]; exact a5 j hj hc
  · rw [he _ (lvM hw hi).1]; exact (a6 i hi).1
  · rw [he _ (lvM hw hi).2]; exact (a6 i hi).2
  · rw [he _ (lvQ hq)]; exact a7 q hq
def sepQ (o w : Nat) (ar : Nat → Nat) (A : ShT) (c : Tb) : Prop := (∀ a, ownQ A c a → a ≠ o ∧ a ≠ w ∧ ∀ k, isA k = true → a ≠ ar k) ∧ w ≠ o ∧ ∀ k, isA k = true → w ≠ ar k
/-- the world between two calls: the reference's table M, the class's c, the answer's cell v -/
def LJ (g : Gx) (o w x0 : Nat) (ar : Nat → Nat) (M c : Tb) (v : Int64) (σ : Wd) : Prop := RI o ar ∧ MW g.2.1 o ar σ M σ ∧ ∃ (A : ShT) (D : Tb) (f : Nat → Int64), shA A 0 = x0 ∧ CB g.2.1 A σ c D σ ∧ CI g c A ∧ WF c ∧ σ w = some (eJ g.2.1 1 f) ∧ f 0 = v ∧ sepQ o w ar A c
theorem LJ.ref (h : LJ g o w x0 ar M c v σ) (h' : MW g.2.1 o ar σ M' σ') : LJ g o w x0 ar M' c v σ' := by
  obtain ⟨hI, hM, A, D, f, hx, hC, hCI, hw, ho, hf, s1, s2, s3⟩ := h
  have he : ∀ m, LV A c m → σ' (shA A m) = σ (shA A m) := fun m l => by
    obtain ⟨n1, -, n3⟩ := s1 _ ⟨m, l, rfl⟩
    exact h'.2.2 _ n1 n3
  exact ⟨hI, ⟨h'.1, h'.2.1, fun _ _ _ => rfl⟩, A, D, f, hx, ⟨hC.1.eqv hw he, fun _ _ => rfl, hC.2.2⟩, hCI, hw, by rw [h'.2.2 w s2 s3]; exact ho, hf, s1, s2, s3⟩
theorem GW.own (h : CB κ A' σ c' D' σ') (hA : shA A' = shA A) (hC : shC A' = shC A) (h0 : c' 0 0 = c 0 0) (h6 : c' 6 0 = c 6 0) : GW κ A c σ A' c' D' σ' := by
  have lv : ∀ m, LV A' c' m ↔ LV A c m := fun m => by unfold LV; rw [h0, h6, hC]
  have ow : ∀ a, ownQ A' c' a ↔ ownQ A c a := fun a => by
    unfold ownQ
    rw [hA]
    exact ⟨fun ⟨m, l, e⟩ => ⟨m, (lv m).mp l, e⟩, fun ⟨m, l, e⟩ => ⟨m, (lv m).mpr l, e⟩⟩
  exact ⟨h.1, by rw [hA], fun a ha _ => ⟨fun z => ha ((ow a).mp z), h.2.1 a (fun z => ha ((ow a).mp z))⟩, h.2.2⟩
theorem LJ.cls (hI : RI o ar) (hM : MW g.2.1 o ar σ M σ) {f : Nat → Int64} (hx : shA A 0 = x0) (ho : σ w = some (eJ g.2.1 1 f)) (hf : f 0 = v) (hs : sepQ o w ar A c) (hG : GW g.2.1 A c σ A' c' D' σ') (hCI : CI g c' A') (hw : WF c') : LJ g o w x0 ar M c' v σ' ∧ σ' w = some (eJ g.2.1 1 f) := by
  obtain ⟨s1, s2, s3⟩ := hs
  obtain ⟨G1, G2, G3, G4⟩ := hG
  have eo := G3 o (fun z => (s1 o z).1 rfl) (by rw [hM.1]; exact fun z => by cases z)
  have ew := G3 w (fun z => (s1 w z).2.1 rfl) (by rw [ho]; exact fun z => by cases z)
  have ek := fun k hk => G3 (ar k) (fun z => (s1 (ar k) z).2.2 k hk rfl) (by rw [hM.2.1 k hk]; exact fun z => by cases z)
  refine ⟨⟨hI, ⟨by rw [eo.2]; exact hM.1, fun k hk => by rw [(ek k hk).2]; exact hM.2.1 k hk, fun _ _ _ => rfl⟩, A', D', f, G2.trans hx, ⟨G1, fun _ _ => rfl, G4⟩, hCI, hw, by rw [ew.2]; exact ho, hf, fun a ha => ⟨fun z => eo.1 (z ▸ ha), fun z => ew.1 (z ▸ ha), fun k hk z => (ek k hk).1 (z ▸ ha)⟩, s2, s3⟩, by rw [ew.2]; exact ho⟩
theorem LJ.out (h : LJ g o w x0 ar M c v σ) {e : va_E} {f : Nat → Int64} {y : Int64} (he : e = eJ g.2.1 1 f) (hf : f 0 = y) : LJ g o w x0 ar M c y (wup σ w e) := by
  subst he
  obtain ⟨hI, hM, A, D, f0, hx, hC, hCI, hw, ho, -, s1, s2, s3⟩ := h
  exact ⟨hI, ⟨by rw [wup_n s2.symm]; exact hM.1, fun k hk => by rw [wup_n (s3 k hk).symm]; exact hM.2.1 k hk, fun _ _ _ => rfl⟩, A, D, f, hx, ⟨hC.1.eqv hw (fun m l => wup_n (s1 _ ⟨m, l, rfl⟩).2.1), fun _ _ => rfl, hC.2.2⟩, hCI, hw, wup_s .., hf, s1, s2, s3⟩
/-- what a wrapper answers: the exception's code cd, the class's next table, the answer's cell -/
def WP (g : Gx) (o w x0 : Nat) (ar : Nat → Nat) (M c : Tb) (cd : Int) (nx : Tb) (vo : Option Int) : Option Value → Wd → Prop := fun r σ' => ∃ v' : Int64, r = some (iv cd) ∧ LJ g o w x0 ar M (if cd = 0 then nx else c) v' σ' ∧ ∀ z, vo = some z → cd = 0 → v' = (iI z).toInt64
theorem WP.ok {cd : Int} {nx : Tb} {vo : Option Int} (hcd : cd = 0) (h : LJ g o w x0 ar M nx v σ') (hv : ∀ z, vo = some z → v = (iI z).toInt64) : WP g o w x0 ar M c cd nx vo (some (iv 0)) σ' := ⟨v, by rw [hcd], by rw [if_pos hcd]; exact h, fun z hz _ => hv z hz⟩
theorem WP.bad {cd e : Int} {nx : Tb} {vo : Option Int} (hcd : cd = e) (he : e ≠ 0) (h : LJ g o w x0 ar M c v σ') : WP g o w x0 ar M c cd nx vo (some (iv e)) σ' := ⟨v, by rw [hcd], by rw [if_neg (by rw [hcd]; exact he)]; exact h, fun z _ q => absurd (hcd.symm.trans q) he⟩
end SS
end NW
