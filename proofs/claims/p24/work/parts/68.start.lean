/-! THE CLAIM OUT OF ONE WALK OF THE LAW'S BODY. Your part is whole_start (and what it stands on); all else here is the same for every law, but numbers. -/
def R_law : String := "OperaMachinesLaw"
def lw_P (b : Addr) (xs : List Int32) (args : Array Value) (s : State) : Prop := args = #[.ref b] ∧ s.IntsAt b xs ∧ xs.length ≤ 260 ∧ (Jvm.Cond.and given_1 narrow_1).before args s = true
def lw_Q (_ : Array Value) (s : State) (o : Outcome) (t : State) : Prop := o = .returned (some (.int 1)) ∧ Framed s o t [] 600104 7301314
def lw_Z (below : List Frame) (a : Array Value) (s : State) : State → Prop := fun t => ∃ o, t.status = .running ∧ Ended t below o ∧ lw_Q a s o t
/-- the law's own end, with 1 on the stack, nothing written that was there before, its room as the claim has it -/
theorem lw_ret {p : Program} {l : Launch} {e : Env} {s : State} {m : MethodId} {below : List Frame} {meth : Method} {c : Code} {b : Nat} (hx : p.tables.exec = Jvm.exec) (hb : c.code = code) (hr : meth.sig.returnType = ret) (hlocks : meth.locks = false) {pc : Nat} {H : Heap} {ls : Array Slot} (hdg : decode code pc = .ok (.ireturn, 1)) : W p l e room_1 s m #[Value.ref b] below meth c H [] 600104 7301314 (lw_Z below #[Value.ref b] s) (F0 m pc ls [.int 1]) := by
  intro T hT X
  obtain ⟨fs, hret, hrun, hended, hW, hframe⟩ := X.leave (v := some (.int 1)) (hlocks := hlocks) (fun h => by rw [hr] at h; cases h)
  have hmeth' : T.vm.method? m = some meth := X.method'
  refine ⟨T.setFrames fs, ?_, .returned (some (.int 1)), hrun, hended, rfl, ⟨_, rfl⟩, hW, hframe⟩
  jvm_step X.here [X.here.top, hx, hb, hdg, hmeth', hr, ret, narrow_b1]
  (try refine ⟨rfl, ?_⟩); (try refine ⟨rfl, ?_⟩)
  first | (intro acts; rw [hret _ acts rfl rfl rfl]) | rw [hret _ _ rfl rfl rfl]
  exact Steps.refl _
/-- what holds at the law's entry: the machine, the code, the tables' words (any of lw_tbl by 'hts w (by decide +kernel)'), the script of L ints xs at the cell b, what the Statement gives of the start (any of its parts by flat_of_before) -/
def lw_At (p : Program) (s : State) (m : MethodId) (meth : Method) (c : Code) (b L : Nat) (xs : Nat → Int32) : Prop :=
  p.tables.exec = Jvm.exec ∧ c.code = code ∧ meth.sig.returnType = ret ∧ c.maxLocals = 1 ∧ s.vm.findClass R_law = some m.cls ∧ (∀ w ∈ lw_tbl, w.before #[Value.ref b] s = true) ∧ va_X b L xs s s.heap ∧ b < s.heap.size ∧ meth.locks = false ∧ (Jvm.Cond.and given_1 narrow_1).before #[Value.ref b] s = true

/-! what holds at the law's start -/
section ST
theorem inT0 : fG RJ0 TJ0 4 := by
  unfold fG
  decide +kernel
theorem inT1 : fG RJ4 TJ4 4 := by
  unfold fG
  decide +kernel
theorem st_arr {s : State} {args : Array Value} {ty : FieldType} (h : (Cond.arrayClass ty).before args s = true) (hty : ty = .int ∨ ty = .boolean) : ∃ cA : ClassId, ArrOfT s cA ty ∧ va_RA s cA ty := by
  obtain ⟨c, k, comp, h1, h2, h3⟩ := Cond.arrayClass_spec h
  exact ⟨c, fun n z => ⟨fun k h => (by cases h), k, h2, comp, h3⟩, by rcases hty with rfl | rfl <;> exact h1⟩
theorem st_ref {s : State} {args : Array Value} {C : String} (h : (Cond.arrayOver (.object C)).before args s = true) : ∃ cA : ClassId, ArrOfT s cA (.object C) ∧ va_RA s cA (.object C) := by
  obtain ⟨comp, c, k, h1, -, h2, h3, h4⟩ := Cond.arrayOver_spec h
  exact ⟨c, fun n z => ⟨fun k h => (by cases h), k, h2, comp, h3⟩, k, comp, h2, h3, h1, h4⟩
theorem st_str {s : State} {args : Array Value} {own tx : String} {k : Nat} (h1 : (Cond.stringRef own k tx).before args s = true) (h2 : (Cond.exactly (.string own k) "java/lang/String").before args s = true) : ∃ a : Nat, vk_R own k tx a s := by
  obtain ⟨a, -, -, -, ha, -⟩ := Cond.exactly_spec h2
  exact ⟨a, vk_R.of h1 ha⟩
theorem st_1 {w : Cond} {i : Nat} (h : tables_1_1[i]? = some w) : w ∈ tables_1 := List.mem_append_left _ (List.mem_of_getElem? h)
theorem st_2 {w : Cond} {i : Nat} (h : tables_1_2[i]? = some w) : w ∈ tables_1 := List.mem_append_right _ (List.mem_append_left _ (List.mem_of_getElem? h))
theorem st_3 {w : Cond} {i : Nat} (h : tables_1_3[i]? = some w) : w ∈ tables_1 := List.mem_append_right _ (List.mem_append_right _ (List.mem_append_left _ (List.mem_of_getElem? h)))
theorem st_4 {w : Cond} {i : Nat} (h : tables_1_4[i]? = some w) : w ∈ tables_1 := List.mem_append_right _ (List.mem_append_right _ (List.mem_append_right _ (List.mem_of_getElem? h)))
theorem st_K {s : State} {b : Nat} (hts : ∀ w ∈ GT, w.before #[Value.ref b] s = true) (ht1 : ∀ w ∈ tables_1, w.before #[Value.ref b] s = true) : ∃ κ : KG, va_K κ.1 vwCl (kT κ) s := by
  obtain ⟨c0, i0, k0⟩ := u_known (C := RJ0) (T := TJ0) (N := 4) (n := 4) hts inT0 (hts _ t3_88)
  obtain ⟨c1, i1, k1⟩ := u_known (C := RJ4) (T := TJ4) (N := 4) (n := 4) hts inT1 (hts _ t2_161)
  obtain ⟨c2, i2, k2⟩ := u_known (C := RJx4a65c) (T := TJx4a65c) (N := 3) (n := 3) hts inJ (hts _ t1_38)
  obtain ⟨c3, i3, k3⟩ := u_known (C := RX0) (T := TX0) (N := 6) (n := 6) hts vI3 (hts _ t2_114)
  obtain ⟨c4, i4, k4⟩ := u_known (C := RX1) (T := TX1) (N := 7) (n := 7) hts vI4 (hts _ t1_209)
  obtain ⟨c5, i5, k5⟩ := u_known (C := RX2) (T := TX2) (N := 10) (n := 10) hts vI5 (hts _ t1_30)
  obtain ⟨aI, hI⟩ := st_arr (hts _ t1_95) (Or.inl rfl)
  obtain ⟨aZ, hZ⟩ := st_arr (hts _ t1_94) (Or.inr rfl)
  obtain ⟨aO, hO⟩ := st_ref (C := "java/lang/Object") (ht1 _ (st_2 (i := 49) (by decide +kernel)))
  obtain ⟨aC, hC⟩ := st_ref (C := "OperaMachines$Cue") (ht1 _ (st_1 (i := 215) (by decide +kernel)))
  refine ⟨((fun k => match k with
    | 0 => c0
    | 1 => c1
    | 2 => c2
    | 3 => c3
    | 4 => c4
    | _ => c5, fun k => match k with
    | 0 => i0
    | 1 => i1
    | 2 => i2
    | 3 => i3
    | 4 => i4
    | _ => i5), aI, aZ, aI, aO, aC), fun k q hq => ?_, fun k q hq => ?_⟩
  · match k, hq with
    | 0, hq => cases hq; exact k0
    | 1, hq => cases hq; exact k1
    | 2, hq => cases hq; exact k2
    | 3, hq => cases hq; exact k3
    | 4, hq => cases hq; exact k4
    | 5, hq => cases hq; exact k5
    | k + 6, hq => exact absurd hq (fun z => by cases z)
  · match k, hq with
    | 0, hq => cases hq; exact hI
    | 1, hq => cases hq; exact hZ
    | 2, hq => cases hq; exact hI
    | 3, hq => cases hq; exact hO
    | 4, hq => cases hq; exact hC
    | k + 5, hq => exact absurd hq (fun z => by cases z)
theorem st_E {s : State} {b L : Nat} {xs : Nat → Int32} (hX : va_X b L xs s s.heap) (hbl : b < s.heap.size) (ht1 : ∀ w ∈ tables_1, w.before #[Value.ref b] s = true) (hgv : (Jvm.Cond.and given_1 narrow_1).before #[Value.ref b] s = true) : ∃ ε : EpT, EF ε (fun q => s.heap.size ≤ q) s s.heap ∧ scB ε = b ∧ scL ε = L := by
  have hs := flat_of_before _ hgv
  have hA : ∀ a : Nat, a < s.heap.size → ¬ (fun q : Nat => s.heap.size ≤ q) a := fun a h => Nat.not_le.mpr h
  obtain ⟨t, ht, hT⟩ := va_Tof (tm := .static "java/util/ArrayList" "DEFAULTCAPACITY_EMPTY_ELEMENTDATA" "[Ljava/lang/Object;") (ty := .object "java/lang/Object") (N := 0) (f := fun _ => .null) (by decide) (hs _ (by decide +kernel)) (va_eqt (z := 0) (hs _ (by decide +kernel))) (fun j hj => absurd hj (Nat.not_lt_zero j)) hA
  have h1 := va_Zref (ht1 _ (st_1 (i := 50) (by decide +kernel))) (ht1 _ (st_1 (i := 4) (by decide +kernel))) ht hA
  have h3 : vx_Zq Bundle.tN "UNASSIGNED_STACK" Bundle.steD (fun q => s.heap.size ≤ q) s s.heap := vx_Zqof (ht1 _ (st_1 (i := 143) (by decide +kernel))) (ht1 _ (st_1 (i := 5) (by decide +kernel))) (hs _ (by decide +kernel)) hA
  have h4 : vx_Zq Bundle.tN "SUPPRESSED_SENTINEL" Bundle.listD (fun q => s.heap.size ≤ q) s s.heap := vx_Zqof (ht1 _ (st_1 (i := 145) (by decide +kernel))) (ht1 _ (st_1 (i := 5) (by decide +kernel))) (hs _ (by decide +kernel)) hA
  have h5 : va_AO "java/lang/Object" s := va_AO.of (ht1 _ (st_2 (i := 49) (by decide +kernel)))
  have h6 : va_AO "OperaMachines$Cue" s := va_AO.of (ht1 _ (st_1 (i := 215) (by decide +kernel)))
  obtain ⟨mi, h7⟩ := va_Mi.of (C := "[Ljava/lang/Object;") (hs _ (by decide +kernel))
  obtain ⟨x176, t176⟩ := st_str (own := "OperaMachines") (k := 176) (tx := "out of range") (ht1 _ (st_1 (i := 157) (by decide +kernel))) (hs _ (by decide +kernel))
  obtain ⟨x186, t186⟩ := st_str (own := "OperaMachines") (k := 186) (tx := "there are 6 machines") (ht1 _ (st_1 (i := 201) (by decide +kernel))) (hs _ (by decide +kernel))
  obtain ⟨x85, t85⟩ := st_str (own := "OperaMachines") (k := 85) (tx := "a cue has a bar that there would not be") (ht1 _ (st_3 (i := 178) (by decide +kernel))) (hs _ (by decide +kernel))
  obtain ⟨x181, t181⟩ := st_str (own := "OperaMachines") (k := 181) (tx := "no such machine") (ht1 _ (st_2 (i := 80) (by decide +kernel))) (hs _ (by decide +kernel))
  obtain ⟨x101, t101⟩ := st_str (own := "OperaMachines") (k := 101) (tx := "there were 24 cues") (ht1 _ (st_2 (i := 112) (by decide +kernel))) (hs _ (by decide +kernel))
  obtain ⟨x184, t184⟩ := st_str (own := "OperaMachines") (k := 184) (tx := "no such cue") (ht1 _ (st_3 (i := 165) (by decide +kernel))) (hs _ (by decide +kernel))
  obtain ⟨tf, htf⟩ : ∃ tf : Nat → Nat, tf = fun k => if k = 176 then x176 else if k = 186 then x186 else if k = 85 then x85 else if k = 181 then x181 else if k = 101 then x101 else if k = 184 then x184 else if k = 998 then b else if k = 999 then L else (xs (k - 1000)).toBitVec.toNat := ⟨_, rfl⟩
  have q176 : tf 176 = x176 := by rw [htf]; rfl
  have q186 : tf 186 = x186 := by rw [htf]; rfl
  have q85 : tf 85 = x85 := by rw [htf]; rfl
  have q181 : tf 181 = x181 := by rw [htf]; rfl
  have q101 : tf 101 = x101 := by rw [htf]; rfl
  have q184 : tf 184 = x184 := by rw [htf]; rfl
  have q998 : tf 998 = b := by rw [htf]; rfl
  have q999 : tf 999 = L := by rw [htf]; rfl
  have qx : ∀ j : Nat, tf (1000 + j) = (xs j).toBitVec.toNat := fun j => by
    rw [htf]
    show (if 1000 + j = 176 then x176 else _) = _
    rw [if_neg (by omega), if_neg (by omega), if_neg (by omega), if_neg (by omega), if_neg (by omega), if_neg (by omega), if_neg (by omega), if_neg (by omega), Nat.add_sub_cancel_left]
  have exs : scX (t, mi, tf) = xs := by
    funext j
    show Int32.ofNat (tf (1000 + j)) = xs j
    rw [qx j]
    apply Int32.toBitVec_inj.mp
    show BitVec.ofNat 32 (xs j).toBitVec.toNat = _
    rw [BitVec.ofNat_toNat, BitVec.setWidth_eq]
  have hSC : SC (t, mi, tf) (fun q => s.heap.size ≤ q) s s.heap := by
    refine ⟨?_, ?_, ?_⟩
    · show va_X (tf 998) (tf 999) (scX (t, mi, tf)) s s.heap
      rw [exs, q998, q999]
      exact hX
    · show tf 998 < s.heap.size
      rw [q998]
      exact hbl
    · show ¬ s.heap.size ≤ tf 998
      rw [q998]
      omega
  refine ⟨(t, mi, tf), ⟨h1, hT, h3, h4, h5, h6, h7, fun q hq => ?_, hSC⟩, q998, q999⟩
  rcases List.mem_cons.mp hq with rfl | hq
  · show vk_R _ _ _ (tf 176) s
    rw [q176]
    exact t176
  rcases List.mem_cons.mp hq with rfl | hq
  · show vk_R _ _ _ (tf 186) s
    rw [q186]
    exact t186
  rcases List.mem_cons.mp hq with rfl | hq
  · show vk_R _ _ _ (tf 85) s
    rw [q85]
    exact t85
  rcases List.mem_cons.mp hq with rfl | hq
  · show vk_R _ _ _ (tf 181) s
    rw [q181]
    exact t181
  rcases List.mem_cons.mp hq with rfl | hq
  · show vk_R _ _ _ (tf 101) s
    rw [q101]
    exact t101
  rcases List.mem_cons.mp hq with rfl | hq
  · show vk_R _ _ _ (tf 184) s
    rw [q184]
    exact t184
  exact absurd hq List.not_mem_nil
/-- the law's own frame -/
def SX (Φ : Fx) (b : Nat) : Prop := match Φ with
  | (_, _, _, R, s, _, args, below, _, _, A, _, _, _, Q) => A = (fun q => s.heap.size ≤ q) ∧ Q = lw_Z below #[Value.ref b] s ∧ R = room_1 ∧ args = #[Value.ref b]
theorem n_lawret {g : Gx} {Φ : Fx} {own : String} {d mc ms k n : Nat} {σ : Wd} {pc : Nat} {lv : List (Nat × Value)} {b : Nat} (C : Ok g Φ code own ret d mc ms) (X : SX Φ b) (hk : k ≤ 600104) (hn : n ≤ 7301314) (hd : decode code pc = .ok (.ireturn, 1)) : N Φ k n σ pc lv [iv 1] := by
  obtain ⟨p, l, e, R, s, m, args, below, meth, c, A, κ, ε, nL, Q⟩ := Φ
  obtain ⟨rfl, hx, hb, hml, hown, hret, hts, hK, hlk, -⟩ := C
  obtain ⟨rfl, rfl, rfl, rfl⟩ := X
  intro ws H locs ls hR hP hD hS hl
  exact va_forget (fun q hq => hS.2.2 q hq) (W.widen hk hn (lw_ret hx hb hret hlk hd))
end ST
