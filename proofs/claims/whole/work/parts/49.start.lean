/-! what holds at the law's start -/
section ST
/-- no exception of the one class is caught as the other -/
def NC (U : State) : Prop := va_Nc "java/lang/IllegalStateException" "java/lang/IllegalArgumentException" U ∧ va_Nc "java/lang/IllegalArgumentException" "java/lang/IndexOutOfBoundsException" U ∧ va_Nc "java/lang/IllegalStateException" "java/lang/IndexOutOfBoundsException" U
theorem NC.moved {u U : State} (hvm : u.vm.Alike U.vm) (h : NC u) : NC U := ⟨va_Nc.moved hvm h.1, va_Nc.moved hvm h.2.1, va_Nc.moved hvm h.2.2⟩
theorem inT0 : fG RJ0 TJ0 4 := by
  unfold fG
  decide +kernel
theorem inT1 : fG RJ4 TJ4 4 := by
  unfold fG
  decide +kernel
theorem st_arr {s : State} {args : Array Value} {ty : FieldType} (h : (Cond.arrayClass ty).before args s = true) (hty : ty = .int ∨ ty = .boolean ∨ ty = .long) : ∃ cA : ClassId, ArrOfT s cA ty ∧ va_RA s cA ty := by
  obtain ⟨c, k, comp, h1, h2, h3⟩ := Cond.arrayClass_spec h
  exact ⟨c, fun n z => ⟨fun k h => (by cases h), k, h2, comp, h3⟩, by rcases hty with rfl | rfl | rfl <;> exact h1⟩
theorem st_ref {s : State} {args : Array Value} {C : String} (h : (Cond.arrayOver (.object C)).before args s = true) : ∃ cA : ClassId, ArrOfT s cA (.object C) ∧ va_RA s cA (.object C) := by
  obtain ⟨comp, c, k, h1, -, h2, h3, h4⟩ := Cond.arrayOver_spec h
  exact ⟨c, fun n z => ⟨fun k h => (by cases h), k, h2, comp, h3⟩, k, comp, h2, h3, h1, h4⟩
theorem st_str {s : State} {args : Array Value} {own tx : String} {k : Nat} (h1 : (Cond.stringRef own k tx).before args s = true) (h2 : (Cond.exactly (.string own k) "java/lang/String").before args s = true) : ∃ a : Nat, vk_R own k tx a s := by
  obtain ⟨a, -, -, -, ha, -⟩ := Cond.exactly_spec h2
  exact ⟨a, vk_R.of h1 ha⟩
theorem st_1 {w : Cond} {i : Nat} (h : tables_1_1[i]? = some w) : w ∈ tables_1 := List.mem_append_left _ (List.mem_of_getElem? h)
theorem st_2 {w : Cond} {i : Nat} (h : tables_1_2[i]? = some w) : w ∈ tables_1 := List.mem_append_right _ (List.mem_append_left _ (List.mem_of_getElem? h))
theorem st_4 {w : Cond} {i : Nat} (h : tables_1_4[i]? = some w) : w ∈ tables_1 := List.mem_append_right _ (List.mem_append_right _ (List.mem_append_right _ (List.mem_append_left _ (List.mem_of_getElem? h))))
theorem st_K {s : State} {b : Nat} (hts : ∀ w ∈ GT, w.before #[Value.ref b] s = true) (ht1 : ∀ w ∈ tables_1, w.before #[Value.ref b] s = true) : ∃ κ : KG, va_K κ.1 vwCl (kT κ) s := by
  obtain ⟨c0, i0, k0⟩ := u_known (C := RJ0) (T := TJ0) (N := 4) (n := 4) hts inT0 (hts _ w3_207)
  obtain ⟨c1, i1, k1⟩ := u_known (C := RJ4) (T := TJ4) (N := 4) (n := 4) hts inT1 (hts _ w3_40)
  obtain ⟨c2, i2, k2⟩ := u_known (C := RJx4a65c) (T := TJx4a65c) (N := 3) (n := 3) hts inJ (hts _ w1_36)
  obtain ⟨c3, i3, k3⟩ := u_known (C := RX0) (T := TX0) (N := 6) (n := 6) hts vI3 (hts _ w2_233)
  obtain ⟨c4, i4, k4⟩ := u_known (C := RX1) (T := TX1) (N := 7) (n := 7) hts vI4 (hts _ w2_98)
  obtain ⟨c5, i5, k5⟩ := u_known (C := RX2) (T := TX2) (N := 10) (n := 10) hts vI5 (hts _ w1_28)
  obtain ⟨c6, i6, k6⟩ := u_known (C := RX3) (T := TX3) (N := 27) (n := 27) hts in3 (hts _ w4_123)
  obtain ⟨aI, hI⟩ := st_arr (hts _ w1_93) (Or.inl rfl)
  obtain ⟨aZ, hZ⟩ := st_arr (hts _ w1_92) (Or.inr (Or.inl rfl))
  obtain ⟨aJ, hJ⟩ := st_arr (hts _ w5_132) (Or.inr (Or.inr rfl))
  obtain ⟨aO, hO⟩ := st_ref (C := "java/lang/Object") (ht1 _ (st_2 (i := 177) (by decide +kernel)))
  obtain ⟨aC, hC⟩ := st_ref (C := "OperaMachines$Cue") (ht1 _ (st_2 (i := 104) (by decide +kernel)))
  refine ⟨((fun k => match k with
    | 0 => c0
    | 1 => c1
    | 2 => c2
    | 3 => c3
    | 4 => c4
    | 5 => c5
    | _ => c6, fun k => match k with
    | 0 => i0
    | 1 => i1
    | 2 => i2
    | 3 => i3
    | 4 => i4
    | 5 => i5
    | _ => i6), aI, aZ, aJ, aO, aC), fun k q hq => ?_, fun k q hq => ?_⟩
  · match k, hq with
    | 0, hq => cases hq; exact k0
    | 1, hq => cases hq; exact k1
    | 2, hq => cases hq; exact k2
    | 3, hq => cases hq; exact k3
    | 4, hq => cases hq; exact k4
    | 5, hq => cases hq; exact k5
    | 6, hq => cases hq; exact k6
    | k + 7, hq => exact absurd hq (fun z => by cases z)
  · match k, hq with
    | 0, hq => cases hq; exact hI
    | 1, hq => cases hq; exact hZ
    | 2, hq => cases hq; exact hJ
    | 3, hq => cases hq; exact hO
    | 4, hq => cases hq; exact hC
    | k + 5, hq => exact absurd hq (fun z => by cases z)
theorem st_E {s : State} {b : Nat} (ht1 : ∀ w ∈ tables_1, w.before #[Value.ref b] s = true) (hgv : (Jvm.Cond.and given_1 narrow_1).before #[Value.ref b] s = true) : ∃ ε : EpT, EF ε (fun q => s.heap.size ≤ q) s s.heap := by
  have hs := flat_of_before _ hgv
  have hA : ∀ a : Nat, a < s.heap.size → ¬ (fun q : Nat => s.heap.size ≤ q) a := fun a h => Nat.not_le.mpr h
  obtain ⟨t, ht, hT⟩ := va_Tof (tm := .static "java/util/ArrayList" "DEFAULTCAPACITY_EMPTY_ELEMENTDATA" "[Ljava/lang/Object;") (ty := .object "java/lang/Object") (N := 0) (f := fun _ => .null) (by decide) (hs _ (by decide +kernel)) (va_eqt (z := 0) (hs _ (by decide +kernel))) (fun j hj => absurd hj (Nat.not_lt_zero j)) hA
  have h1 := va_Zref (ht1 _ (st_1 (i := 48) (by decide +kernel))) (ht1 _ (st_1 (i := 4) (by decide +kernel))) ht hA
  have h3 : vx_Zq Bundle.tN "UNASSIGNED_STACK" Bundle.steD (fun q => s.heap.size ≤ q) s s.heap := vx_Zqof (ht1 _ (st_2 (i := 37) (by decide +kernel))) (ht1 _ (st_1 (i := 6) (by decide +kernel))) (hs _ (by decide +kernel)) hA
  have h4 : vx_Zq Bundle.tN "SUPPRESSED_SENTINEL" Bundle.listD (fun q => s.heap.size ≤ q) s s.heap := vx_Zqof (ht1 _ (st_2 (i := 39) (by decide +kernel))) (ht1 _ (st_1 (i := 6) (by decide +kernel))) (hs _ (by decide +kernel)) hA
  have h5 : va_AO "java/lang/Object" s := va_AO.of (ht1 _ (st_2 (i := 177) (by decide +kernel)))
  have h6 : va_AO "OperaMachines$Cue" s := va_AO.of (ht1 _ (st_2 (i := 104) (by decide +kernel)))
  obtain ⟨mi, h7⟩ := va_Mi.of (C := "[Ljava/lang/Object;") (hs _ (by decide +kernel))
  obtain ⟨x176, t176⟩ := st_str (own := "OperaMachines") (k := 176) (tx := "out of range") (ht1 _ (st_2 (i := 51) (by decide +kernel))) (hs _ (by decide +kernel))
  obtain ⟨x186, t186⟩ := st_str (own := "OperaMachines") (k := 186) (tx := "there are 6 machines") (ht1 _ (st_2 (i := 91) (by decide +kernel))) (hs _ (by decide +kernel))
  obtain ⟨x85, t85⟩ := st_str (own := "OperaMachines") (k := 85) (tx := "a cue has a bar that there would not be") (ht1 _ (st_2 (i := 199) (by decide +kernel))) (hs _ (by decide +kernel))
  obtain ⟨x181, t181⟩ := st_str (own := "OperaMachines") (k := 181) (tx := "no such machine") (ht1 _ (st_2 (i := 221) (by decide +kernel))) (hs _ (by decide +kernel))
  obtain ⟨x101, t101⟩ := st_str (own := "OperaMachines") (k := 101) (tx := "there were 24 cues") (ht1 _ (st_2 (i := 232) (by decide +kernel))) (hs _ (by decide +kernel))
  obtain ⟨x184, t184⟩ := st_str (own := "OperaMachines") (k := 184) (tx := "no such cue") (ht1 _ (st_4 (i := 47) (by decide +kernel))) (hs _ (by decide +kernel))
  refine ⟨(t, mi, fun k => if k = 176 then x176 else if k = 186 then x186 else if k = 85 then x85 else if k = 181 then x181 else if k = 101 then x101 else if k = 184 then x184 else 0), h1, hT, h3, h4, h5, h6, h7, fun q hq => ?_⟩
  rcases List.mem_cons.mp hq with rfl | hq
  · exact t176
  rcases List.mem_cons.mp hq with rfl | hq
  · exact t186
  rcases List.mem_cons.mp hq with rfl | hq
  · exact t85
  rcases List.mem_cons.mp hq with rfl | hq
  · exact t181
  rcases List.mem_cons.mp hq with rfl | hq
  · exact t101
  rcases List.mem_cons.mp hq with rfl | hq
  · exact t184
  exact absurd hq List.not_mem_nil
theorem st_N {s : State} {b : Nat} (hgv : (Jvm.Cond.and given_1 narrow_1).before #[Value.ref b] s = true) : NC s := by
  have hs := flat_of_before _ hgv
  exact ⟨va_Nc.of (hs _ (by decide +kernel)), va_Nc.of (hs _ (by decide +kernel)), va_Nc.of (hs _ (by decide +kernel))⟩
end ST
