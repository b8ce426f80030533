/-! rows of the heap, of calls and of ends -/
section NK3
variable {g : Gx} {Φ : Fx} {cc : ByteArray} {own : String} {ret : Option FieldType} {d mc ms k n : Nat} {σ : Wd} {pc : Nat} {lv lv' : List (Nat × Value)} {st : List Value} {Po : Option Value → Wd → Prop} {Px : String → Wd → Prop} {σ0 : Wd}
/-- a field's words: its class's rows of the tables, and the link -/
def fG (C : String) (T : u_T) (M : Nat) : Prop := ∀ w ∈ u_ws C T M, w ∈ GT
theorem n_get (C : Ok g Φ cc own ret d mc ms) {ref cls : String} {T : u_T} {M ci idx a : Nat} {fs : List Value} {v : Value} (hσ : σ a = some (.inr (ci, fs))) (hc : vwCl[ci]? = some (cls, T, M)) (hin : fG cls T M) (j : Nat) (hj : j < M) (hw : Cond.fieldLink own idx ref (T j).2.1 (T j).2.2.1 ∈ GT) (hs : (T j).1 = ref) (hv : fs[j]? = some v) (hd : decode cc pc = .ok (.getfield idx, 3)) (K : N Φ k n σ (pc + 3) lv (v :: st)) : N Φ k n σ pc lv (.ref a :: st) := by
  obtain ⟨p, l, e, R, s, m, args, below, meth, c, A, κ, ε, nL, Q⟩ := Φ
  obtain ⟨-, hx, hb, hml, hown, hret, hts, hK, -⟩ := C
  intro ws H locs ls hR hP hD hS hl
  obtain ⟨q, hq⟩ := hR.cell hσ
  exact va_get hx hb hts hin hown hK hP q hq hc j hj (hts _ hw) (fun x h => by rw [← hs]; exact h) hv hd (K ws H locs ls hR hP hD hS hl)
/-- .. of a field that is declared above the class that the link names -/
theorem n_getU (C : Ok g Φ cc own ret d mc ms) {ref cls : String} {T : u_T} {M ci idx a : Nat} {fs : List Value} {v : Value} (hσ : σ a = some (.inr (ci, fs))) (hc : vwCl[ci]? = some (cls, T, M)) (hin : fG cls T M) (j : Nat) (hj : j < M) (hw : Cond.fieldLink own idx ref (T j).2.1 (T j).2.2.1 ∈ GT) (hs : Cond.sameField ref (T j).1 (T j).2.1 (T j).2.2.1 ∈ GT) (hv : fs[j]? = some v) (hd : decode cc pc = .ok (.getfield idx, 3)) (K : N Φ k n σ (pc + 3) lv (v :: st)) : N Φ k n σ pc lv (.ref a :: st) := by
  obtain ⟨p, l, e, R, s, m, args, below, meth, c, A, κ, ε, nL, Q⟩ := Φ
  obtain ⟨-, hx, hb, hml, hown, hret, hts, hK, -⟩ := C
  intro ws H locs ls hR hP hD hS hl
  obtain ⟨q, hq⟩ := hR.cell hσ
  exact va_get hx hb hts hin hown hK hP q hq hc j hj (hts _ hw) (fun x h => u_same (hts _ hs) x h) hv hd (K ws H locs ls hR hP hD hS hl)
theorem n_put (C : Ok g Φ cc own ret d mc ms) {ref cls : String} {T : u_T} {M ci idx a : Nat} {fs : List Value} {v : Value} (hσ : σ a = some (.inr (ci, fs))) (hc : vwCl[ci]? = some (cls, T, M)) (hin : fG cls T M) (ty0 : Nat → FieldType) (hty : ∀ k, k < M → parseFieldDescriptor (T k).2.2.1 = some (ty0 k)) (hnm : ∀ a, a < M → ∀ b, b < M → a ≠ b → (T a).2.1 ≠ (T b).2.1) (j : Nat) (hj : j < M) (hw : Cond.fieldLink own idx ref (T j).2.1 (T j).2.2.1 ∈ GT) (hs : (T j).1 = ref) (hfin : (T j).2.2.2 = false) (hn : narrow (ty0 j) v = v) (hf : fits (ty0 j) v = true) (hlen : j < fs.length) (hd : decode cc pc = .ok (.putfield idx, 3)) (K : N Φ k n (wup σ a (.inr (ci, fs.set j v))) (pc + 3) lv st) : N Φ k n σ pc lv (v :: .ref a :: st) := by
  obtain ⟨p, l, e, R, s, m, args, below, meth, c, A, κ, ε, nL, Q⟩ := Φ
  obtain ⟨-, hx, hb, hml, hown, hret, hts, hK, -⟩ := C
  intro ws H locs ls hR hP hD hS hl
  obtain ⟨q, hq⟩ := hR.cell hσ
  exact va_put hx hb hts hin ty0 hty hnm hown hK hP hD hS q hq hc j hj (hts _ hw) (fun x h => by rw [← hs]; exact h) hfin (hty j hj) hn hf hlen hd (fun H1 locs1 hP1 hD1 hS1 => K _ H1 locs1 ls (hR.set hD hq) hP1 hD1 hS1 hl)
theorem n_putU (C : Ok g Φ cc own ret d mc ms) {ref cls : String} {T : u_T} {M ci idx a : Nat} {fs : List Value} {v : Value} (hσ : σ a = some (.inr (ci, fs))) (hc : vwCl[ci]? = some (cls, T, M)) (hin : fG cls T M) (ty0 : Nat → FieldType) (hty : ∀ k, k < M → parseFieldDescriptor (T k).2.2.1 = some (ty0 k)) (hnm : ∀ a, a < M → ∀ b, b < M → a ≠ b → (T a).2.1 ≠ (T b).2.1) (j : Nat) (hj : j < M) (hw : Cond.fieldLink own idx ref (T j).2.1 (T j).2.2.1 ∈ GT) (hs : Cond.sameField ref (T j).1 (T j).2.1 (T j).2.2.1 ∈ GT) (hfin : (T j).2.2.2 = false) (hn : narrow (ty0 j) v = v) (hf : fits (ty0 j) v = true) (hlen : j < fs.length) (hd : decode cc pc = .ok (.putfield idx, 3)) (K : N Φ k n (wup σ a (.inr (ci, fs.set j v))) (pc + 3) lv st) : N Φ k n σ pc lv (v :: .ref a :: st) := by
  obtain ⟨p, l, e, R, s, m, args, below, meth, c, A, κ, ε, nL, Q⟩ := Φ
  obtain ⟨-, hx, hb, hml, hown, hret, hts, hK, -⟩ := C
  intro ws H locs ls hR hP hD hS hl
  obtain ⟨q, hq⟩ := hR.cell hσ
  exact va_put hx hb hts hin ty0 hty hnm hown hK hP hD hS q hq hc j hj (hts _ hw) (fun x h => u_same (hts _ hs) x h) hfin (hty j hj) hn hf hlen hd (fun H1 locs1 hP1 hD1 hS1 => K _ H1 locs1 ls (hR.set hD hq) hP1 hD1 hS1 hl)
theorem n_putF (C : Ok g Φ cc own ret d mc ms) {ref cls : String} {T : u_T} {M ci idx a : Nat} {fs : List Value} {v : Value} (hinit : fY Φ = "<init>") (hσ : σ a = some (.inr (ci, fs))) (hc : vwCl[ci]? = some (cls, T, M)) (hin : fG cls T M) (ty0 : Nat → FieldType) (hty : ∀ k, k < M → parseFieldDescriptor (T k).2.2.1 = some (ty0 k)) (hnm : ∀ a, a < M → ∀ b, b < M → a ≠ b → (T a).2.1 ≠ (T b).2.1) (j : Nat) (hj : j < M) (hw : Cond.fieldLink own idx ref (T j).2.1 (T j).2.2.1 ∈ GT) (hs : (T j).1 = ref) (hown' : (T j).1 = own) (hfin : (T j).2.2.2 = true) (hn : narrow (ty0 j) v = v) (hf : fits (ty0 j) v = true) (hlen : j < fs.length) (hd : decode cc pc = .ok (.putfield idx, 3)) (K : N Φ k n (wup σ a (.inr (ci, fs.set j v))) (pc + 3) lv st) : N Φ k n σ pc lv (v :: .ref a :: st) := by
  obtain ⟨p, l, e, R, s, m, args, below, meth, c, A, κ, ε, nL, Q⟩ := Φ
  obtain ⟨-, hx, hb, hml, hown, hret, hts, hK, -⟩ := C
  intro ws H locs ls hR hP hD hS hl
  obtain ⟨q, hq⟩ := hR.cell hσ
  exact va_putF hx hb hts hin ty0 hty hnm hown hK hP hD hS q hq hc j hj (hts _ hw) (fun x h => by rw [← hs]; exact h) hfin hinit hown' (hty j hj) hn hf hlen hd (fun H1 locs1 hP1 hD1 hS1 => K _ H1 locs1 ls (hR.set hD hq) hP1 hD1 hS1 hl)
theorem fits_iv_i (x : Int) : fits .int (iv x) = true := rfl
theorem kT_I {κ : KG} : (kT κ)[0]? = some (kI κ, .int) := rfl
theorem n_iald (C : Ok g Φ cc own ret d mc ms) {a M : Nat} {f : Nat → Int} {j : Int} (hσ : σ a = some (eI g.2.1 M f)) (h0 : 0 ≤ j) (h1 : j < M) (hM : M < 2147483648) (hd : decode cc pc = .ok (.iaload, 1)) (K : N Φ k n σ (pc + 1) lv (iv (f j.toNat) :: st)) : N Φ k n σ pc lv (iv j :: .ref a :: st) := by
  obtain ⟨p, l, e, R, s, m, args, below, meth, c, A, κ, ε, nL, Q⟩ := Φ
  obtain ⟨rfl, hx, hb, hml, hown, hret, hts, hK, -⟩ := C
  intro ws H locs ls hR hP hD hS hl
  obtain ⟨q, hq⟩ := hR.cell hσ
  have K := K ws H locs ls hR hP hD hS hl
  refine va_iald hx hb hK hP q 0 hq rfl (iI_in h0 h1 hM) hd ?_
  rw [iI_c (by unfold rg; omega)]
  exact K
theorem n_iast (C : Ok g Φ cc own ret d mc ms) {a M : Nat} {f : Nat → Int} {j x : Int} (hσ : σ a = some (eI g.2.1 M f)) (h0 : 0 ≤ j) (h1 : j < M) (hM : M < 2147483648) (hd : decode cc pc = .ok (.iastore, 1)) (K : N Φ k n (wup σ a (eI g.2.1 M (upI f j.toNat x))) (pc + 1) lv st) : N Φ k n σ pc lv (iv x :: iv j :: .ref a :: st) := by
  obtain ⟨p, l, e, R, s, m, args, below, meth, c, A, κ, ε, nL, Q⟩ := Φ
  obtain ⟨rfl, hx, hb, hml, hown, hret, hts, hK, -⟩ := C
  intro ws H locs ls hR hP hD hS hl
  obtain ⟨q, hq⟩ := hR.cell hσ
  refine va_iast hx hb hK hP hD hS q 0 hq rfl (iI_in h0 h1 hM) hd (fun H1 locs1 hP1 hD1 hS1 => ?_)
  rw [iI_c (by unfold rg; omega)] at hP1 hD1
  first | rw [upI_c] at hP1 hD1 | rw [vp_nar_i, upI_c] at hP1 hD1 | simp only [upI_c] at hP1 hD1
  exact K _ H1 locs1 ls (hR.set hD hq) hP1 hD1 hS1 hl
theorem n_zald (C : Ok g Φ cc own ret d mc ms) {a M : Nat} {f : Nat → Int} {j : Int} (hσ : σ a = some (eZ g.2.1 M f)) (h0 : 0 ≤ j) (h1 : j < M) (hM : M < 2147483648) (hd : decode cc pc = .ok (.baload, 1)) (K : N Φ k n σ (pc + 1) lv (iv (f j.toNat) :: st)) : N Φ k n σ pc lv (iv j :: .ref a :: st) := by
  obtain ⟨p, l, e, R, s, m, args, below, meth, c, A, κ, ε, nL, Q⟩ := Φ
  obtain ⟨rfl, hx, hb, hml, hown, hret, hts, hK, -⟩ := C
  intro ws H locs ls hR hP hD hS hl
  obtain ⟨q, hq⟩ := hR.cell hσ
  have K := K ws H locs ls hR hP hD hS hl
  refine va_zald hx hb hK hP q 1 hq rfl (iI_in h0 h1 hM) hd ?_
  rw [iI_c (by unfold rg; omega)]
  exact K
theorem n_zast (C : Ok g Φ cc own ret d mc ms) {a M : Nat} {f : Nat → Int} {j x : Int} (hσ : σ a = some (eZ g.2.1 M f)) (h0 : 0 ≤ j) (h1 : j < M) (hM : M < 2147483648) (hx01 : x = 0 ∨ x = 1) (hd : decode cc pc = .ok (.bastore, 1)) (K : N Φ k n (wup σ a (eZ g.2.1 M (upI f j.toNat x))) (pc + 1) lv st) : N Φ k n σ pc lv (iv x :: iv j :: .ref a :: st) := by
  obtain ⟨p, l, e, R, s, m, args, below, meth, c, A, κ, ε, nL, Q⟩ := Φ
  obtain ⟨rfl, hx, hb, hml, hown, hret, hts, hK, -⟩ := C
  intro ws H locs ls hR hP hD hS hl
  obtain ⟨q, hq⟩ := hR.cell hσ
  refine va_zast hx hb hK hP hD hS q 1 hq rfl (iI_in h0 h1 hM) hd (fun H1 locs1 hP1 hD1 hS1 => ?_)
  rw [iI_c (by unfold rg; omega), nar_z hx01, upI_c] at hP1 hD1
  exact K _ H1 locs1 ls (hR.set hD hq) hP1 hD1 hS1 hl
theorem n_aaldO (C : Ok g Φ cc own ret d mc ms) {a M : Nat} {f : Nat → Option Nat} {j : Int} (hσ : σ a = some (eO g.2.1 M f)) (h0 : 0 ≤ j) (h1 : j < M) (hM : M < 2147483648) (hd : decode cc pc = .ok (.aaload, 1)) (K : N Φ k n σ (pc + 1) lv (va_rf (f j.toNat) :: st)) : N Φ k n σ pc lv (iv j :: .ref a :: st) := by
  obtain ⟨p, l, e, R, s, m, args, below, meth, c, A, κ, ε, nL, Q⟩ := Φ
  obtain ⟨rfl, hx, hb, hml, hown, hret, hts, hK, -⟩ := C
  intro ws H locs ls hR hP hD hS hl
  obtain ⟨q, hq⟩ := hR.cell hσ
  have K := K ws H locs ls hR hP hD hS hl
  refine va_aldq hx hb hK hP q 3 hq rfl (iI_in h0 h1 hM) hd ?_
  rw [iI_c (by unfold rg; omega)]
  exact K
theorem n_aaldC (C : Ok g Φ cc own ret d mc ms) {a M : Nat} {f : Nat → Option Nat} {j : Int} (hσ : σ a = some (eC g.2.1 M f)) (h0 : 0 ≤ j) (h1 : j < M) (hM : M < 2147483648) (hd : decode cc pc = .ok (.aaload, 1)) (K : N Φ k n σ (pc + 1) lv (va_rf (f j.toNat) :: st)) : N Φ k n σ pc lv (iv j :: .ref a :: st) := by
  obtain ⟨p, l, e, R, s, m, args, below, meth, c, A, κ, ε, nL, Q⟩ := Φ
  obtain ⟨rfl, hx, hb, hml, hown, hret, hts, hK, -⟩ := C
  intro ws H locs ls hR hP hD hS hl
  obtain ⟨q, hq⟩ := hR.cell hσ
  have K := K ws H locs ls hR hP hD hS hl
  refine va_aldq hx hb hK hP q 4 hq rfl (iI_in h0 h1 hM) hd ?_
  rw [iI_c (by unfold rg; omega)]
  exact K
/-- a cue, or nothing, into a row of cues -/
theorem n_aastC (C : Ok g Φ cc own ret d mc ms) {a M : Nat} {f : Nat → Option Nat} {j : Int} {r : Option Nat} (hσ : σ a = some (eC g.2.1 M f)) (hr : ∀ y, r = some y → ∃ fs, σ y = some (.inr (3, fs))) (h0 : 0 ≤ j) (h1 : j < M) (hM : M < 2147483648) (hd : decode cc pc = .ok (.aastore, 1)) (K : N Φ k n (wup σ a (eC g.2.1 M (va_up f j.toNat r))) (pc + 1) lv st) : N Φ k n σ pc lv (va_rf r :: iv j :: .ref a :: st) := by
  obtain ⟨p, l, e, R, s, m, args, below, meth, c, A, κ, ε, nL, Q⟩ := Φ
  obtain ⟨rfl, hx, hb, hml, hown, hret, hts, hK, -⟩ := C
  intro ws H locs ls hR hP hD hS hl
  obtain ⟨q, hq⟩ := hR.cell hσ
  cases r with
  | none =>
    refine va_astqN (C := "OperaMachines$Cue") hx hb hK hP hD hS q 4 hq rfl (iI_in h0 h1 hM) hd (fun H1 locs1 hP1 hD1 hS1 => ?_)
    rw [iI_c (by unfold rg; omega)] at hP1 hD1
    exact K _ H1 locs1 ls (hR.set hD hq) hP1 hD1 hS1 hl
  | some y =>
    obtain ⟨fs, hy⟩ := hr y rfl
    obtain ⟨q2, hq2⟩ := hR.cell hy
    refine va_astq (r := (RX0, TX0, 6)) (ci := 3) hx hb hK hP hD hS q 4 q2 hq rfl hq2 rfl (iI_in h0 h1 hM) hd (fun H1 locs1 hP1 hD1 hS1 => ?_)
    rw [iI_c (by unfold rg; omega)] at hP1 hD1
    exact K _ H1 locs1 ls (hR.set hD hq) hP1 hD1 hS1 hl
/-- an object of a class that can be an Object into a row of Objects -/
theorem n_aastO (C : Ok g Φ cc own ret d mc ms) {a M : Nat} {f : Nat → Option Nat} {j : Int} {y ci : Nat} {fs : List Value} {r : vw_C} (hσ : σ a = some (eO g.2.1 M f)) (hy : σ y = some (.inr (ci, fs))) (hc : vwCl[ci]? = some r) (hca : Cond.castable r.1 "java/lang/Object" ∈ GT) (h0 : 0 ≤ j) (h1 : j < M) (hM : M < 2147483648) (hd : decode cc pc = .ok (.aastore, 1)) (K : N Φ k n (wup σ a (eO g.2.1 M (va_up f j.toNat (some y)))) (pc + 1) lv st) : N Φ k n σ pc lv (.ref y :: iv j :: .ref a :: st) := by
  obtain ⟨p, l, e, R, s, m, args, below, meth, c, A, κ, ε, nL, Q⟩ := Φ
  obtain ⟨rfl, hx, hb, hml, hown, hret, hts, hK, -⟩ := C
  intro ws H locs ls hR hP hD hS hl
  obtain ⟨q, hq⟩ := hR.cell hσ
  obtain ⟨q2, hq2⟩ := hR.cell hy
  refine va_astqO (E := "java/lang/Object") hx hb hK hP hD hS q 3 q2 ci hq rfl (va_any rfl (hts _ hca)) hq2 hc (iI_in h0 h1 hM) hd (fun H1 locs1 hP1 hD1 hS1 => ?_)
  rw [iI_c (by unfold rg; omega)] at hP1 hD1
  exact K _ H1 locs1 ls (hR.set hD hq) hP1 hD1 hS1 hl
theorem n_alenO (C : Ok g Φ cc own ret d mc ms) {a M : Nat} {f : Nat → Option Nat} (hσ : σ a = some (eO g.2.1 M f)) (hd : decode cc pc = .ok (.arraylength, 1)) (K : N Φ k n σ (pc + 1) lv (iv M :: st)) : N Φ k n σ pc lv (.ref a :: st) := by
  obtain ⟨p, l, e, R, s, m, args, below, meth, c, A, κ, ε, nL, Q⟩ := Φ
  obtain ⟨rfl, hx, hb, hml, hown, hret, hts, hK, -⟩ := C
  intro ws H locs ls hR hP hD hS hl
  obtain ⟨q, hq⟩ := hR.cell hσ
  exact va_alen hx hb hK hP q 3 hq rfl (v := iI M) (iI_n M).symm hd (K ws H locs ls hR hP hD hS hl)
theorem n_alenC (C : Ok g Φ cc own ret d mc ms) {a M : Nat} {f : Nat → Option Nat} (hσ : σ a = some (eC g.2.1 M f)) (hd : decode cc pc = .ok (.arraylength, 1)) (K : N Φ k n σ (pc + 1) lv (iv M :: st)) : N Φ k n σ pc lv (.ref a :: st) := by
  obtain ⟨p, l, e, R, s, m, args, below, meth, c, A, κ, ε, nL, Q⟩ := Φ
  obtain ⟨rfl, hx, hb, hml, hown, hret, hts, hK, -⟩ := C
  intro ws H locs ls hR hP hD hS hl
  obtain ⟨q, hq⟩ := hR.cell hσ
  exact va_alen hx hb hK hP q 4 hq rfl (v := iI M) (iI_n M).symm hd (K ws H locs ls hR hP hD hS hl)
/-- the empty row that a new list holds -/
theorem n_alenE (C : Ok g Φ cc own ret d mc ms) (hd : decode cc pc = .ok (.arraylength, 1)) (K : N Φ k n σ (pc + 1) lv (iv 0 :: st)) : N Φ k n σ pc lv (.ref g.2.2.1 :: st) := by
  obtain ⟨p, l, e, R, s, m, args, below, meth, c, A, κ, ε, nL, Q⟩ := Φ
  obtain ⟨rfl, hx, hb, hml, hown, hret, hts, hK, hlk, hA, hE, -⟩ := C
  intro ws H locs ls hR hP hD hS hl
  exact va_tlen hx hb hE.2.1 hS (v := iI 0) rfl hd (K ws H locs ls hR hP hD hS hl)
theorem n_getsE (C : Ok g Φ cc "java/util/ArrayList" ret d mc ms) {idx : Nat} (hw : Cond.fieldLink "java/util/ArrayList" idx "java/util/ArrayList" "DEFAULTCAPACITY_EMPTY_ELEMENTDATA" "[Ljava/lang/Object;" ∈ GT) (hd : decode cc pc = .ok (.getstatic idx, 3)) (K : N Φ k n σ (pc + 3) lv (.ref g.2.2.1 :: st)) : N Φ k n σ pc lv st := by
  obtain ⟨p, l, e, R, s, m, args, below, meth, c, A, κ, ε, nL, Q⟩ := Φ
  obtain ⟨rfl, hx, hb, hml, hown, hret, hts, hK, hlk, hA, hE, -⟩ := C
  intro ws H locs ls hR hP hD hS hl
  exact va_gets hx hb hE.1 hS hown (hts _ hw) (fun x h => h) hd (K ws H locs ls hR hP hD hS hl)
/-- the address that a row's make takes is new -/
theorem n_new (C : Ok g Φ cc own ret d mc ms) {cls : String} {T : u_T} {M ci idx : Nat} (fs : List Value) (hc : vwCl[ci]? = some (cls, T, M)) (hin : fG cls T M) (ty : Nat → FieldType) (hty : ∀ k, k < M → parseFieldDescriptor (T k).2.2.1 = some (ty k)) (hw1 : Cond.classLink own idx cls ∈ GT) (hw2 : Cond.instantiable cls M ∈ GT) (hw3 : Cond.initialized cls ∈ GT) (hfs : ∀ j, j < M → defaultValue (ty j) = vp_V fs j) (h1 : k + 1 ≤ mc) (h2 : n + M ≤ ms) (hd : decode cc pc = .ok (.new idx, 3)) (K : ∀ q : Nat, σ q = none → N Φ (k + 1) (n + M) (wup σ q (.inr (ci, fs))) (pc + 3) lv (.ref q :: st)) : N Φ k n σ pc lv st := by
  obtain ⟨p, l, e, R, s, m, args, below, meth, c, A, κ, ε, nL, Q⟩ := Φ
  obtain ⟨rfl, hx, hb, hml, hown, hret, hts, hK, hlk, hA, hE, hst, hR1, hR2, rfl, rfl⟩ := C
  intro ws H locs ls hR hP hD hS hl
  refine va_new hx hb hts hin ty hty hown (hts _ hw1) (hts _ hw2) (hts _ hw3) hK hP hD hS hA hc hfs h1 h2 hd (fun q H1 hP1 hD1 hS1 => ?_)
  have hq : σ q = none := by
    cases h : σ q with
    | none => rfl
    | some e =>
      obtain ⟨j, hj⟩ := hR.cell h
      have hl' := (List.getElem?_eq_some_iff.mp hj).1
      have := hD1.1 j ws.length (q, e) (q, .inr (ci, fs)) (by rw [List.getElem?_append_left hl']; exact hj) (by rw [List.getElem?_append_right (Nat.le_refl _), Nat.sub_self]; rfl) rfl
      omega
  exact K q hq _ H1 locs ls (hR.push hD1) hP1 hD1 hS1 hl
end NK3
