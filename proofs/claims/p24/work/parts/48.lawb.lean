/-! whole numbers by bits -/
section LB
theorem z_sm : ∀ k : Nat, k < 32 → ((iI (k : Int) &&& 31).toBitVec.smod 32).toNat = k := by decide +kernel
theorem z_shr {x : Int} (h0 : 0 ≤ x) (h1 : x < 2147483648) {k : Nat} (hk : k < 32) : iI x >>> (iI (k : Int) &&& 31) = iI (x / ((2 ^ k : Nat) : Int)) := by
  apply Int32.toInt_inj.mp
  have hp : 0 < ((2 ^ k : Nat) : Int) := Int.natCast_pos.mpr (Nat.two_pow_pos k)
  have hq0 : 0 ≤ x / ((2 ^ k : Nat) : Int) := Int.ediv_nonneg h0 (by omega)
  have hq1 : x / ((2 ^ k : Nat) : Int) ≤ x := Int.ediv_le_self _ h0
  rw [iI_t (x := x / ((2 ^ k : Nat) : Int)) (by unfold rg; omega)]
  show ((iI x).toBitVec.sshiftRight' ((iI (k : Int) &&& 31).toBitVec.smod 32)).toInt = _
  rw [BitVec.sshiftRight_eq', z_sm k hk, BitVec.toInt_sshiftRight]
  show (iI x).toInt >>> k = _
  rw [iI_t (by unfold rg; omega), Int.shiftRight_eq_div_pow]
theorem and_n (a b : Nat) : iI (a : Int) &&& iI (b : Int) = iI ((a &&& b : Nat) : Int) := by
  rw [iI_n, iI_n, iI_n]
  apply Int32.toBitVec_inj.1
  show BitVec.ofNat 32 a &&& BitVec.ofNat 32 b = BitVec.ofNat 32 (a &&& b)
  apply BitVec.eq_of_getLsbD_eq
  intro i hi
  simp [hi]
theorem or_n (a b : Nat) : iI (a : Int) ||| iI (b : Int) = iI ((a ||| b : Nat) : Int) := by
  rw [iI_n, iI_n, iI_n]
  apply Int32.toBitVec_inj.1
  show BitVec.ofNat 32 a ||| BitVec.ofNat 32 b = BitVec.ofNat 32 (a ||| b)
  apply BitVec.eq_of_getLsbD_eq
  intro i hi
  simp [hi]
theorem z_and {x : Int} (h : 0 ≤ x) (k : Nat) : iI x &&& iI ((2 ^ k - 1 : Nat) : Int) = iI (x % ((2 ^ k : Nat) : Int)) := by
  obtain ⟨n, rfl⟩ : ∃ n : Nat, x = n := ⟨x.toNat, by omega⟩
  rw [and_n, Nat.and_two_pow_sub_one_eq_mod]
  rfl
theorem z_a31 {x : Int} (h : 0 ≤ x) : iI x &&& iI 31 = iI (x % 32) := z_and h 5
theorem z_a7 {x : Int} (h : 0 ≤ x) : iI x &&& iI 7 = iI (x % 8) := z_and h 3
theorem z_a511 {x : Int} (h : 0 ≤ x) : iI x &&& iI 511 = iI (x % 512) := z_and h 9
theorem z_a1 {x : Int} (h : 0 ≤ x) : iI x &&& iI 1 = iI (x % 2) := z_and h 1
theorem z_s20 {x : Int} (h0 : 0 ≤ x) (h1 : x < 2147483648) : iI x >>> (iI 20 &&& 31) = iI (x / 1048576) := z_shr h0 h1 (k := 20) (by decide)
theorem z_s11 {x : Int} (h0 : 0 ≤ x) (h1 : x < 2147483648) : iI x >>> (iI 11 &&& 31) = iI (x / 2048) := z_shr h0 h1 (k := 11) (by decide)
theorem z_s8 {x : Int} (h0 : 0 ≤ x) (h1 : x < 2147483648) : iI x >>> (iI 8 &&& 31) = iI (x / 256) := z_shr h0 h1 (k := 8) (by decide)
theorem z_s5 {x : Int} (h0 : 0 ≤ x) (h1 : x < 2147483648) : iI x >>> (iI 5 &&& 31) = iI (x / 32) := z_shr h0 h1 (k := 5) (by decide)
theorem z_shl {x k : Nat} (hx : x < 65536) (hk : k < 32) : iI (x : Int) <<< (iI (k : Int) &&& 31) = iI ((x * 2 ^ k : Nat) : Int) := by
  apply Int32.toBitVec_inj.1
  show (iI (x : Int)).toBitVec <<< ((iI (k : Int) &&& 31).toBitVec.smod 32) = _
  rw [BitVec.shiftLeft_eq', z_sm k hk, iI_n, iI_n]
  show BitVec.ofNat 32 x <<< k = BitVec.ofNat 32 (x * 2 ^ k)
  apply BitVec.eq_of_toNat_eq
  rw [BitVec.toNat_shiftLeft, BitVec.toNat_ofNat, BitVec.toNat_ofNat, Nat.mod_eq_of_lt (a := x) (by omega), Nat.shiftLeft_eq]
theorem z_or {a b k : Nat} (h : a < 2 ^ k) : iI (a : Int) ||| iI ((b * 2 ^ k : Nat) : Int) = iI ((a + b * 2 ^ k : Nat) : Int) := by
  rw [or_n, Nat.or_comm, ← Nat.shiftLeft_eq, ← Nat.shiftLeft_add_eq_or_of_lt h, Nat.add_comm]
theorem b6_set : ∀ N : Nat, N < 64 → ∀ v : Nat, v < 6 → iI (N : Int) ||| iI ((2 ^ v : Nat) : Int) = iI ((if N / 2 ^ v % 2 = 1 then N else N + 2 ^ v : Nat) : Int) := by decide +kernel
theorem b6_clr : ∀ N : Nat, N < 64 → ∀ v : Nat, v < 6 → iI (N : Int) &&& iI (-((2 ^ v : Nat) : Int) - 1) = iI ((if N / 2 ^ v % 2 = 1 then N - 2 ^ v else N : Nat) : Int) := by decide +kernel
theorem b6_not : ∀ v : Nat, v < 6 → iI ((2 ^ v : Nat) : Int) ^^^ iI (-1) = iI (-((2 ^ v : Nat) : Int) - 1) := by decide +kernel
theorem b6_shl : ∀ v : Nat, v < 6 → iI 1 <<< (iI (v : Int) &&& 31) = iI ((2 ^ v : Nat) : Int) := by decide +kernel
theorem b6_new : ∀ N : Nat, N < 64 → ∀ u : Nat, u < 6 → N / 2 ^ u % 2 = 0 → N + 2 ^ u < 64 ∧ ∀ v : Nat, v < 6 → (N + 2 ^ u) / 2 ^ v % 2 = if v = u then 1 else N / 2 ^ v % 2 := by decide +kernel
theorem b6_get {N v : Nat} (hN : N < 64) (hv : v < 6) : iI (N : Int) >>> (iI (v : Int) &&& 31) = iI ((N / 2 ^ v : Nat) : Int) := by
  rw [z_shr (by omega) (by omega) (by omega)]
  rfl
theorem b6_one (x : Nat) : iI (x : Int) &&& iI 1 = iI ((x % 2 : Nat) : Int) := by
  rw [z_a1 (by omega)]
  rfl
/-- who strikes, as bits -/
def stB (c : Tb) : Int := c 17 0 + 2 * c 17 1 + 4 * c 17 2 + 8 * c 17 3 + 16 * c 17 4 + 32 * c 17 5
theorem stB_n {c : Tb} (hw : WF c) : ∃ N : Nat, stB c = N ∧ N < 64 ∧ ∀ v : Nat, v < 6 → ((N / 2 ^ v % 2 : Nat) : Int) = c 17 v := by
  have w := hw.2.2.2.2.2.2.2.2.2
  have w0 := (w 0).1
  have w1 := (w 1).1
  have w2 := (w 2).1
  have w3 := (w 3).1
  have w4 := (w 4).1
  have w5 := (w 5).1
  refine ⟨(stB c).toNat, ?_, ?_, fun v hv => ?_⟩
  · unfold stB; omega
  · unfold stB; omega
  · unfold stB
    match v, hv with
    | 0, _ => show (((_ : Nat) / 1 % 2 : Nat) : Int) = c 17 0; omega
    | 1, _ => show (((_ : Nat) / 2 % 2 : Nat) : Int) = c 17 1; omega
    | 2, _ => show (((_ : Nat) / 4 % 2 : Nat) : Int) = c 17 2; omega
    | 3, _ => show (((_ : Nat) / 8 % 2 : Nat) : Int) = c 17 3; omega
    | 4, _ => show (((_ : Nat) / 16 % 2 : Nat) : Int) = c 17 4; omega
    | 5, _ => show (((_ : Nat) / 32 % 2 : Nat) : Int) = c 17 5; omega
    | v + 6, hv => omega
theorem stB_up {c : Tb} {N v : Nat} {s : Int} (hv : v < 6) (hN : stB c = N) (hb : ((N / 2 ^ v % 2 : Nat) : Int) = c 17 v) (hs : s = 0 ∨ s = 1) : stB (tu c 17 v s) = ((if s = 1 then (if N / 2 ^ v % 2 = 1 then N else N + 2 ^ v) else (if N / 2 ^ v % 2 = 1 then N - 2 ^ v else N) : Nat) : Int) := by
  have e : stB (tu c 17 v s) = stB c - 2 ^ v * c 17 v + 2 ^ v * s := by
    unfold stB
    match v, hv with
    | 0, _ => rw [tu_s, tu_j (by decide), tu_j (by decide), tu_j (by decide), tu_j (by decide), tu_j (by decide)]; omega
    | 1, _ => rw [tu_s, tu_j (by decide), tu_j (by decide), tu_j (by decide), tu_j (by decide), tu_j (by decide)]; omega
    | 2, _ => rw [tu_s, tu_j (by decide), tu_j (by decide), tu_j (by decide), tu_j (by decide), tu_j (by decide)]; omega
    | 3, _ => rw [tu_s, tu_j (by decide), tu_j (by decide), tu_j (by decide), tu_j (by decide), tu_j (by decide)]; omega
    | 4, _ => rw [tu_s, tu_j (by decide), tu_j (by decide), tu_j (by decide), tu_j (by decide), tu_j (by decide)]; omega
    | 5, _ => rw [tu_s, tu_j (by decide), tu_j (by decide), tu_j (by decide), tu_j (by decide), tu_j (by decide)]; omega
    | v + 6, hv => omega
  rw [e, hN, ← hb]
  have hle : N / 2 ^ v % 2 = 1 → 2 ^ v ≤ N := fun h => by
    have : 1 ≤ N / 2 ^ v := Nat.pos_of_ne_zero (fun z => by rw [z] at h; cases h)
    have := (Nat.le_div_iff_mul_le (Nat.two_pow_pos v)).mp this
    omega
  have ec : ((2 ^ v : Nat) : Int) = 2 ^ v := by rw [Int.natCast_pow]; rfl
  rcases Nat.mod_two_eq_zero_or_one (N / 2 ^ v) with h | h <;> rcases hs with rfl | rfl
  · rw [h, if_neg (by decide), if_neg (by decide)]
    omega
  · rw [h, if_pos rfl, if_neg (by decide), Int.natCast_add, ec]
    omega
  · have := hle h
    rw [h, if_neg (by decide), if_pos rfl, Int.ofNat_sub this, ec]
    omega
  · rw [h, if_pos rfl, if_pos rfl]
    omega
/-- a cue as the law keeps it -/
def qv (c : Tb) (k : Nat) : Int := c 7 k + 32 * c 8 k + 256 * c 10 k + 2048 * c 9 k + 1048576 * c 11 k
theorem qv_parts {c : Tb} (hw : WF c) {k : Nat} (hk : (k : Int) < c 6 0) : (0 ≤ qv c k ∧ qv c k < 2147483648) ∧ qv c k / 1048576 = c 11 k ∧ qv c k / 2048 % 512 = c 9 k ∧ qv c k / 256 % 8 = c 10 k ∧ qv c k / 32 % 8 = c 8 k ∧ qv c k % 32 = c 7 k := by
  obtain ⟨w0, w6, -, -, -, -, -, -, wq, -⟩ := hw
  obtain ⟨h1, -, h3, h4, h5, -, h7, h8, -⟩ := wq k
  have h4' := h4 hk
  unfold qv
  omega
end LB
