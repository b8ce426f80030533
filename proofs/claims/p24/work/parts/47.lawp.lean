/-! a night as the law looks at it: the latest cue, a cue's run, the first meeting -/
section LP
theorem div_up {L t : Nat} (hL : 0 < L) : ((t + 1) % L = 0 → (t + 1) / L = t / L + 1) ∧ ((t + 1) % L ≠ 0 → (t + 1) / L = t / L) := by
  have e := Nat.div_add_mod t L
  have hr := Nat.mod_lt t hL
  by_cases h : t % L + 1 = L
  · have e1 : t + 1 = L * (t / L + 1) := by
      rw [Nat.mul_add, Nat.mul_one]
      omega
    constructor
    · intro _
      exact (congrArg (fun z => z / L) e1).trans (Nat.mul_div_cancel_left _ hL)
    · intro h2
      exact absurd ((congrArg (fun z => z % L) e1).trans (Nat.mul_mod_right L _)) h2
  · have hlt : t % L + 1 < L := by omega
    have e1 : t + 1 = L * (t / L) + (t % L + 1) := by omega
    have e2 : (t + 1) % L = t % L + 1 := (congrArg (fun z => z % L) e1).trans (by
      show (L * (t / L) + (t % L + 1)) % L = t % L + 1
      rw [Nat.mul_add_mod, Nat.mod_eq_of_lt hlt])
    constructor
    · intro h3
      omega
    · intro _
      exact (congrArg (fun z => z / L) e1).trans (by
        show (L * (t / L) + (t % L + 1)) / L = t / L
        rw [Nat.mul_add_div hL, Nat.div_eq_of_lt hlt, Nat.add_zero])
/-- the latest cue of the first b bars -/
def latN (c : Tb) (i : Nat) : Nat → Int
  | 0 => -1
  | b + 1 => if eff c i (b : Nat) = -1 then latN c i b else eff c i (b : Nat)
theorem tr_lat {c : Tb} {L i : Nat} (hL : 0 < L) : ∀ t : Nat, (tr c L i (t + 1)).2 = latN c i (t / L + 1)
  | 0 => by
    rw [tr_2]
    unfold lookE
    rw [if_pos (Nat.zero_mod L), Nat.zero_div]
    rfl
  | t + 1 => by
    rw [tr_2, tr_lat hL t]
    unfold lookE
    by_cases h : (t + 1) % L = 0
    · rw [if_pos h, (div_up hL).1 h]
      rfl
    · rw [if_neg h, if_pos rfl, (div_up hL).2 h]
theorem eff_past {c : Tb} (hw : WF c) {i b : Int} (h : c 12 0 ≤ b) : eff c i b = -1 := by
  rcases effN_m1 c i b (c 6 0).toNat with h1 | ⟨j, h1, h2, h3, h4, h5⟩
  · exact h1
  · have := (hw.2.2.2.2.2.2.2.2.1 j).2.1 (by omega) h3
    omega
theorem lat_cap {c : Tb} (hw : WF c) {i n : Nat} (hn : c 12 0 = n) : ∀ k : Nat, latN c i (n + k) = latN c i n
  | 0 => rfl
  | k + 1 => by
    show (if eff c i ((n + k : Nat) : Int) = -1 then latN c i (n + k) else eff c i ((n + k : Nat) : Int)) = _
    rw [if_pos (eff_past hw (by omega))]
    exact lat_cap hw hn k
theorem tr_mm {c : Tb} (hw : WF c) {L i : Nat} : ∀ t : Nat, (tr c L i t).2 = -1 → (tr c L i t).1 = c 5 i
  | 0, _ => rfl
  | t + 1, h => by
    rw [tr_2] at h
    have h1 : lookE c L t i = -1 := by
      by_cases z : lookE c L t i = -1
      · exact z
      · rw [if_neg z] at h
        exact absurd h z
    rw [if_pos h1] at h
    have ih := tr_mm hw t h
    have wi := hw.2.2.2.2.2.2.2.1 i
    have e : (tr c L i (t + 1)).1 = mv (c 1 i) (c 4 i) (tr c L i t).1 (aimOf c i (tr c L i (t + 1)).2) := rfl
    have e2 : aimOf c i (-1) = c 5 i := if_pos rfl
    rw [e, tr_2, if_pos h1, h, ih, e2]
    exact mv_same wi.2.2.2.2.2.2.1 wi.2.2.2.2.1.1
theorem tr_mv (c : Tb) (L i t : Nat) : (tr c L i (t + 1)).1 = mv (c 1 i) (c 4 i) (tr c L i t).1 (aimOf c i (tr c L i (t + 1)).2) := rfl
theorem lat_q {c : Tb} {i : Nat} : ∀ m : Nat, (latN c i m = -1 ∧ ∀ b : Nat, b < m → eff c i b = -1) ∨ ∃ b : Nat, b < m ∧ latN c i m = eff c i b ∧ eff c i b ≠ -1 ∧ ∀ d : Nat, b < d → d < m → eff c i d = -1
  | 0 => Or.inl ⟨rfl, fun b h => absurd h (Nat.not_lt_zero b)⟩
  | m + 1 => by
    have e : latN c i (m + 1) = if eff c i (m : Nat) = -1 then latN c i m else eff c i (m : Nat) := rfl
    by_cases z : eff c i (m : Nat) = -1
    · rw [e, if_pos z]
      rcases lat_q (c := c) (i := i) m with ⟨h1, h2⟩ | ⟨b, h1, h2, h3, h4⟩
      · refine Or.inl ⟨h1, fun b hb => ?_⟩
        by_cases y : b = m
        · rw [y]; exact z
        · exact h2 b (by omega)
      · refine Or.inr ⟨b, by omega, h2, h3, fun d d1 d2 => ?_⟩
        by_cases y : d = m
        · rw [y]; exact z
        · exact h4 d d1 (by omega)
    · rw [e, if_neg z]
      exact Or.inr ⟨m, Nat.lt_succ_self m, rfl, z, fun d d1 d2 => by omega⟩
theorem eff_at {c : Tb} {i b : Int} {q : Nat} (h : eff c i b = q) : c 11 q = 0 ∧ c 8 q = i ∧ c 7 q = b ∧ (q : Int) < c 6 0 := by
  rcases effN_m1 c i b (c 6 0).toNat with h1 | ⟨j, h1, h2, h3, h4, h5⟩
  · unfold eff at h
    omega
  · unfold eff at h
    have : j = q := by omega
    subst this
    exact ⟨h3, h4, h5, by omega⟩
theorem lat_is {c : Tb} {i q b m : Nat} (he : eff c i b = q) (hb : b < m) (hm : ∀ d : Nat, b < d → d < m → eff c i d = -1) : latN c i m = q := by
  rcases lat_q (c := c) (i := i) m with ⟨h1, h2⟩ | ⟨b0, h1, h2, h3, h4⟩
  · have := h2 b hb
    omega
  · by_cases z : b0 < b
    · have := h4 b z hb
      omega
    · by_cases y : b < b0
      · exact absurd (hm b0 y h1) h3
      · have : b0 = b := by omega
        rw [h2, this, he]
theorem lat_of {c : Tb} {i q m : Nat} (h : latN c i m = q) : ∃ b : Nat, b < m ∧ c 7 q = b ∧ eff c i b = q ∧ ∀ d : Nat, b < d → d < m → eff c i d = -1 := by
  rcases lat_q (c := c) (i := i) m with ⟨h1, h2⟩ | ⟨b, h1, h2, h3, h4⟩
  · omega
  · rw [h2] at h
    exact ⟨b, h1, (eff_at h).2.2.1, h, h4⟩
/-- a cue's run: from its bar to the next that has one -/
theorem cue_run {c : Tb} {L i q b n : Nat} (hL : 0 < L) (he : eff c i b = q) (hm : ∀ d : Nat, b < d → d < n → eff c i d = -1) {t : Nat} (h1 : b * L ≤ t) (h2 : t < n * L) : (tr c L i (t + 1)).2 = q := by
  rw [tr_lat hL]
  have a1 : b ≤ t / L := (Nat.le_div_iff_mul_le hL).mpr h1
  have a2 : t / L < n := (Nat.div_lt_iff_lt_mul hL).mpr h2
  exact lat_is he (by omega) (fun d d1 d2 => hm d d1 (by omega))
theorem cue_off {c : Tb} {L i q b n : Nat} (hL : 0 < L) (he : eff c i b = q) (hbn : b < n) (hn : eff c i n ≠ -1) {t : Nat} (h1 : n * L ≤ t) : (tr c L i (t + 1)).2 ≠ q := by
  rw [tr_lat hL]
  intro z
  have a1 : n ≤ t / L := (Nat.le_div_iff_mul_le hL).mpr h1
  obtain ⟨b0, b1, b2, b3, b4⟩ := lat_of z
  have := (eff_at he).2.2.1
  exact hn (b4 n (by omega) (by omega))
theorem cue_cnt {c : Tb} (hw : WF c) {L i q b n : Nat} (hL : 0 < L) (he : eff c i b = q) (hm : ∀ d : Nat, b < d → d < n → eff c i d = -1) : ∀ j : Nat, b * L + j ≤ n * L → ∃ k : Nat, cnt c L q (b * L + j) = k ∧ k ≤ j ∧ (∀ u : Nat, u < k → (tr c L i (b * L + u)).1 ≠ c 9 q) ∧ (k < j → (tr c L i (b * L + k)).1 = c 9 q ∧ (tr c L i (b * L + j)).1 = c 9 q)
  | 0, _ => by
    refine ⟨0, ?_, Nat.le_refl 0, fun u h => absurd h (Nat.not_lt_zero u), fun h => absurd h (Nat.not_lt_zero 0)⟩
    refine cnt_0 hL hw.2.1.2 (b * L + 0) ?_
    rw [(eff_at he).2.2.1, Nat.add_zero, Int.natCast_mul]
    exact Int.le_refl _
  | j + 1, hj => by
    obtain ⟨k, e, k1, k2, k3⟩ := cue_cnt hw hL he hm j (by omega)
    have r := cue_run hL he hm (t := b * L + j) (by omega) (by omega)
    have h8 : (c 8 q).toNat = i := by have := (eff_at he).2.1; omega
    have ex : cnt c L q (b * L + (j + 1)) = cnt c L q (b * L + j) + (if (tr c L (c 8 q).toNat (b * L + j + 1)).2 = q ∧ (tr c L (c 8 q).toNat (b * L + j)).1 ≠ c 9 q then 1 else 0) := rfl
    rw [ex, h8, e]
    by_cases z : (tr c L i (b * L + j)).1 = c 9 q
    · rw [if_neg (fun y => y.2 z)]
      refine ⟨k, by omega, by omega, k2, fun _ => ⟨?_, ?_⟩⟩
      · by_cases y : k < j
        · exact (k3 y).1
        · have : k = j := by omega
          rw [this]; exact z
      · show (tr c L i (b * L + j + 1)).1 = c 9 q
        rw [tr_mv, r, aim_q rfl, z]
        exact mv_same (hw.2.2.2.2.2.2.2.2.1 q).2.2.2.2.1 (hw.2.2.2.2.2.2.2.1 i).2.2.2.2.1.1
    · rw [if_pos ⟨r, z⟩]
      have hk : k = j := by
        by_cases y : k < j
        · exact absurd (k3 y).2 z
        · omega
      refine ⟨j + 1, by omega, Nat.le_refl _, fun u hu => ?_, fun h => absurd h (Nat.lt_irrefl _)⟩
      by_cases y : u = j
      · rw [y]; exact z
      · exact k2 u (by omega)
theorem cnt_keep {c : Tb} {L i q s : Nat} (h8 : (c 8 q).toNat = i) (h : ∀ t : Nat, s ≤ t → (tr c L i (t + 1)).2 ≠ q) : ∀ m : Nat, cnt c L q (s + m) = cnt c L q s
  | 0 => rfl
  | m + 1 => by
    have ex : cnt c L q (s + (m + 1)) = cnt c L q (s + m) + (if (tr c L (c 8 q).toNat (s + m + 1)).2 = q ∧ (tr c L (c 8 q).toNat (s + m)).1 ≠ c 9 q then 1 else 0) := rfl
    rw [ex, h8, if_neg (fun y => h (s + m) (by omega) y.1), cnt_keep h8 h m]
    omega
/-- how long a cue is worked on -/
theorem takes_at {c : Tb} (hw : WF c) {L i q b n n12 : Nat} (hL : 0 < L) (h12 : c 12 0 = n12) (he : eff c i b = q) (hbn : b < n) (hn12 : n ≤ n12) (hm : ∀ d : Nat, b < d → d < n → eff c i d = -1) (hn : n = n12 ∨ eff c i n ≠ -1) : ∃ k : Nat, cnt c L q (NT c L) = k ∧ b * L + k ≤ n * L ∧ (b * L + k < n * L → (tr c L i (b * L + k)).1 = c 9 q) ∧ ∀ u : Nat, u < k → (tr c L i (b * L + u)).1 ≠ c 9 q := by
  have hbL : b * L ≤ n * L := Nat.mul_le_mul_right L (by omega)
  obtain ⟨k, e, k1, k2, k3⟩ := cue_cnt hw hL he hm (n * L - b * L) (by omega)
  have e1 : b * L + (n * L - b * L) = n * L := by omega
  rw [e1] at e
  have h8 : (c 8 q).toNat = i := by have := (eff_at he).2.1; omega
  have eN : NT c L = n * L + (n12 - n) * L := by
    unfold NT
    rw [← Nat.add_mul]
    congr 1
    omega
  refine ⟨k, ?_, by omega, fun h => (k3 (by omega)).1, k2⟩
  rw [eN]
  rcases hn with hn | hn
  · rw [show n12 - n = 0 by omega, Nat.zero_mul]
    exact e
  · rw [cnt_keep h8 (fun t ht => cue_off hL he hbn hn ht)]
    exact e
theorem takes_no {c : Tb} {L i q b : Nat} (hL : 0 < L) (h8 : c 8 q = i) (h7 : c 7 q = b) (h : eff c i b ≠ q) (t : Nat) : cnt c L q t = 0 := by
  have := cnt_keep (c := c) (L := L) (i := i) (q := q) (s := 0) (by omega) (fun t _ z => by
    rw [tr_lat hL] at z
    obtain ⟨b0, b1, b2, b3, b4⟩ := lat_of z
    exact h (by rw [show b = b0 by omega]; exact b3)) t
  rw [Nat.zero_add] at this
  exact this
/-- the least pair at a tick -/
def prM (c : Tb) (L t : Nat) : Int := lpK c (fun k => (tr c L k t).1) (-1) (c 0 0).toNat
theorem mt_at {c : Tb} {L : Nat} : ∀ T : Nat, ((mtP c L T).1 = -1 ∧ (mtP c L T).2 = -1 ∧ ∀ t : Nat, t < T → prM c L t = -1) ∨ ∃ t0 : Nat, t0 < T ∧ (mtP c L T).1 = t0 ∧ (mtP c L T).2 = prM c L t0 ∧ prM c L t0 ≠ -1 ∧ ∀ t : Nat, t < t0 → prM c L t = -1
  | 0 => Or.inl ⟨rfl, rfl, fun t h => absurd h (Nat.not_lt_zero t)⟩
  | T + 1 => by
    have e1 : (mtP c L (T + 1)).1 = if (mtP c L T).2 = -1 ∧ lpK c (fun k => (tr c L k T).1) (mtP c L T).2 (c 0 0).toNat ≠ -1 then (T : Int) else (mtP c L T).1 := rfl
    have e2 : (mtP c L (T + 1)).2 = lpK c (fun k => (tr c L k T).1) (mtP c L T).2 (c 0 0).toNat := rfl
    rcases mt_at (c := c) (L := L) T with ⟨h1, h2, h3⟩ | ⟨t0, h1, h2, h3, h4, h5⟩
    · rw [e1, e2, h2]
      by_cases z : prM c L T = -1
      · refine Or.inl ⟨?_, z, fun t ht => ?_⟩
        · rw [if_neg (fun y => y.2 z)]; exact h1
        · by_cases y : t = T
          · rw [y]; exact z
          · exact h3 t (by omega)
      · exact Or.inr ⟨T, Nat.lt_succ_self T, if_pos ⟨rfl, z⟩, rfl, z, h3⟩
    · have h6 : (mtP c L T).2 ≠ -1 := by rw [h3]; exact h4
      rw [e1, e2, lpK_p h6, if_neg (fun y => h6 y.1)]
      exact Or.inr ⟨t0, by omega, h2, h3, h4, h5⟩
theorem lpJ_up {c : Tb} {P : Nat → Int} {k : Nat} {a : Int} {m : Nat} (h : lpJ c P k a m ≠ -1) : ∀ d : Nat, lpJ c P k a (m + d) = lpJ c P k a m
  | 0 => rfl
  | d + 1 => by
    have e : lpJ c P k a (m + (d + 1)) = if lpJ c P k a (m + d) = -1 ∧ mtB c P k (k + 1 + (m + d)) then 10 * (k : Int) + (k + 1 + (m + d) : Nat) else lpJ c P k a (m + d) := rfl
    rw [e, lpJ_up h d, if_neg (fun z => h z.1)]
theorem lpK_up {c : Tb} {P : Nat → Int} {a : Int} {k : Nat} (h : lpK c P a k ≠ -1) : ∀ d : Nat, lpK c P a (k + d) = lpK c P a k
  | 0 => rfl
  | d + 1 => by
    have e : lpK c P a (k + (d + 1)) = lpJ c P (k + d) (lpK c P a (k + d)) ((c 0 0).toNat - (k + d + 1)) := rfl
    rw [e, lpK_up h d, lpJ_p h]
theorem lp_found {c : Tb} {P : Nat → Int} {k m n : Nat} (hn : (c 0 0).toNat = n) (h1 : lpK c P (-1) k = -1) (h2 : lpJ c P k (-1) m = -1) (h3 : mtB c P k (k + 1 + m)) (h4 : k + 1 + m < n) : lpK c P (-1) n = 10 * (k : Int) + (k + 1 + m : Nat) := by
  have e : lpJ c P k (-1) (m + 1) = 10 * (k : Int) + (k + 1 + m : Nat) := by
    have e0 : lpJ c P k (-1) (m + 1) = if lpJ c P k (-1) m = -1 ∧ mtB c P k (k + 1 + m) then 10 * (k : Int) + (k + 1 + m : Nat) else lpJ c P k (-1) m := rfl
    rw [e0, if_pos ⟨h2, h3⟩]
  have hne : lpJ c P k (-1) (m + 1) ≠ -1 := by rw [e]; omega
  have eK : lpK c P (-1) (k + 1) = 10 * (k : Int) + (k + 1 + m : Nat) := by
    have e0 : lpK c P (-1) (k + 1) = lpJ c P k (lpK c P (-1) k) ((c 0 0).toNat - (k + 1)) := rfl
    rw [e0, h1, hn, show n - (k + 1) = m + 1 + (n - (k + 1) - (m + 1)) by omega, lpJ_up hne, e]
  have hne2 : lpK c P (-1) (k + 1) ≠ -1 := by rw [eK]; omega
  have := lpK_up hne2 (n - (k + 1))
  rw [show k + 1 + (n - (k + 1)) = n by omega, eK] at this
  exact this
end LP
