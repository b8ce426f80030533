theorem WI_cast {c : Tb} {L : Nat} {s : Nat → Nat} {n K : Nat} {a : Int} {j : Nat} {p z y e u p' z' y' u' : Int} (h : WI c L s n K a j p z y e u) (e1 : p' = p) (e2 : z' = z) (e3 : y' = y) (e4 : u' = u) : WI c L s n K a j p' z' y' e u' := by
  rw [e1, e2, e3, e4]
  exact h
set_option maxRecDepth 100000 in
set_option maxHeartbeats 4000000 in
theorem l_isWorker {g : Gx} (hst : g.1.stackTraces = false) {x am aq ac az : Nat} {c : Tb} {σ : Wd} (hJ : SJ g x am aq ac az c c σ) {a : Int} (ha : 0 ≤ a ∧ a ≤ 5) (h1 : 1 ≤ c 6 0)  : CT g yL_isWorker cL_isWorker 13 (some .boolean) 6 2162 12972 [.ref x, .ref aq, .ref ac, iv a] σ (fun r σ' => r = some (iv 1) ∧ SJ g x am aq ac az c c σ') (fun _ _ => False) := by
  refine CT.of hst (by decide +kernel) (Nat.le_of_ble_eq_true rfl) (fun Φ C Rr hY hN => ?_)
  show N Φ 0 0 σ 0 [(0, .ref x), (1, .ref aq), (2, .ref ac), (3, iv a)] []
  obtain ⟨hdis, -, ⟨fm, hmI, hm⟩, ⟨fq, hqI, hq⟩, ⟨fc, hcI, hc⟩, fz, hzI, hz⟩ := id hJ
  have hw := hJ.wf
  obtain ⟨w0, w6, w12, w13, w14, w15, w16, wm, wq, ww⟩ := id hw
  have hLr := lenB_rg hw (T := c 14 0) w14.1
  obtain ⟨L, hL⟩ : ∃ L : Nat, lenB c (c 14 0) = L := ⟨(lenB c (c 14 0)).toNat, by omega⟩
  rw [hL] at hLr
  have hLL : LL c = L := by unfold LL; omega
  obtain ⟨n12, h12⟩ : ∃ n : Nat, c 12 0 = n := ⟨(c 12 0).toNat, by omega⟩
  obtain ⟨n0, hn0⟩ : ∃ n : Nat, c 0 0 = n := ⟨(c 0 0).toNat, by omega⟩
  obtain ⟨n6, hn6⟩ : ∃ n : Nat, c 6 0 = n := ⟨(c 6 0).toNat, by omega⟩
  obtain ⟨NN, hNd⟩ : ∃ NN : Nat, n12 * L = NN := ⟨_, rfl⟩
  have hNN : NN ≤ 2400 := by
    rw [← hNd]
    exact Nat.mul_le_mul (show n12 ≤ 30 by omega) (show L ≤ 80 by omega)
  have hNL : c 12 0 * lenB c (c 14 0) = (NN : Int) := by rw [h12, hL, ← Int.natCast_mul, hNd]
  have hNT : NT c L = NN := by
    unfold NT
    rw [show (c 12 0).toNat = n12 by omega]
    exact hNd
  have hvt : ∀ k : Nat, vlTakes c (k : Int) = cnt c L k NN := fun k => by
    unfold vlTakes
    rw [hLL, hNT, Int.toNat_natCast]
  have hvw : ∀ k : Nat, vlWorker c (k : Int) = wOf c k := fun k => rfl
  have hof : ∀ (q : Nat) (v : Int), (q : Int) < c 6 0 → (ofP c (bB c L) (eE c L) q v ↔ 0 < cnt c L q NN ∧ wOf c q = v) := fun q v hq => by
    rw [← hNT]
    exact of_cl (by omega) w6.2 hq
  have hLLr : LL c = L := hLL
  obtain ⟨A, hI⟩ := hJ.ci
  have hs : ∀ k l : Nat, k < l → l < n6 → ahQ c (shO A k) (shO A l) := fun k l h1 h2 => hI.2.2.2.2.1 k l h1 (by omega)
  have hsur : ∀ q : Nat, q < n6 → ∃ k : Nat, k < n6 ∧ shO A k = q := fun q hq => by
    obtain ⟨k, k1, k2⟩ := hI.2.2.2.2.2.1 q (by omega)
    exact ⟨k, by omega, k2⟩
  have hin : ∀ k : Nat, k < n6 → shO A k < n6 := fun k hk => by
    have := (hI.2.2.2.1 k (by omega)).2
    omega
  clear hI
  obtain ⟨s, hsd⟩ : ∃ s : Nat → Nat, shO A = s := ⟨_, rfl⟩
  rw [hsd] at hs hsur hin
  obtain ⟨K, hKd⟩ : ∃ K : Nat, NN - (c 16 0).toNat = K := ⟨_, rfl⟩
  obtain ⟨PQ, hPQ⟩ : ∃ PQ : Nat, n12 * n6 = PQ := ⟨_, rfl⟩
  have hPQ2 : PQ ≤ 720 := by
    rw [← hPQ]
    exact Nat.mul_le_mul (show n12 ≤ 30 by omega) (show n6 ≤ 24 by omega)
  have hpq : c 6 0 * c 12 0 = (PQ : Int) := by rw [hn6, h12, ← Int.natCast_mul, Nat.mul_comm, hPQ]
  have hBd : ∀ q : Nat, bB c L q = c 7 q * (L : Int) := fun q => rfl
  have heE : ∀ q : Nat, eE c L q = c 7 q * (L : Int) + cnt c L q NN := fun q => by
    show c 7 q * (L : Int) + cnt c L q ((c 12 0).toNat * L) = _
    rw [show (c 12 0).toNat * L = NN by rw [show (c 12 0).toNat = n12 by omega]; exact hNd]
  have hBq : ∀ q : Nat, 0 ≤ c 7 q * (L : Int) ∧ c 7 q * (L : Int) ≤ 2400 := fun q => by
    have z := (wq q).1
    have z1 : c 7 q * (L : Int) ≤ 30 * (L : Int) := Int.mul_le_mul_of_nonneg_right (by omega) (by omega)
    exact ⟨Int.mul_nonneg z.1 (by omega), by omega⟩
  have hE : ∀ q : Nat, q < n6 → 0 ≤ bB c L q ∧ eE c L q ≤ 5000 := fun q _ => by
    have := cnt_rg c L q NN
    have := hBq q
    rw [hBd, heE]
    omega
  have hK : ∀ q : Nat, eE c L q ≤ c 16 0 + K ∨ eE c L q ≤ c 16 0 ∨ ¬ ofP c (bB c L) (eE c L) q a := fun q => by
    have h2 := cnt_le (c := c) (L := L) (q := q) (by omega) w6.2 (hBq q).1 NN
    have h3 := cnt_0 (c := c) (L := L) (q := q) (by omega) w6.2 NN
    have h4 := heE q
    by_cases z : c 7 q * (L : Int) ≤ (NN : Int)
    · have := h2 z
      omega
    · refine Or.inr (Or.inr (fun t => ?_))
      have t2 := t.2.2.1
      rw [hBd, heE, h3 (by omega)] at t2
      omega
  have hcw : cdWork a = 0 := by
    unfold cdWork
    rw [if_pos ha]
  refine n_iconst (x := 0) C dL_isWorker_0 ?_
  refine n_istore (lv' := [(4, iv 0), (0, .ref x), (1, .ref aq), (2, .ref ac), (3, iv a)]) C dL_isWorker_1 (by rw [hN]; decide) rfl ?_
  refine n_iconst (x := 0) C dL_isWorker_3 ?_
  refine n_istore (lv' := [(5, iv 0), (4, iv 0), (0, .ref x), (1, .ref aq), (2, .ref ac), (3, iv a)]) C dL_isWorker_4 (by rw [hN]; decide) rfl ?_
  refine n_iconst (x := (-1)) C dL_isWorker_6 ?_
  refine n_istore (lv' := [(6, iv (-1)), (5, iv 0), (4, iv 0), (0, .ref x), (1, .ref aq), (2, .ref ac), (3, iv a)]) C dL_isWorker_7 (by rw [hN]; decide) rfl ?_
  refine n_aload_n C dL_isWorker_9 rfl ?_
  refine n_bipush (x := 6) C dL_isWorker_10 (by decide) ?_
  refine n_ialdv C (c 16 0) hc (by omega) (by omega) (by omega) hcI.2.2.2.2.2.2.1 dL_isWorker_12 ?_
  refine n_istore (lv' := [(7, iv (c 16 0)), (6, iv (-1)), (5, iv 0), (4, iv 0), (0, .ref x), (1, .ref aq), (2, .ref ac), (3, iv a)]) C dL_isWorker_13 (by rw [hN]; decide) rfl ?_
  refine n_iconst (x := 0) C dL_isWorker_15 ?_
  refine n_istore (lv' := [(8, iv 0), (7, iv (c 16 0)), (6, iv (-1)), (5, iv 0), (4, iv 0), (0, .ref x), (1, .ref aq), (2, .ref ac), (3, iv a)]) C dL_isWorker_16 (by rw [hN]; decide) rfl ?_
  have LP : ∀ (fu : Nat) (p j : Nat) (σ : Wd) (hJ : SJ g x am aq ac az c c σ) (z yy e un : Int) (hW : WI c L s n6 K a j p z yy e un) (hpn : p ≤ PQ) (hf : PQ + 1 ≤ p + fu), N Φ (3 * p) (18 * p) σ 18 [(8, iv (p : Int)), (7, iv un), (6, iv e), (5, iv yy), (4, iv z), (0, .ref x), (1, .ref aq), (2, .ref ac), (3, iv a)] [] := by
    intro fu
    induction fu with
    | zero =>
      intro p j σ hJ z yy e un hW hpn hf
      omega
    | succ fu ih =>
      intro p j σ hJ z yy e un hW hpn hf
      obtain ⟨hdis, -, ⟨fm, hmI, hm⟩, ⟨fq, hqI, hq⟩, ⟨fc, hcI, hc⟩, fz, hzI, hz⟩ := id hJ
      obtain ⟨⟨hjn, -⟩, -, -, -, -, hzr, hyr, her, hur⟩ := id hW
      refine n_iload C dL_isWorker_18 rfl ?_
      refine n_aload_n C dL_isWorker_20 rfl ?_
      refine n_iconst (x := 1) C dL_isWorker_21 ?_
      refine n_ialdv C (c 6 0) hc (by omega) (by omega) (by omega) hcI.2.1 dL_isWorker_22 ?_
      refine n_aload_n C dL_isWorker_23 rfl ?_
      refine n_iconst (x := 2) C dL_isWorker_24 ?_
      refine n_ialdv C (c 12 0) hc (by omega) (by omega) (by omega) hcI.2.2.1 dL_isWorker_25 ?_
      refine n_imul C dL_isWorker_26 ?_
      rw [hpq]
      refine n_icmp_ge C 191 dL_isWorker_27 (by decide) (by unfold rg; omega) (by unfold rg; omega) (fun b27 => ?_) (fun b27 => ?_)
      · obtain ⟨ez, ey⟩ := WI_end hw hn6 (by omega) hs hsur hin h12 hW (by rw [← Int.natCast_mul, hPQ]; omega)
        have hvc : vlClashes c a = z := by
          unfold vlClashes
          rw [hLL, show (c 6 0).toNat = n6 by omega]
          exact ez.symm
        have hvo : vlOver c a = yy := by
          unfold vlOver
          rw [hLL, hNT, hKd]
          exact ey.symm
        refine n_aload_n C dL_isWorker_191 rfl ?_
        refine n_iload_n C dL_isWorker_192 rfl ?_
        obtain ⟨fo, hfo⟩ := hJ.obj
        refine n_invV C (s_clashes hst (by unfold rg; omega) hJ hcw) ⟨t4_89, t4_92, t1_1, ⟨by decide, by decide⟩, by show _ = some 1; decide +kernel, by decide⟩ t4_90 t4_91 hfo vC5 (by decide) (by omega) (by omega) (Nat.le_of_ble_eq_true rfl) rfl dL_isWorker_193 (fun r σ h' => ?_) (fun _ _ h => h.elim)
        obtain ⟨rfl, hJ⟩ := h'
        obtain ⟨hdis, -, ⟨fm, hmI, hm⟩, ⟨fq, hqI, hq⟩, ⟨fc, hcI, hc⟩, fz, hzI, hz⟩ := id hJ
        rw [hvc]
        refine n_iload C dL_isWorker_196 rfl ?_
        refine n_icmp_ne C 215 dL_isWorker_198 (by decide) (by unfold rg; omega) (by unfold rg; omega) (fun hk => by exfalso; first | omega | exact hk (by omega) | exact (by omega) hk) (fun _ => ?_)
        refine n_aload_n C dL_isWorker_201 rfl ?_
        refine n_iload_n C dL_isWorker_202 rfl ?_
        obtain ⟨fo, hfo⟩ := hJ.obj
        refine n_invV C (s_overtime hst (by unfold rg; omega) hJ hcw) ⟨t4_97, t4_100, t1_1, ⟨by decide, by decide⟩, by show _ = some 1; decide +kernel, by decide⟩ t4_98 t4_99 hfo vC5 (by decide) (by omega) (by omega) (Nat.le_of_ble_eq_true rfl) rfl dL_isWorker_203 (fun r σ h' => ?_) (fun _ _ h => h.elim)
        obtain ⟨rfl, hJ⟩ := h'
        obtain ⟨hdis, -, ⟨fm, hmI, hm⟩, ⟨fq, hqI, hq⟩, ⟨fc, hcI, hc⟩, fz, hzI, hz⟩ := id hJ
        rw [hvo]
        refine n_iload C dL_isWorker_206 rfl ?_
        refine n_icmp_ne C 215 dL_isWorker_208 (by decide) (by unfold rg; omega) (by unfold rg; omega) (fun hk => by exfalso; first | omega | exact hk (by omega) | exact (by omega) hk) (fun _ => ?_)
        refine n_iconst (x := 1) C dL_isWorker_211 ?_
        refine n_goto C 216 dL_isWorker_212 (by decide) ?_
        exact n_ireturn C Rr (nar_bv (by first | decide | omega)) ⟨rfl, hJ⟩ (by omega) (by omega) dL_isWorker_216
      · obtain ⟨q, hqd⟩ : ∃ q : Nat, p % n6 = q := ⟨_, rfl⟩
        obtain ⟨b, hbd⟩ : ∃ b : Nat, p / n6 = b := ⟨_, rfl⟩
        have hq6 : q < n6 := by
          rw [← hqd]
          exact Nat.mod_lt _ (by omega)
        have hbp : b ≤ p := by
          rw [← hbd]
          exact Nat.div_le_self _ _
        have hpe : (p : Int) = (b : Int) * (n6 : Int) + q := by
          have := Nat.div_add_mod p n6
          rw [hqd, hbd, Nat.mul_comm] at this
          rw [← Int.natCast_mul]
          omega
        have hem : (p : Int) % c 6 0 = (q : Int) := by rw [hn6, ← hqd]; rfl
        have hed : (p : Int) / c 6 0 = (b : Int) := by rw [hn6, ← hbd]; rfl
        have hbL : b * L ≤ 57600 := Nat.mul_le_mul (show b ≤ 720 by omega) (show L ≤ 80 by omega)
        have wqq := wq q
        have hp1 := qv_parts hw (k := q) (by omega)
        have hcr := cnt_rg c L q NN
        have hBqq := hBq q
        have hfq := hof q a (by omega)
        have e1 : ((p + 1 : Nat) : Int) = (p : Int) + 1 := by omega
        have w15' := w15
        refine n_iload C dL_isWorker_30 rfl ?_
        refine n_aload_n C dL_isWorker_32 rfl ?_
        refine n_iconst (x := 1) C dL_isWorker_33 ?_
        refine n_ialdv C (c 6 0) hc (by omega) (by omega) (by omega) hcI.2.1 dL_isWorker_34 ?_
        refine n_iremP C dL_isWorker_35 (by unfold rg; omega) (by unfold rg; omega) (by omega) (by omega) ?_
        rw [hem]
        refine n_istore (lv' := [(9, iv (q : Int)), (8, iv (p : Int)), (7, iv un), (6, iv e), (5, iv yy), (4, iv z), (0, .ref x), (1, .ref aq), (2, .ref ac), (3, iv a)]) C dL_isWorker_36 (by rw [hN]; decide) rfl ?_
        refine n_iload C dL_isWorker_38 rfl ?_
        refine n_aload_n C dL_isWorker_40 rfl ?_
        refine n_iconst (x := 1) C dL_isWorker_41 ?_
        refine n_ialdv C (c 6 0) hc (by omega) (by omega) (by omega) hcI.2.1 dL_isWorker_42 ?_
        refine n_idivP C dL_isWorker_43 (by unfold rg; omega) (by unfold rg; omega) (by omega) (by omega) ?_
        rw [hed]
        refine n_istore (lv' := [(10, iv (b : Int)), (9, iv (q : Int)), (8, iv (p : Int)), (7, iv un), (6, iv e), (5, iv yy), (4, iv z), (0, .ref x), (1, .ref aq), (2, .ref ac), (3, iv a)]) C dL_isWorker_44 (by rw [hN]; decide) rfl ?_
        refine n_aload_n C dL_isWorker_46 rfl ?_
        refine n_iload C dL_isWorker_47 rfl ?_
        refine n_invS C (l_isOut hst hw (k := q) (by omega) hq hqI) ⟨t3_149, t3_151, t1_0, ⟨by decide, by decide⟩, by show _ = some 2; decide +kernel, by decide⟩ t3_150 (by decide) (by omega) (by omega) (Nat.le_of_ble_eq_true rfl) rfl dL_isWorker_49 (fun r σ' h' => ?_) (fun _ _ h => h.elim)
        obtain ⟨u, rfl, hσ, hu⟩ := h'
        rw [hσ]
        refine n_if_ne C 185 dL_isWorker_52 (by decide) (by unfold rg; omega) (fun b52 => ?_) (fun b52 => ?_)
        · by_cases h7 : c 7 q = (b : Int)
          · refine n_iinc (lv' := [(8, iv ((p : Int) + 1)), (10, iv (b : Int)), (9, iv (q : Int)), (7, iv un), (6, iv e), (5, iv yy), (4, iv z), (0, .ref x), (1, .ref aq), (2, .ref ac), (3, iv a)]) C dL_isWorker_185 rfl (by rw [hN]; decide) rfl ?_
            refine n_goto C 18 dL_isWorker_188 (by decide) ?_
            refine n_keep (lv' := [(8, iv ((p : Int) + 1)), (7, iv un), (6, iv e), (5, iv yy), (4, iv z), (0, .ref x), (1, .ref aq), (2, .ref ac), (3, iv a)]) [8, 7, 6, 5, 4, 0, 1, 2, 3] rfl ?_
            have hno : ¬ ofP c (bB c L) (eE c L) q a := fun t => by have := t.2.1; omega
            exact n_widen (k' := 3 * (p + 1)) (n' := 18 * (p + 1)) (by omega) (by omega) (ih (p + 1) (j + 1) σ hJ z yy e un (by rw [e1]; exact WI_skip hn6 (by omega) hs hsur hin b hW hq6 hpe h7 hno) (by omega) (by omega))
          · refine n_iinc (lv' := [(8, iv ((p : Int) + 1)), (10, iv (b : Int)), (9, iv (q : Int)), (7, iv un), (6, iv e), (5, iv yy), (4, iv z), (0, .ref x), (1, .ref aq), (2, .ref ac), (3, iv a)]) C dL_isWorker_185 rfl (by rw [hN]; decide) rfl ?_
            refine n_goto C 18 dL_isWorker_188 (by decide) ?_
            refine n_keep (lv' := [(8, iv ((p : Int) + 1)), (7, iv un), (6, iv e), (5, iv yy), (4, iv z), (0, .ref x), (1, .ref aq), (2, .ref ac), (3, iv a)]) [8, 7, 6, 5, 4, 0, 1, 2, 3] rfl ?_
            exact n_widen (k' := 3 * (p + 1)) (n' := 18 * (p + 1)) (by omega) (by omega) (ih (p + 1) j σ hJ z yy e un (by rw [e1]; exact WI_miss hin b hW hq6 hpe h7) (by omega) (by omega))
        · have h11 : c 11 q = 0 := by omega
          refine n_aload_n C dL_isWorker_55 rfl ?_
          refine n_iload C dL_isWorker_56 rfl ?_
          refine n_ialdv C (qv c q) hq (by omega) (by omega) (by omega) (by rw [Int.toNat_natCast]; exact hqI q (by omega)) dL_isWorker_58 ?_
          refine n_bipush (x := 31) C dL_isWorker_59 (by decide) ?_
          refine n_iand C dL_isWorker_61 (z_a31 (by omega)) ?_
          refine n_iload C dL_isWorker_62 rfl ?_
          refine n_icmp_ne C 185 dL_isWorker_64 (by decide) (by unfold rg; omega) (by unfold rg; omega) (fun b64 => ?_) (fun b64 => ?_)
          · refine n_iinc (lv' := [(8, iv ((p : Int) + 1)), (10, iv (b : Int)), (9, iv (q : Int)), (7, iv un), (6, iv e), (5, iv yy), (4, iv z), (0, .ref x), (1, .ref aq), (2, .ref ac), (3, iv a)]) C dL_isWorker_185 rfl (by rw [hN]; decide) rfl ?_
            refine n_goto C 18 dL_isWorker_188 (by decide) ?_
            refine n_keep (lv' := [(8, iv ((p : Int) + 1)), (7, iv un), (6, iv e), (5, iv yy), (4, iv z), (0, .ref x), (1, .ref aq), (2, .ref ac), (3, iv a)]) [8, 7, 6, 5, 4, 0, 1, 2, 3] rfl ?_
            exact n_widen (k' := 3 * (p + 1)) (n' := 18 * (p + 1)) (by omega) (by omega) (ih (p + 1) j σ hJ z yy e un (by rw [e1]; exact WI_miss hin b hW hq6 hpe (by omega)) (by omega) (by omega))
          · have h7 : c 7 q = (b : Int) := by omega
            refine n_aload_n C dL_isWorker_67 rfl ?_
            refine n_iload C dL_isWorker_68 rfl ?_
            obtain ⟨fo, hfo⟩ := hJ.obj
            refine n_invV C (s_takes hst (by unfold rg; omega) hJ ((cdIs_q (k := q) (by omega)).1 h11)) ⟨t4_17, t4_20, t1_1, ⟨by decide, by decide⟩, by show _ = some 1; decide +kernel, by decide⟩ t4_18 t4_19 hfo vC5 (by decide) (by omega) (by omega) (Nat.le_of_ble_eq_true rfl) rfl dL_isWorker_70 (fun r σ h' => ?_) (fun _ _ h => h.elim)
            obtain ⟨rfl, hJ⟩ := h'
            obtain ⟨hdis, -, ⟨fm, hmI, hm⟩, ⟨fq, hqI, hq⟩, ⟨fc, hcI, hc⟩, fz, hzI, hz⟩ := id hJ
            rw [hvt q]
            refine n_if_le C 185 dL_isWorker_73 (by decide) (by unfold rg; omega) (fun b73 => ?_) (fun b73 => ?_)
            · refine n_iinc (lv' := [(8, iv ((p : Int) + 1)), (10, iv (b : Int)), (9, iv (q : Int)), (7, iv un), (6, iv e), (5, iv yy), (4, iv z), (0, .ref x), (1, .ref aq), (2, .ref ac), (3, iv a)]) C dL_isWorker_185 rfl (by rw [hN]; decide) rfl ?_
              refine n_goto C 18 dL_isWorker_188 (by decide) ?_
              refine n_keep (lv' := [(8, iv ((p : Int) + 1)), (7, iv un), (6, iv e), (5, iv yy), (4, iv z), (0, .ref x), (1, .ref aq), (2, .ref ac), (3, iv a)]) [8, 7, 6, 5, 4, 0, 1, 2, 3] rfl ?_
              have hno : ¬ ofP c (bB c L) (eE c L) q a := fun t => by have := hfq.mp t; omega
              exact n_widen (k' := 3 * (p + 1)) (n' := 18 * (p + 1)) (by omega) (by omega) (ih (p + 1) (j + 1) σ hJ z yy e un (by rw [e1]; exact WI_skip hn6 (by omega) hs hsur hin b hW hq6 hpe h7 hno) (by omega) (by omega))
            · have hwr := wOf_rg hw q
              refine n_aload_n C dL_isWorker_76 rfl ?_
              refine n_iload C dL_isWorker_77 rfl ?_
              obtain ⟨fo, hfo⟩ := hJ.obj
              refine n_invV C (s_worker hst (by unfold rg; omega) hJ ((cdIs_q (k := q) (by omega)).1 h11)) ⟨t4_45, t4_48, t1_1, ⟨by decide, by decide⟩, by show _ = some 1; decide +kernel, by decide⟩ t4_46 t4_47 hfo vC5 (by decide) (by omega) (by omega) (Nat.le_of_ble_eq_true rfl) rfl dL_isWorker_79 (fun r σ h' => ?_) (fun _ _ h => h.elim)
              obtain ⟨rfl, hJ⟩ := h'
              obtain ⟨hdis, -, ⟨fm, hmI, hm⟩, ⟨fq, hqI, hq⟩, ⟨fc, hcI, hc⟩, fz, hzI, hz⟩ := id hJ
              rw [hvw q]
              refine n_iload_n C dL_isWorker_82 rfl ?_
              refine n_icmp_ne C 185 dL_isWorker_83 (by decide) (by unfold rg; omega) (by unfold rg; omega) (fun b83 => ?_) (fun b83 => ?_)
              · refine n_iinc (lv' := [(8, iv ((p : Int) + 1)), (10, iv (b : Int)), (9, iv (q : Int)), (7, iv un), (6, iv e), (5, iv yy), (4, iv z), (0, .ref x), (1, .ref aq), (2, .ref ac), (3, iv a)]) C dL_isWorker_185 rfl (by rw [hN]; decide) rfl ?_
                refine n_goto C 18 dL_isWorker_188 (by decide) ?_
                refine n_keep (lv' := [(8, iv ((p : Int) + 1)), (7, iv un), (6, iv e), (5, iv yy), (4, iv z), (0, .ref x), (1, .ref aq), (2, .ref ac), (3, iv a)]) [8, 7, 6, 5, 4, 0, 1, 2, 3] rfl ?_
                have hno : ¬ ofP c (bB c L) (eE c L) q a := fun t => by have := hfq.mp t; omega
                exact n_widen (k' := 3 * (p + 1)) (n' := 18 * (p + 1)) (by omega) (by omega) (ih (p + 1) (j + 1) σ hJ z yy e un (by rw [e1]; exact WI_skip hn6 (by omega) hs hsur hin b hW hq6 hpe h7 hno) (by omega) (by omega))
              · have ho : ofP c (bB c L) (eE c L) q a := hfq.mpr ⟨by omega, by omega⟩
                have hbb : bB c L q = ((b * L : Nat) : Int) := by rw [hBd, h7, ← Int.natCast_mul]
                have hee : ((b * L : Nat) : Int) + cnt c L q NN = eE c L q := by rw [heE, h7, ← Int.natCast_mul]
                have hWn := WI_hit hw hn6 (by omega) hK hE hs hsur hin b hW hq6 hpe h7 ho
                have hEq := hE q hq6
                obtain ⟨-, -, -, hsw, -⟩ := id hW
                have hu0 : c 16 0 ≤ un := hsw.1
                refine n_iload C dL_isWorker_86 rfl ?_
                refine n_aload_n C dL_isWorker_88 rfl ?_
                refine n_invS C (l_length hst hw hc hcI) ⟨t3_235, t3_237, t1_0, ⟨by decide, by decide⟩, by show _ = some 1; decide +kernel, by decide⟩ t3_236 (by decide) (by omega) (by omega) (Nat.le_of_ble_eq_true rfl) rfl dL_isWorker_89 (fun r σ' h' => ?_) (fun _ _ h => h.elim)
                obtain ⟨rfl, hσ⟩ := h'
                rw [hσ, hL]
                refine n_imul C dL_isWorker_92 ?_
                rw [← Int.natCast_mul]
                refine n_istore (lv' := [(11, iv ((b * L : Nat) : Int)), (10, iv (b : Int)), (9, iv (q : Int)), (8, iv (p : Int)), (7, iv un), (6, iv e), (5, iv yy), (4, iv z), (0, .ref x), (1, .ref aq), (2, .ref ac), (3, iv a)]) C dL_isWorker_93 (by rw [hN]; decide) rfl ?_
                have J121 : ∀ z' : Int, z' = z + (if 0 ≤ e ∧ bB c L q < e + c 15 0 then 1 else 0) → N Φ (3 * p + 2) (18 * p + 12) σ 121 [(4, iv (z')), (11, iv ((b * L : Nat) : Int)), (10, iv (b : Int)), (9, iv (q : Int)), (8, iv (p : Int)), (7, iv un), (6, iv e), (5, iv yy), (0, .ref x), (1, .ref aq), (2, .ref ac), (3, iv a)] [] := by
                  intro z' hz'
                  refine n_iload C dL_isWorker_121 rfl ?_
                  refine n_aload_n C dL_isWorker_123 rfl ?_
                  refine n_iload C dL_isWorker_124 rfl ?_
                  obtain ⟨fo, hfo⟩ := hJ.obj
                  refine n_invV C (s_takes hst (by unfold rg; omega) hJ ((cdIs_q (k := q) (by omega)).1 h11)) ⟨t4_17, t4_20, t1_1, ⟨by decide, by decide⟩, by show _ = some 1; decide +kernel, by decide⟩ t4_18 t4_19 hfo vC5 (by decide) (by omega) (by omega) (Nat.le_of_ble_eq_true rfl) rfl dL_isWorker_126 (fun r σ h' => ?_) (fun _ _ h => h.elim)
                  obtain ⟨rfl, hJ⟩ := h'
                  obtain ⟨hdis, -, ⟨fm, hmI, hm⟩, ⟨fq, hqI, hq⟩, ⟨fc, hcI, hc⟩, fz, hzI, hz⟩ := id hJ
                  rw [hvt q]
                  refine n_iadd C dL_isWorker_129 ?_
                  rw [hee]
                  refine n_istore (lv' := [(6, iv (eE c L q)), (4, iv (z')), (11, iv ((b * L : Nat) : Int)), (10, iv (b : Int)), (9, iv (q : Int)), (8, iv (p : Int)), (7, iv un), (5, iv yy), (0, .ref x), (1, .ref aq), (2, .ref ac), (3, iv a)]) C dL_isWorker_130 (by rw [hN]; decide) rfl ?_
                  have J148 : ∀ mx : Int, mx = max un (bB c L q) → N Φ (3 * p + 3) (18 * p + 18) σ 148 [(12, iv mx), (6, iv (eE c L q)), (4, iv (z')), (11, iv ((b * L : Nat) : Int)), (10, iv (b : Int)), (9, iv (q : Int)), (8, iv (p : Int)), (7, iv un), (5, iv yy), (0, .ref x), (1, .ref aq), (2, .ref ac), (3, iv a)] [] := by
                    intro mx hmx
                    refine n_iload C dL_isWorker_148 rfl ?_
                    refine n_iload C dL_isWorker_150 rfl ?_
                    refine n_iload C dL_isWorker_152 rfl ?_
                    refine n_icmp_le C 165 dL_isWorker_154 (by decide) (by unfold rg; omega) (by unfold rg; omega) (fun b154 => ?_) (fun b154 => ?_)
                    · refine n_iconst (x := 0) C dL_isWorker_165 ?_
                      refine n_iadd C dL_isWorker_166 ?_
                      refine n_istore (lv' := [(5, iv (yy + 0)), (12, iv mx), (6, iv (eE c L q)), (4, iv (z')), (11, iv ((b * L : Nat) : Int)), (10, iv (b : Int)), (9, iv (q : Int)), (8, iv (p : Int)), (7, iv un), (0, .ref x), (1, .ref aq), (2, .ref ac), (3, iv a)]) C dL_isWorker_167 (by rw [hN]; decide) rfl ?_
                      refine n_iload C dL_isWorker_169 rfl ?_
                      refine n_iload C dL_isWorker_171 rfl ?_
                      refine n_icmp_le C 181 dL_isWorker_173 (by decide) (by unfold rg; omega) (by unfold rg; omega) (fun b173 => ?_) (fun b173 => ?_)
                      · refine n_iload C dL_isWorker_181 rfl ?_
                        refine n_istore (lv' := [(7, iv un), (5, iv (yy + 0)), (12, iv mx), (6, iv (eE c L q)), (4, iv (z')), (11, iv ((b * L : Nat) : Int)), (10, iv (b : Int)), (9, iv (q : Int)), (8, iv (p : Int)), (0, .ref x), (1, .ref aq), (2, .ref ac), (3, iv a)]) C dL_isWorker_183 (by rw [hN]; decide) rfl ?_
                        refine n_iinc (lv' := [(8, iv ((p : Int) + 1)), (7, iv un), (5, iv (yy + 0)), (12, iv mx), (6, iv (eE c L q)), (4, iv (z')), (11, iv ((b * L : Nat) : Int)), (10, iv (b : Int)), (9, iv (q : Int)), (0, .ref x), (1, .ref aq), (2, .ref ac), (3, iv a)]) C dL_isWorker_185 rfl (by rw [hN]; decide) rfl ?_
                        refine n_goto C 18 dL_isWorker_188 (by decide) ?_
                        refine n_keep (lv' := [(8, iv ((p : Int) + 1)), (7, iv un), (6, iv (eE c L q)), (5, iv (yy + 0)), (4, iv (z')), (0, .ref x), (1, .ref aq), (2, .ref ac), (3, iv a)]) [8, 7, 6, 5, 4, 0, 1, 2, 3] rfl ?_
                        have ey : (yy + 0) = yy + max 0 (eE c L q - max un (bB c L q)) := by omega
                        have eu : un = max un (eE c L q) := by omega
                        exact n_widen (k' := 3 * (p + 1)) (n' := 18 * (p + 1)) (by omega) (by omega) (ih (p + 1) (j + 1) σ hJ z' _ (eE c L q) _ (WI_cast hWn e1 hz' ey eu) (by omega) (by omega))
                      · refine n_iload C dL_isWorker_176 rfl ?_
                        refine n_goto C 183 dL_isWorker_178 (by decide) ?_
                        refine n_istore (lv' := [(7, iv (eE c L q)), (5, iv (yy + 0)), (12, iv mx), (6, iv (eE c L q)), (4, iv (z')), (11, iv ((b * L : Nat) : Int)), (10, iv (b : Int)), (9, iv (q : Int)), (8, iv (p : Int)), (0, .ref x), (1, .ref aq), (2, .ref ac), (3, iv a)]) C dL_isWorker_183 (by rw [hN]; decide) rfl ?_
                        refine n_iinc (lv' := [(8, iv ((p : Int) + 1)), (7, iv (eE c L q)), (5, iv (yy + 0)), (12, iv mx), (6, iv (eE c L q)), (4, iv (z')), (11, iv ((b * L : Nat) : Int)), (10, iv (b : Int)), (9, iv (q : Int)), (0, .ref x), (1, .ref aq), (2, .ref ac), (3, iv a)]) C dL_isWorker_185 rfl (by rw [hN]; decide) rfl ?_
                        refine n_goto C 18 dL_isWorker_188 (by decide) ?_
                        refine n_keep (lv' := [(8, iv ((p : Int) + 1)), (7, iv (eE c L q)), (6, iv (eE c L q)), (5, iv (yy + 0)), (4, iv (z')), (0, .ref x), (1, .ref aq), (2, .ref ac), (3, iv a)]) [8, 7, 6, 5, 4, 0, 1, 2, 3] rfl ?_
                        have ey : (yy + 0) = yy + max 0 (eE c L q - max un (bB c L q)) := by omega
                        have eu : (eE c L q) = max un (eE c L q) := by omega
                        exact n_widen (k' := 3 * (p + 1)) (n' := 18 * (p + 1)) (by omega) (by omega) (ih (p + 1) (j + 1) σ hJ z' _ (eE c L q) _ (WI_cast hWn e1 hz' ey eu) (by omega) (by omega))
                    · refine n_iload C dL_isWorker_157 rfl ?_
                      refine n_iload C dL_isWorker_159 rfl ?_
                      refine n_isub C dL_isWorker_161 ?_
                      refine n_goto C 166 dL_isWorker_162 (by decide) ?_
                      refine n_iadd C dL_isWorker_166 ?_
                      refine n_istore (lv' := [(5, iv (yy + ((eE c L q) - mx))), (12, iv mx), (6, iv (eE c L q)), (4, iv (z')), (11, iv ((b * L : Nat) : Int)), (10, iv (b : Int)), (9, iv (q : Int)), (8, iv (p : Int)), (7, iv un), (0, .ref x), (1, .ref aq), (2, .ref ac), (3, iv a)]) C dL_isWorker_167 (by rw [hN]; decide) rfl ?_
                      refine n_iload C dL_isWorker_169 rfl ?_
                      refine n_iload C dL_isWorker_171 rfl ?_
                      refine n_icmp_le C 181 dL_isWorker_173 (by decide) (by unfold rg; omega) (by unfold rg; omega) (fun b173 => ?_) (fun b173 => ?_)
                      · refine n_iload C dL_isWorker_181 rfl ?_
                        refine n_istore (lv' := [(7, iv un), (5, iv (yy + ((eE c L q) - mx))), (12, iv mx), (6, iv (eE c L q)), (4, iv (z')), (11, iv ((b * L : Nat) : Int)), (10, iv (b : Int)), (9, iv (q : Int)), (8, iv (p : Int)), (0, .ref x), (1, .ref aq), (2, .ref ac), (3, iv a)]) C dL_isWorker_183 (by rw [hN]; decide) rfl ?_
                        refine n_iinc (lv' := [(8, iv ((p : Int) + 1)), (7, iv un), (5, iv (yy + ((eE c L q) - mx))), (12, iv mx), (6, iv (eE c L q)), (4, iv (z')), (11, iv ((b * L : Nat) : Int)), (10, iv (b : Int)), (9, iv (q : Int)), (0, .ref x), (1, .ref aq), (2, .ref ac), (3, iv a)]) C dL_isWorker_185 rfl (by rw [hN]; decide) rfl ?_
                        refine n_goto C 18 dL_isWorker_188 (by decide) ?_
                        refine n_keep (lv' := [(8, iv ((p : Int) + 1)), (7, iv un), (6, iv (eE c L q)), (5, iv (yy + ((eE c L q) - mx))), (4, iv (z')), (0, .ref x), (1, .ref aq), (2, .ref ac), (3, iv a)]) [8, 7, 6, 5, 4, 0, 1, 2, 3] rfl ?_
                        have ey : (yy + ((eE c L q) - mx)) = yy + max 0 (eE c L q - max un (bB c L q)) := by omega
                        have eu : un = max un (eE c L q) := by omega
                        exact n_widen (k' := 3 * (p + 1)) (n' := 18 * (p + 1)) (by omega) (by omega) (ih (p + 1) (j + 1) σ hJ z' _ (eE c L q) _ (WI_cast hWn e1 hz' ey eu) (by omega) (by omega))
                      · refine n_iload C dL_isWorker_176 rfl ?_
                        refine n_goto C 183 dL_isWorker_178 (by decide) ?_
                        refine n_istore (lv' := [(7, iv (eE c L q)), (5, iv (yy + ((eE c L q) - mx))), (12, iv mx), (6, iv (eE c L q)), (4, iv (z')), (11, iv ((b * L : Nat) : Int)), (10, iv (b : Int)), (9, iv (q : Int)), (8, iv (p : Int)), (0, .ref x), (1, .ref aq), (2, .ref ac), (3, iv a)]) C dL_isWorker_183 (by rw [hN]; decide) rfl ?_
                        refine n_iinc (lv' := [(8, iv ((p : Int) + 1)), (7, iv (eE c L q)), (5, iv (yy + ((eE c L q) - mx))), (12, iv mx), (6, iv (eE c L q)), (4, iv (z')), (11, iv ((b * L : Nat) : Int)), (10, iv (b : Int)), (9, iv (q : Int)), (0, .ref x), (1, .ref aq), (2, .ref ac), (3, iv a)]) C dL_isWorker_185 rfl (by rw [hN]; decide) rfl ?_
                        refine n_goto C 18 dL_isWorker_188 (by decide) ?_
                        refine n_keep (lv' := [(8, iv ((p : Int) + 1)), (7, iv (eE c L q)), (6, iv (eE c L q)), (5, iv (yy + ((eE c L q) - mx))), (4, iv (z')), (0, .ref x), (1, .ref aq), (2, .ref ac), (3, iv a)]) [8, 7, 6, 5, 4, 0, 1, 2, 3] rfl ?_
                        have ey : (yy + ((eE c L q) - mx)) = yy + max 0 (eE c L q - max un (bB c L q)) := by omega
                        have eu : (eE c L q) = max un (eE c L q) := by omega
                        exact n_widen (k' := 3 * (p + 1)) (n' := 18 * (p + 1)) (by omega) (by omega) (ih (p + 1) (j + 1) σ hJ z' _ (eE c L q) _ (WI_cast hWn e1 hz' ey eu) (by omega) (by omega))
                  refine n_iload C dL_isWorker_132 rfl ?_
                  refine n_iload C dL_isWorker_134 rfl ?_
                  refine n_icmp_le C 144 dL_isWorker_136 (by decide) (by unfold rg; omega) (by unfold rg; omega) (fun b136 => ?_) (fun b136 => ?_)
                  · refine n_iload C dL_isWorker_144 rfl ?_
                    refine n_istore (lv' := [(12, iv un), (6, iv (eE c L q)), (4, iv (z')), (11, iv ((b * L : Nat) : Int)), (10, iv (b : Int)), (9, iv (q : Int)), (8, iv (p : Int)), (7, iv un), (5, iv yy), (0, .ref x), (1, .ref aq), (2, .ref ac), (3, iv a)]) C dL_isWorker_146 (by rw [hN]; decide) rfl ?_
                    refine n_keep (lv' := [(12, iv un), (6, iv (eE c L q)), (4, iv (z')), (11, iv ((b * L : Nat) : Int)), (10, iv (b : Int)), (9, iv (q : Int)), (8, iv (p : Int)), (7, iv un), (5, iv yy), (0, .ref x), (1, .ref aq), (2, .ref ac), (3, iv a)]) [12, 6, 4, 11, 10, 9, 8, 7, 5, 0, 1, 2, 3] rfl ?_
                    exact J148 _ (by omega)
                  · refine n_iload C dL_isWorker_139 rfl ?_
                    refine n_goto C 146 dL_isWorker_141 (by decide) ?_
                    refine n_istore (lv' := [(12, iv ((b * L : Nat) : Int)), (6, iv (eE c L q)), (4, iv (z')), (11, iv ((b * L : Nat) : Int)), (10, iv (b : Int)), (9, iv (q : Int)), (8, iv (p : Int)), (7, iv un), (5, iv yy), (0, .ref x), (1, .ref aq), (2, .ref ac), (3, iv a)]) C dL_isWorker_146 (by rw [hN]; decide) rfl ?_
                    refine n_keep (lv' := [(12, iv ((b * L : Nat) : Int)), (6, iv (eE c L q)), (4, iv (z')), (11, iv ((b * L : Nat) : Int)), (10, iv (b : Int)), (9, iv (q : Int)), (8, iv (p : Int)), (7, iv un), (5, iv yy), (0, .ref x), (1, .ref aq), (2, .ref ac), (3, iv a)]) [12, 6, 4, 11, 10, 9, 8, 7, 5, 0, 1, 2, 3] rfl ?_
                    exact J148 _ (by omega)
                refine n_iload C dL_isWorker_95 rfl ?_
                refine n_iload C dL_isWorker_97 rfl ?_
                refine n_if_lt C 117 dL_isWorker_99 (by decide) (by unfold rg; omega) (fun b99 => ?_) (fun b99 => ?_)
                · refine n_iconst (x := 0) C dL_isWorker_117 ?_
                  refine n_iadd C dL_isWorker_118 ?_
                  refine n_istore (lv' := [(4, iv (z + 0)), (11, iv ((b * L : Nat) : Int)), (10, iv (b : Int)), (9, iv (q : Int)), (8, iv (p : Int)), (7, iv un), (6, iv e), (5, iv yy), (0, .ref x), (1, .ref aq), (2, .ref ac), (3, iv a)]) C dL_isWorker_119 (by rw [hN]; decide) rfl ?_
                  refine n_keep (lv' := [(4, iv (z + 0)), (11, iv ((b * L : Nat) : Int)), (10, iv (b : Int)), (9, iv (q : Int)), (8, iv (p : Int)), (7, iv un), (6, iv e), (5, iv yy), (0, .ref x), (1, .ref aq), (2, .ref ac), (3, iv a)]) [4, 11, 10, 9, 8, 7, 6, 5, 0, 1, 2, 3] rfl ?_
                  exact J121 _ (by rw [if_neg (by omega)])
                · refine n_iload C dL_isWorker_102 rfl ?_
                  refine n_iload C dL_isWorker_104 rfl ?_
                  refine n_aload_n C dL_isWorker_106 rfl ?_
                  refine n_iconst (x := 5) C dL_isWorker_107 ?_
                  refine n_ialdv C (c 15 0) hc (by omega) (by omega) (by omega) hcI.2.2.2.2.2.1 dL_isWorker_108 ?_
                  refine n_iadd C dL_isWorker_109 ?_
                  refine n_icmp_ge C 117 dL_isWorker_110 (by decide) (by unfold rg; omega) (by unfold rg; omega) (fun b110 => ?_) (fun b110 => ?_)
                  · refine n_iconst (x := 0) C dL_isWorker_117 ?_
                    refine n_iadd C dL_isWorker_118 ?_
                    refine n_istore (lv' := [(4, iv (z + 0)), (11, iv ((b * L : Nat) : Int)), (10, iv (b : Int)), (9, iv (q : Int)), (8, iv (p : Int)), (7, iv un), (6, iv e), (5, iv yy), (0, .ref x), (1, .ref aq), (2, .ref ac), (3, iv a)]) C dL_isWorker_119 (by rw [hN]; decide) rfl ?_
                    refine n_keep (lv' := [(4, iv (z + 0)), (11, iv ((b * L : Nat) : Int)), (10, iv (b : Int)), (9, iv (q : Int)), (8, iv (p : Int)), (7, iv un), (6, iv e), (5, iv yy), (0, .ref x), (1, .ref aq), (2, .ref ac), (3, iv a)]) [4, 11, 10, 9, 8, 7, 6, 5, 0, 1, 2, 3] rfl ?_
                    exact J121 _ (by rw [if_neg (by omega)])
                  · refine n_iconst (x := 1) C dL_isWorker_113 ?_
                    refine n_goto C 118 dL_isWorker_114 (by decide) ?_
                    refine n_iadd C dL_isWorker_118 ?_
                    refine n_istore (lv' := [(4, iv (z + 1)), (11, iv ((b * L : Nat) : Int)), (10, iv (b : Int)), (9, iv (q : Int)), (8, iv (p : Int)), (7, iv un), (6, iv e), (5, iv yy), (0, .ref x), (1, .ref aq), (2, .ref ac), (3, iv a)]) C dL_isWorker_119 (by rw [hN]; decide) rfl ?_
                    refine n_keep (lv' := [(4, iv (z + 1)), (11, iv ((b * L : Nat) : Int)), (10, iv (b : Int)), (9, iv (q : Int)), (8, iv (p : Int)), (7, iv un), (6, iv e), (5, iv yy), (0, .ref x), (1, .ref aq), (2, .ref ac), (3, iv a)]) [4, 11, 10, 9, 8, 7, 6, 5, 0, 1, 2, 3] rfl ?_
                    exact J121 _ (by rw [if_pos (by omega)])
  refine n_keep (lv' := [(8, iv 0), (7, iv (c 16 0)), (6, iv (-1)), (5, iv 0), (4, iv 0), (0, .ref x), (1, .ref aq), (2, .ref ac), (3, iv a)]) [8, 7, 6, 5, 4, 0, 1, 2, 3] rfl ?_
  exact LP 721 0 0 σ hJ 0 0 (-1) (c 16 0) (WI_0 hw) (by omega) (by omega)
