section RS3
theorem r_ialdv {g : Gx} {Φ : Fx} {cc : ByteArray} {own : String} {ret : Option FieldType} {d mc ms k n : Nat} {σ β : Wd} {pc : Nat} {lv : List (Nat × Value)} {st : List Value} {o : Nat} {ar : Nat → Nat} {M : Tb} (C : Ok g Φ cc own ret d mc ms) (hM : MW g.2.1 o ar β M σ) (a : Nat) (hA : isA a = true) (hZ : isZ a = false) (j : Nat) {x y : Int} (hj : x = (j : Int)) (hl : j < aLen a) (hv : M a j = y) (hd : decode cc pc = .ok (.iaload, 1)) (K : N Φ k n σ (pc + 1) lv (iv y :: st)) : N Φ k n σ pc lv (iv x :: .ref (ar a) :: st) := by
  rw [← hv] at K
  exact r_iald C hM a hA hZ j hj hl hd K
theorem r_zaldv {g : Gx} {Φ : Fx} {cc : ByteArray} {own : String} {ret : Option FieldType} {d mc ms k n : Nat} {σ β : Wd} {pc : Nat} {lv : List (Nat × Value)} {st : List Value} {o : Nat} {ar : Nat → Nat} {M : Tb} (C : Ok g Φ cc own ret d mc ms) (hM : MW g.2.1 o ar β M σ) (a : Nat) (hA : isA a = true) (hZ : isZ a = true) (j : Nat) {x y : Int} (hj : x = (j : Int)) (hl : j < aLen a) (hv : M a j = y) (hd : decode cc pc = .ok (.baload, 1)) (K : N Φ k n σ (pc + 1) lv (iv y :: st)) : N Φ k n σ pc lv (iv x :: .ref (ar a) :: st) := by
  rw [← hv] at K
  exact r_zald C hM a hA hZ j hj hl hd K
/-- codes: 0 where the call goes through, else which exception of its throws clause; values; what the table becomes -/
def cdWagon (c : Tb) (t p w s : Int) : Int := if (0 ≤ t ∧ t ≤ 2) ∧ (0 ≤ p ∧ p ≤ 200) ∧ (1 ≤ w ∧ w ≤ 20) ∧ (1 ≤ s ∧ s ≤ 10) then (if c 0 0 = 6 then 2 else 0) else 1
def nxWagon (c : Tb) (t p w s : Int) : Tb := tu (tu (tu (tu (tu c 2 (c 0 0).toNat t) 3 (c 0 0).toNat w) 4 (c 0 0).toNat s) 5 (c 0 0).toNat p) 0 0 (c 0 0 + 1)
def cdTable (c : Tb) (a s : Int) : Int := if (0 ≤ a ∧ a ≤ 359) ∧ (1 ≤ s ∧ s ≤ 10) then (if c 0 0 = 6 then 2 else 0) else 1
def nxTable (c : Tb) (a s : Int) : Tb := tu (tu (tu (tu c 1 (c 0 0).toNat 1) 4 (c 0 0).toNat s) 5 (c 0 0).toNat a) 0 0 (c 0 0 + 1)
def fitB (c : Tb) (b : Int) : Nat → Bool
  | 0 => true
  | k + 1 => fitB c b k && (decide (c 11 k ≠ 0) || decide (c 7 k < b))
def cdScore (c : Tb) (b t : Int) : Int := if (1 ≤ b ∧ b ≤ 30) ∧ (1 ≤ t ∧ t ≤ 40) then (if fitB c b (c 6 0).toNat = true then 0 else 2) else 1
def nxScore (c : Tb) (b t : Int) : Tb := tu (tu c 12 0 b) 13 0 t
def cdCue (c : Tb) (a b t w : Int) : Int := if 0 ≤ a ∧ a < c 0 0 then (if (0 ≤ b ∧ b ≤ c 12 0 - 1) ∧ (0 ≤ t ∧ t ≤ (if c 1 a.toNat = 0 then 200 else 359)) ∧ (0 ≤ w ∧ w ≤ 5) then (if c 6 0 = 24 then 3 else 0) else 2) else 1
def nxCue (c : Tb) (a b t w : Int) : Tb := tu (tu (tu (tu (tu c 8 (c 6 0).toNat a) 7 (c 6 0).toNat b) 9 (c 6 0).toNat t) 10 (c 6 0).toNat w) 6 0 (c 6 0 + 1)
def cdIs (c : Tb) (q : Int) : Int := if 0 ≤ q ∧ q < c 6 0 ∧ c 11 q.toNat = 0 then 0 else 1
def nxOut (c : Tb) (q : Int) : Tb := tu c 11 q.toNat 1
def cdTempo (T : Int) : Int := if 50 ≤ T ∧ T ≤ 200 then 0 else 1
def nxTempo (c : Tb) (T : Int) : Tb := tu c 14 0 T
def cdRules (r l : Int) : Int := if (0 ≤ r ∧ r ≤ 100) ∧ (0 ≤ l ∧ l ≤ 2400) then 0 else 1
def nxRules (c : Tb) (r l : Int) : Tb := tu (tu c 15 0 r) 16 0 l
def cdWork (w : Int) : Int := if 0 ≤ w ∧ w ≤ 5 then 0 else 1
def nxStrike (c : Tb) (w s : Int) : Tb := tu c 17 w.toNat s
def cdSub (w s : Int) : Int := if (0 ≤ w ∧ w ≤ 5) ∧ (-1 ≤ s ∧ s ≤ 5) then 0 else 1
def nxSub (c : Tb) (w s : Int) : Tb := tu c 18 w.toNat s
end RS3
set_option maxRecDepth 100000 in
set_option maxHeartbeats 4000000 in
theorem c_rwagon {g : Gx} (hst : g.1.stackTraces = false) {t : Int} (hrt : rg t) {p : Int} (hrp : rg p) {z : Int} (hrz : rg z) {v : Int} (hrv : rg v) {o : Nat} {ar : Nat → Nat} {β : Wd} {M c : Tb} (I : RI o ar) {σ : Wd} (hM : MW g.2.1 o ar β M σ) (hc : cut M = c) (hw : WF c) : CT g yX3_wagon cX3_wagon 6 (some .int) 1 0 0 [.ref o, iv t, iv p, iv z, iv v] σ (fun r σ' => ∃ (x : Int) (M' : Tb), r = some (iv x) ∧ MW g.2.1 o ar β M' σ' ∧ M' 26 0 = cdWagon c t p z v ∧ (cdWagon c t p z v = 0 → x = c 0 0 ∧ cut M' = nxWagon c t p z v) ∧ (cdWagon c t p z v ≠ 0 → cut M' = c)) (fun _ _ => False) := by
  refine CT.of hst (by decide +kernel) (Nat.le_of_ble_eq_true rfl) (fun Φ C Rr hY hN => ?_)
  show N Φ 0 0 σ 0 [(0, .ref o), (1, iv t), (2, iv p), (3, iv z), (4, iv v)] []
  unfold rg at hrt hrp hrz hrv
  obtain ⟨w0, w6, w12, w13, w14, w15, w16, wm, wq, ww⟩ := id hw
  refine n_iload_n C dX3_wagon_0 rfl ?_
  refine n_iconst (x := 0) C dX3_wagon_1 ?_
  refine n_iconst (x := 2) C dX3_wagon_2 ?_
  refine n_invS C (c_isIn hst (by unfold rg; omega) (by unfold rg; omega) (by unfold rg; omega)) ⟨w4_218, w4_220, w1_5, ⟨by decide, by decide⟩, by show _ = some 3; decide +kernel, by decide⟩ w4_219 (by decide) (by omega) (by omega) (Nat.le_of_ble_eq_true rfl) rfl dX3_wagon_3 (fun r σ' h => ?_) (fun _ _ h => h.elim)
  obtain ⟨x0, rfl, rfl, hx0⟩ := h
  refine n_if_eq C 45 dX3_wagon_6 (by decide) (by unfold rg; omega) (fun b6 => ?_) (fun b6 => ?_)
  · refine n_iconst (x := 0) C dX3_wagon_45 ?_
    refine n_istore (lv' := [(5, iv 0), (0, .ref o), (1, iv t), (2, iv p), (3, iv z), (4, iv v)]) C dX3_wagon_46 (by rw [hN]; decide) rfl ?_
    refine n_aload_n C dX3_wagon_48 rfl ?_
    refine n_iload C dX3_wagon_49 rfl ?_
    refine n_if_ne C 58 dX3_wagon_51 (by decide) (by unfold rg; omega) (fun b51 => ?_) (fun b51 => ?_)
    · exfalso; omega
    · refine n_iconst (x := 1) C dX3_wagon_54 ?_
      refine n_goto C 72 dX3_wagon_55 (by decide) ?_
      refine n_invV C (c_can hst (by omega) I hM hc) ⟨w4_221, w4_224, w1_5, ⟨by decide, by decide⟩, by show _ = some 1; decide +kernel, by decide⟩ w4_223 wp_24 hM.1 (show vwCl[6]? = some ("OperaMachinesModel", TX3, 27) from rfl) (by decide) (by omega) (by omega) (Nat.le_of_ble_eq_true rfl) rfl dX3_wagon_72 (fun r σ h => ?_) (fun _ _ h => h.elim)
      obtain ⟨xc, M1, rfl, hM, hc, h26, hxc⟩ := h
      refine n_if_ne C 80 dX3_wagon_75 (by decide) (by unfold rg; omega) (fun b75 => ?_) (fun b75 => ?_)
      · exfalso; omega
      · have hcd : cdWagon c t p z v = 1 := by unfold cdWagon; rw [if_neg (by omega)]
        refine n_iconst (x := 0) C dX3_wagon_78 ?_
        exact n_ireturn C Rr rfl ⟨_, _, rfl, hM, h26.trans hcd.symm, fun q => absurd (hcd.symm.trans q) (by decide), fun _ => hc⟩ (by omega) (by omega) dX3_wagon_79
  · refine n_iload_n C dX3_wagon_9 rfl ?_
    refine n_iconst (x := 0) C dX3_wagon_10 ?_
    refine n_sipush (x := 200) C dX3_wagon_11 (by decide) ?_
    refine n_invS C (c_isIn hst (by unfold rg; omega) (by unfold rg; omega) (by unfold rg; omega)) ⟨w4_218, w4_220, w1_5, ⟨by decide, by decide⟩, by show _ = some 3; decide +kernel, by decide⟩ w4_219 (by decide) (by omega) (by omega) (Nat.le_of_ble_eq_true rfl) rfl dX3_wagon_14 (fun r σ' h => ?_) (fun _ _ h => h.elim)
    obtain ⟨x9, rfl, rfl, hx9⟩ := h
    refine n_if_eq C 45 dX3_wagon_17 (by decide) (by unfold rg; omega) (fun b17 => ?_) (fun b17 => ?_)
    · refine n_iconst (x := 0) C dX3_wagon_45 ?_
      refine n_istore (lv' := [(5, iv 0), (0, .ref o), (1, iv t), (2, iv p), (3, iv z), (4, iv v)]) C dX3_wagon_46 (by rw [hN]; decide) rfl ?_
      refine n_aload_n C dX3_wagon_48 rfl ?_
      refine n_iload C dX3_wagon_49 rfl ?_
      refine n_if_ne C 58 dX3_wagon_51 (by decide) (by unfold rg; omega) (fun b51 => ?_) (fun b51 => ?_)
      · exfalso; omega
      · refine n_iconst (x := 1) C dX3_wagon_54 ?_
        refine n_goto C 72 dX3_wagon_55 (by decide) ?_
        refine n_invV C (c_can hst (by omega) I hM hc) ⟨w4_221, w4_224, w1_5, ⟨by decide, by decide⟩, by show _ = some 1; decide +kernel, by decide⟩ w4_223 wp_24 hM.1 (show vwCl[6]? = some ("OperaMachinesModel", TX3, 27) from rfl) (by decide) (by omega) (by omega) (Nat.le_of_ble_eq_true rfl) rfl dX3_wagon_72 (fun r σ h => ?_) (fun _ _ h => h.elim)
        obtain ⟨xc, M1, rfl, hM, hc, h26, hxc⟩ := h
        refine n_if_ne C 80 dX3_wagon_75 (by decide) (by unfold rg; omega) (fun b75 => ?_) (fun b75 => ?_)
        · exfalso; omega
        · have hcd : cdWagon c t p z v = 1 := by unfold cdWagon; rw [if_neg (by omega)]
          refine n_iconst (x := 0) C dX3_wagon_78 ?_
          exact n_ireturn C Rr rfl ⟨_, _, rfl, hM, h26.trans hcd.symm, fun q => absurd (hcd.symm.trans q) (by decide), fun _ => hc⟩ (by omega) (by omega) dX3_wagon_79
    · refine n_iload_n C dX3_wagon_20 rfl ?_
      refine n_iconst (x := 1) C dX3_wagon_21 ?_
      refine n_bipush (x := 20) C dX3_wagon_22 (by decide) ?_
      refine n_invS C (c_isIn hst (by unfold rg; omega) (by unfold rg; omega) (by unfold rg; omega)) ⟨w4_218, w4_220, w1_5, ⟨by decide, by decide⟩, by show _ = some 3; decide +kernel, by decide⟩ w4_219 (by decide) (by omega) (by omega) (Nat.le_of_ble_eq_true rfl) rfl dX3_wagon_24 (fun r σ' h => ?_) (fun _ _ h => h.elim)
      obtain ⟨x20, rfl, rfl, hx20⟩ := h
      refine n_if_eq C 45 dX3_wagon_27 (by decide) (by unfold rg; omega) (fun b27 => ?_) (fun b27 => ?_)
      · refine n_iconst (x := 0) C dX3_wagon_45 ?_
        refine n_istore (lv' := [(5, iv 0), (0, .ref o), (1, iv t), (2, iv p), (3, iv z), (4, iv v)]) C dX3_wagon_46 (by rw [hN]; decide) rfl ?_
        refine n_aload_n C dX3_wagon_48 rfl ?_
        refine n_iload C dX3_wagon_49 rfl ?_
        refine n_if_ne C 58 dX3_wagon_51 (by decide) (by unfold rg; omega) (fun b51 => ?_) (fun b51 => ?_)
        · exfalso; omega
        · refine n_iconst (x := 1) C dX3_wagon_54 ?_
          refine n_goto C 72 dX3_wagon_55 (by decide) ?_
          refine n_invV C (c_can hst (by omega) I hM hc) ⟨w4_221, w4_224, w1_5, ⟨by decide, by decide⟩, by show _ = some 1; decide +kernel, by decide⟩ w4_223 wp_24 hM.1 (show vwCl[6]? = some ("OperaMachinesModel", TX3, 27) from rfl) (by decide) (by omega) (by omega) (Nat.le_of_ble_eq_true rfl) rfl dX3_wagon_72 (fun r σ h => ?_) (fun _ _ h => h.elim)
          obtain ⟨xc, M1, rfl, hM, hc, h26, hxc⟩ := h
          refine n_if_ne C 80 dX3_wagon_75 (by decide) (by unfold rg; omega) (fun b75 => ?_) (fun b75 => ?_)
          · exfalso; omega
          · have hcd : cdWagon c t p z v = 1 := by unfold cdWagon; rw [if_neg (by omega)]
            refine n_iconst (x := 0) C dX3_wagon_78 ?_
            exact n_ireturn C Rr rfl ⟨_, _, rfl, hM, h26.trans hcd.symm, fun q => absurd (hcd.symm.trans q) (by decide), fun _ => hc⟩ (by omega) (by omega) dX3_wagon_79
      · refine n_iload C dX3_wagon_30 rfl ?_
        refine n_iconst (x := 1) C dX3_wagon_32 ?_
        refine n_bipush (x := 10) C dX3_wagon_33 (by decide) ?_
        refine n_invS C (c_isIn hst (by unfold rg; omega) (by unfold rg; omega) (by unfold rg; omega)) ⟨w4_218, w4_220, w1_5, ⟨by decide, by decide⟩, by show _ = some 3; decide +kernel, by decide⟩ w4_219 (by decide) (by omega) (by omega) (Nat.le_of_ble_eq_true rfl) rfl dX3_wagon_35 (fun r σ' h => ?_) (fun _ _ h => h.elim)
        obtain ⟨x30, rfl, rfl, hx30⟩ := h
        refine n_if_eq C 45 dX3_wagon_38 (by decide) (by unfold rg; omega) (fun b38 => ?_) (fun b38 => ?_)
        · refine n_iconst (x := 0) C dX3_wagon_45 ?_
          refine n_istore (lv' := [(5, iv 0), (0, .ref o), (1, iv t), (2, iv p), (3, iv z), (4, iv v)]) C dX3_wagon_46 (by rw [hN]; decide) rfl ?_
          refine n_aload_n C dX3_wagon_48 rfl ?_
          refine n_iload C dX3_wagon_49 rfl ?_
          refine n_if_ne C 58 dX3_wagon_51 (by decide) (by unfold rg; omega) (fun b51 => ?_) (fun b51 => ?_)
          · exfalso; omega
          · refine n_iconst (x := 1) C dX3_wagon_54 ?_
            refine n_goto C 72 dX3_wagon_55 (by decide) ?_
            refine n_invV C (c_can hst (by omega) I hM hc) ⟨w4_221, w4_224, w1_5, ⟨by decide, by decide⟩, by show _ = some 1; decide +kernel, by decide⟩ w4_223 wp_24 hM.1 (show vwCl[6]? = some ("OperaMachinesModel", TX3, 27) from rfl) (by decide) (by omega) (by omega) (Nat.le_of_ble_eq_true rfl) rfl dX3_wagon_72 (fun r σ h => ?_) (fun _ _ h => h.elim)
            obtain ⟨xc, M1, rfl, hM, hc, h26, hxc⟩ := h
            refine n_if_ne C 80 dX3_wagon_75 (by decide) (by unfold rg; omega) (fun b75 => ?_) (fun b75 => ?_)
            · exfalso; omega
            · have hcd : cdWagon c t p z v = 1 := by unfold cdWagon; rw [if_neg (by omega)]
              refine n_iconst (x := 0) C dX3_wagon_78 ?_
              exact n_ireturn C Rr rfl ⟨_, _, rfl, hM, h26.trans hcd.symm, fun q => absurd (hcd.symm.trans q) (by decide), fun _ => hc⟩ (by omega) (by omega) dX3_wagon_79
        · refine n_iconst (x := 1) C dX3_wagon_41 ?_
          refine n_goto C 46 dX3_wagon_42 (by decide) ?_
          refine n_istore (lv' := [(5, iv 1), (0, .ref o), (1, iv t), (2, iv p), (3, iv z), (4, iv v)]) C dX3_wagon_46 (by rw [hN]; decide) rfl ?_
          refine n_aload_n C dX3_wagon_48 rfl ?_
          refine n_iload C dX3_wagon_49 rfl ?_
          refine n_if_ne C 58 dX3_wagon_51 (by decide) (by unfold rg; omega) (fun b51 => ?_) (fun b51 => ?_)
          · refine n_aload_n C dX3_wagon_58 rfl ?_
            refine r_get (v := iv (c 0 0)) C hM 0 (by decide) w4_128 rfl (congrArg (fun z => some (iv z)) (cut_at hc (by decide) 0)) dX3_wagon_59 ?_
            refine n_bipush (x := 6) C dX3_wagon_62 (by decide) ?_
            refine n_icmp_ne C 71 dX3_wagon_64 (by decide) (by unfold rg; omega) (by unfold rg; omega) (fun b64 => ?_) (fun b64 => ?_)
            · refine n_iconst (x := 0) C dX3_wagon_71 ?_
              refine n_invV C (c_can hst (by omega) I hM hc) ⟨w4_221, w4_224, w1_5, ⟨by decide, by decide⟩, by show _ = some 1; decide +kernel, by decide⟩ w4_223 wp_24 hM.1 (show vwCl[6]? = some ("OperaMachinesModel", TX3, 27) from rfl) (by decide) (by omega) (by omega) (Nat.le_of_ble_eq_true rfl) rfl dX3_wagon_72 (fun r σ h => ?_) (fun _ _ h => h.elim)
              obtain ⟨xc, M1, rfl, hM, hc, h26, hxc⟩ := h
              refine n_if_ne C 80 dX3_wagon_75 (by decide) (by unfold rg; omega) (fun b75 => ?_) (fun b75 => ?_)
              · have hcd : cdWagon c t p z v = 0 := by unfold cdWagon; rw [if_pos (by omega), if_neg (by omega)]
                refine n_aload_n C dX3_wagon_80 rfl ?_
                refine r_get C hM 2 (by decide) w4_130 rfl rfl dX3_wagon_81 ?_
                refine n_aload_n C dX3_wagon_84 rfl ?_
                refine r_get (v := iv (c 0 0)) C hM 0 (by decide) w4_128 rfl (congrArg (fun z => some (iv z)) (cut_at hc (by decide) 0)) dX3_wagon_85 ?_
                refine n_iload_n C dX3_wagon_88 rfl ?_
                refine r_iast C I hM 2 rfl rfl (((c 0 0)).toNat) (by omega) (show _ < 6 by omega) dX3_wagon_89 (fun σ hM => ?_)
                refine n_aload_n C dX3_wagon_90 rfl ?_
                refine r_get C hM 3 (by decide) w4_131 rfl rfl dX3_wagon_91 ?_
                refine n_aload_n C dX3_wagon_94 rfl ?_
                refine r_get (v := iv (c 0 0)) C hM 0 (by decide) w4_128 rfl (congrArg (fun z => some (iv z)) (cut_at hc (by decide) 0)) dX3_wagon_95 ?_
                refine n_iload_n C dX3_wagon_98 rfl ?_
                refine r_iast C I hM 3 rfl rfl (((c 0 0)).toNat) (by omega) (show _ < 6 by omega) dX3_wagon_99 (fun σ hM => ?_)
                refine n_aload_n C dX3_wagon_100 rfl ?_
                refine r_get C hM 4 (by decide) w4_132 rfl rfl dX3_wagon_101 ?_
                refine n_aload_n C dX3_wagon_104 rfl ?_
                refine r_get (v := iv (c 0 0)) C hM 0 (by decide) w4_128 rfl (congrArg (fun z => some (iv z)) (cut_at hc (by decide) 0)) dX3_wagon_105 ?_
                refine n_iload C dX3_wagon_108 rfl ?_
                refine r_iast C I hM 4 rfl rfl (((c 0 0)).toNat) (by omega) (show _ < 6 by omega) dX3_wagon_110 (fun σ hM => ?_)
                refine n_aload_n C dX3_wagon_111 rfl ?_
                refine r_get C hM 5 (by decide) w4_133 rfl rfl dX3_wagon_112 ?_
                refine n_aload_n C dX3_wagon_115 rfl ?_
                refine r_get (v := iv (c 0 0)) C hM 0 (by decide) w4_128 rfl (congrArg (fun z => some (iv z)) (cut_at hc (by decide) 0)) dX3_wagon_116 ?_
                refine n_iload_n C dX3_wagon_119 rfl ?_
                refine r_iast C I hM 5 rfl rfl (((c 0 0)).toNat) (by omega) (show _ < 6 by omega) dX3_wagon_120 (fun σ hM => ?_)
                refine n_aload_n C dX3_wagon_121 rfl ?_
                refine n_dup C dX3_wagon_122 rfl ?_
                refine r_get (v := iv (c 0 0)) C hM 0 (by decide) w4_128 rfl (congrArg (fun z => some (iv z)) (cut_at hc (by decide) 0)) dX3_wagon_123 ?_
                refine n_iconst (x := 1) C dX3_wagon_126 ?_
                refine n_iadd C dX3_wagon_127 ?_
                refine r_put C I hM 0 (by decide) rfl w4_128 rfl rfl rfl rfl dX3_wagon_128 (fun σ hM => ?_)
                refine n_aload_n C dX3_wagon_131 rfl ?_
                refine r_get (v := iv ((c 0 0) + 1)) C hM 0 (by decide) w4_128 rfl rfl dX3_wagon_132 ?_
                refine n_iconst (x := 1) C dX3_wagon_135 ?_
                refine n_isub C dX3_wagon_136 ?_
                exact n_ireturn C Rr rfl ⟨_, _, rfl, hM, (by rw [tu_k (by decide), tu_k (by decide), tu_k (by decide), tu_k (by decide), tu_k (by decide)]; exact h26.trans hcd.symm), fun _ => ⟨by first | rfl | omega, (by rw [cut_tuc (by decide), cut_tuc (by decide), cut_tuc (by decide), cut_tuc (by decide), cut_tuc (by decide), hc]; rfl)⟩, fun q => absurd hcd q⟩ (by omega) (by omega) dX3_wagon_137
              · exfalso; omega
            · refine n_iconst (x := 2) C dX3_wagon_67 ?_
              refine n_goto C 72 dX3_wagon_68 (by decide) ?_
              refine n_invV C (c_can hst (by omega) I hM hc) ⟨w4_221, w4_224, w1_5, ⟨by decide, by decide⟩, by show _ = some 1; decide +kernel, by decide⟩ w4_223 wp_24 hM.1 (show vwCl[6]? = some ("OperaMachinesModel", TX3, 27) from rfl) (by decide) (by omega) (by omega) (Nat.le_of_ble_eq_true rfl) rfl dX3_wagon_72 (fun r σ h => ?_) (fun _ _ h => h.elim)
              obtain ⟨xc, M1, rfl, hM, hc, h26, hxc⟩ := h
              refine n_if_ne C 80 dX3_wagon_75 (by decide) (by unfold rg; omega) (fun b75 => ?_) (fun b75 => ?_)
              · exfalso; omega
              · have hcd : cdWagon c t p z v = 2 := by unfold cdWagon; rw [if_pos (by omega), if_pos (by omega)]
                refine n_iconst (x := 0) C dX3_wagon_78 ?_
                exact n_ireturn C Rr rfl ⟨_, _, rfl, hM, h26.trans hcd.symm, fun q => absurd (hcd.symm.trans q) (by decide), fun _ => hc⟩ (by omega) (by omega) dX3_wagon_79
          · exfalso; omega
set_option maxRecDepth 100000 in
set_option maxHeartbeats 4000000 in
theorem c_rturntable {g : Gx} (hst : g.1.stackTraces = false) {a : Int} (hra : rg a) {v : Int} (hrv : rg v) {o : Nat} {ar : Nat → Nat} {β : Wd} {M c : Tb} (I : RI o ar) {σ : Wd} (hM : MW g.2.1 o ar β M σ) (hc : cut M = c) (hw : WF c) : CT g yX3_turntable cX3_turntable 3 (some .int) 1 0 0 [.ref o, iv a, iv v] σ (fun r σ' => ∃ (x : Int) (M' : Tb), r = some (iv x) ∧ MW g.2.1 o ar β M' σ' ∧ M' 26 0 = cdTable c a v ∧ (cdTable c a v = 0 → x = c 0 0 ∧ cut M' = nxTable c a v) ∧ (cdTable c a v ≠ 0 → cut M' = c)) (fun _ _ => False) := by
  refine CT.of hst (by decide +kernel) (Nat.le_of_ble_eq_true rfl) (fun Φ C Rr hY hN => ?_)
  show N Φ 0 0 σ 0 [(0, .ref o), (1, iv a), (2, iv v)] []
  unfold rg at hra hrv
  obtain ⟨w0, w6, w12, w13, w14, w15, w16, wm, wq, ww⟩ := id hw
  refine n_aload_n C dX3_turntable_0 rfl ?_
  refine n_iload_n C dX3_turntable_1 rfl ?_
  refine n_iconst (x := 0) C dX3_turntable_2 ?_
  refine n_sipush (x := 359) C dX3_turntable_3 (by decide) ?_
  refine n_invS C (c_isIn hst (by unfold rg; omega) (by unfold rg; omega) (by unfold rg; omega)) ⟨w4_218, w4_220, w1_5, ⟨by decide, by decide⟩, by show _ = some 3; decide +kernel, by decide⟩ w4_219 (by decide) (by omega) (by omega) (Nat.le_of_ble_eq_true rfl) rfl dX3_turntable_6 (fun r σ' h => ?_) (fun _ _ h => h.elim)
  obtain ⟨x0, rfl, rfl, hx0⟩ := h
  refine n_if_eq C 22 dX3_turntable_9 (by decide) (by unfold rg; omega) (fun b9 => ?_) (fun b9 => ?_)
  · refine n_iconst (x := 1) C dX3_turntable_22 ?_
    refine n_goto C 40 dX3_turntable_23 (by decide) ?_
    refine n_invV C (c_can hst (by omega) I hM hc) ⟨w4_221, w4_224, w1_5, ⟨by decide, by decide⟩, by show _ = some 1; decide +kernel, by decide⟩ w4_223 wp_24 hM.1 (show vwCl[6]? = some ("OperaMachinesModel", TX3, 27) from rfl) (by decide) (by omega) (by omega) (Nat.le_of_ble_eq_true rfl) rfl dX3_turntable_40 (fun r σ h => ?_) (fun _ _ h => h.elim)
    obtain ⟨xc, M1, rfl, hM, hc, h26, hxc⟩ := h
    refine n_if_ne C 48 dX3_turntable_43 (by decide) (by unfold rg; omega) (fun b43 => ?_) (fun b43 => ?_)
    · exfalso; omega
    · have hcd : cdTable c a v = 1 := by unfold cdTable; rw [if_neg (by omega)]
      refine n_iconst (x := 0) C dX3_turntable_46 ?_
      exact n_ireturn C Rr rfl ⟨_, _, rfl, hM, h26.trans hcd.symm, fun q => absurd (hcd.symm.trans q) (by decide), fun _ => hc⟩ (by omega) (by omega) dX3_turntable_47
  · refine n_iload_n C dX3_turntable_12 rfl ?_
    refine n_iconst (x := 1) C dX3_turntable_13 ?_
    refine n_bipush (x := 10) C dX3_turntable_14 (by decide) ?_
    refine n_invS C (c_isIn hst (by unfold rg; omega) (by unfold rg; omega) (by unfold rg; omega)) ⟨w4_218, w4_220, w1_5, ⟨by decide, by decide⟩, by show _ = some 3; decide +kernel, by decide⟩ w4_219 (by decide) (by omega) (by omega) (Nat.le_of_ble_eq_true rfl) rfl dX3_turntable_16 (fun r σ' h => ?_) (fun _ _ h => h.elim)
    obtain ⟨x12, rfl, rfl, hx12⟩ := h
    refine n_if_ne C 26 dX3_turntable_19 (by decide) (by unfold rg; omega) (fun b19 => ?_) (fun b19 => ?_)
    · refine n_aload_n C dX3_turntable_26 rfl ?_
      refine r_get (v := iv (c 0 0)) C hM 0 (by decide) w4_128 rfl (congrArg (fun z => some (iv z)) (cut_at hc (by decide) 0)) dX3_turntable_27 ?_
      refine n_bipush (x := 6) C dX3_turntable_30 (by decide) ?_
      refine n_icmp_ne C 39 dX3_turntable_32 (by decide) (by unfold rg; omega) (by unfold rg; omega) (fun b32 => ?_) (fun b32 => ?_)
      · refine n_iconst (x := 0) C dX3_turntable_39 ?_
        refine n_invV C (c_can hst (by omega) I hM hc) ⟨w4_221, w4_224, w1_5, ⟨by decide, by decide⟩, by show _ = some 1; decide +kernel, by decide⟩ w4_223 wp_24 hM.1 (show vwCl[6]? = some ("OperaMachinesModel", TX3, 27) from rfl) (by decide) (by omega) (by omega) (Nat.le_of_ble_eq_true rfl) rfl dX3_turntable_40 (fun r σ h => ?_) (fun _ _ h => h.elim)
        obtain ⟨xc, M1, rfl, hM, hc, h26, hxc⟩ := h
        refine n_if_ne C 48 dX3_turntable_43 (by decide) (by unfold rg; omega) (fun b43 => ?_) (fun b43 => ?_)
        · have hcd : cdTable c a v = 0 := by unfold cdTable; rw [if_pos (by omega), if_neg (by omega)]
          refine n_aload_n C dX3_turntable_48 rfl ?_
          refine r_get C hM 1 (by decide) w4_129 rfl rfl dX3_turntable_49 ?_
          refine n_aload_n C dX3_turntable_52 rfl ?_
          refine r_get (v := iv (c 0 0)) C hM 0 (by decide) w4_128 rfl (congrArg (fun z => some (iv z)) (cut_at hc (by decide) 0)) dX3_turntable_53 ?_
          refine n_iconst (x := 1) C dX3_turntable_56 ?_
          refine r_zast C I hM 1 rfl rfl (((c 0 0)).toNat) (by omega) (show _ < 6 by omega) (by omega) dX3_turntable_57 (fun σ hM => ?_)
          refine n_aload_n C dX3_turntable_58 rfl ?_
          refine r_get C hM 4 (by decide) w4_132 rfl rfl dX3_turntable_59 ?_
          refine n_aload_n C dX3_turntable_62 rfl ?_
          refine r_get (v := iv (c 0 0)) C hM 0 (by decide) w4_128 rfl (congrArg (fun z => some (iv z)) (cut_at hc (by decide) 0)) dX3_turntable_63 ?_
          refine n_iload_n C dX3_turntable_66 rfl ?_
          refine r_iast C I hM 4 rfl rfl (((c 0 0)).toNat) (by omega) (show _ < 6 by omega) dX3_turntable_67 (fun σ hM => ?_)
          refine n_aload_n C dX3_turntable_68 rfl ?_
          refine r_get C hM 5 (by decide) w4_133 rfl rfl dX3_turntable_69 ?_
          refine n_aload_n C dX3_turntable_72 rfl ?_
          refine r_get (v := iv (c 0 0)) C hM 0 (by decide) w4_128 rfl (congrArg (fun z => some (iv z)) (cut_at hc (by decide) 0)) dX3_turntable_73 ?_
          refine n_iload_n C dX3_turntable_76 rfl ?_
          refine r_iast C I hM 5 rfl rfl (((c 0 0)).toNat) (by omega) (show _ < 6 by omega) dX3_turntable_77 (fun σ hM => ?_)
          refine n_aload_n C dX3_turntable_78 rfl ?_
          refine n_dup C dX3_turntable_79 rfl ?_
          refine r_get (v := iv (c 0 0)) C hM 0 (by decide) w4_128 rfl (congrArg (fun z => some (iv z)) (cut_at hc (by decide) 0)) dX3_turntable_80 ?_
          refine n_iconst (x := 1) C dX3_turntable_83 ?_
          refine n_iadd C dX3_turntable_84 ?_
          refine r_put C I hM 0 (by decide) rfl w4_128 rfl rfl rfl rfl dX3_turntable_85 (fun σ hM => ?_)
          refine n_aload_n C dX3_turntable_88 rfl ?_
          refine r_get (v := iv ((c 0 0) + 1)) C hM 0 (by decide) w4_128 rfl rfl dX3_turntable_89 ?_
          refine n_iconst (x := 1) C dX3_turntable_92 ?_
          refine n_isub C dX3_turntable_93 ?_
          exact n_ireturn C Rr rfl ⟨_, _, rfl, hM, (by rw [tu_k (by decide), tu_k (by decide), tu_k (by decide), tu_k (by decide)]; exact h26.trans hcd.symm), fun _ => ⟨by first | rfl | omega, (by rw [cut_tuc (by decide), cut_tuc (by decide), cut_tuc (by decide), cut_tuc (by decide), hc]; rfl)⟩, fun q => absurd hcd q⟩ (by omega) (by omega) dX3_turntable_94
        · exfalso; omega
      · refine n_iconst (x := 2) C dX3_turntable_35 ?_
        refine n_goto C 40 dX3_turntable_36 (by decide) ?_
        refine n_invV C (c_can hst (by omega) I hM hc) ⟨w4_221, w4_224, w1_5, ⟨by decide, by decide⟩, by show _ = some 1; decide +kernel, by decide⟩ w4_223 wp_24 hM.1 (show vwCl[6]? = some ("OperaMachinesModel", TX3, 27) from rfl) (by decide) (by omega) (by omega) (Nat.le_of_ble_eq_true rfl) rfl dX3_turntable_40 (fun r σ h => ?_) (fun _ _ h => h.elim)
        obtain ⟨xc, M1, rfl, hM, hc, h26, hxc⟩ := h
        refine n_if_ne C 48 dX3_turntable_43 (by decide) (by unfold rg; omega) (fun b43 => ?_) (fun b43 => ?_)
        · exfalso; omega
        · have hcd : cdTable c a v = 2 := by unfold cdTable; rw [if_pos (by omega), if_pos (by omega)]
          refine n_iconst (x := 0) C dX3_turntable_46 ?_
          exact n_ireturn C Rr rfl ⟨_, _, rfl, hM, h26.trans hcd.symm, fun q => absurd (hcd.symm.trans q) (by decide), fun _ => hc⟩ (by omega) (by omega) dX3_turntable_47
    · refine n_iconst (x := 1) C dX3_turntable_22 ?_
      refine n_goto C 40 dX3_turntable_23 (by decide) ?_
      refine n_invV C (c_can hst (by omega) I hM hc) ⟨w4_221, w4_224, w1_5, ⟨by decide, by decide⟩, by show _ = some 1; decide +kernel, by decide⟩ w4_223 wp_24 hM.1 (show vwCl[6]? = some ("OperaMachinesModel", TX3, 27) from rfl) (by decide) (by omega) (by omega) (Nat.le_of_ble_eq_true rfl) rfl dX3_turntable_40 (fun r σ h => ?_) (fun _ _ h => h.elim)
      obtain ⟨xc, M1, rfl, hM, hc, h26, hxc⟩ := h
      refine n_if_ne C 48 dX3_turntable_43 (by decide) (by unfold rg; omega) (fun b43 => ?_) (fun b43 => ?_)
      · exfalso; omega
      · have hcd : cdTable c a v = 1 := by unfold cdTable; rw [if_neg (by omega)]
        refine n_iconst (x := 0) C dX3_turntable_46 ?_
        exact n_ireturn C Rr rfl ⟨_, _, rfl, hM, h26.trans hcd.symm, fun q => absurd (hcd.symm.trans q) (by decide), fun _ => hc⟩ (by omega) (by omega) dX3_turntable_47
set_option maxRecDepth 100000 in
set_option maxHeartbeats 4000000 in
theorem c_rsetTempo {g : Gx} (hst : g.1.stackTraces = false) {T : Int} (hrT : rg T) {o : Nat} {ar : Nat → Nat} {β : Wd} {M c : Tb} (I : RI o ar) {σ : Wd} (hM : MW g.2.1 o ar β M σ) (hc : cut M = c) (hw : WF c) : CT g yX3_setTempo cX3_setTempo 3 (some .int) 1 0 0 [.ref o, iv T] σ (fun r σ' => ∃ (x : Int) (M' : Tb), r = some (iv x) ∧ MW g.2.1 o ar β M' σ' ∧ M' 26 0 = cdTempo T ∧ (cdTempo T = 0 → x = c 14 0 ∧ cut M' = nxTempo c T) ∧ (cdTempo T ≠ 0 → cut M' = c)) (fun _ _ => False) := by
  refine CT.of hst (by decide +kernel) (Nat.le_of_ble_eq_true rfl) (fun Φ C Rr hY hN => ?_)
  show N Φ 0 0 σ 0 [(0, .ref o), (1, iv T)] []
  unfold rg at hrT
  obtain ⟨w0, w6, w12, w13, w14, w15, w16, wm, wq, ww⟩ := id hw
  refine n_aload_n C dX3_setTempo_0 rfl ?_
  refine n_iload_n C dX3_setTempo_1 rfl ?_
  refine n_bipush (x := 50) C dX3_setTempo_2 (by decide) ?_
  refine n_sipush (x := 200) C dX3_setTempo_4 (by decide) ?_
  refine n_invS C (c_isIn hst (by unfold rg; omega) (by unfold rg; omega) (by unfold rg; omega)) ⟨w4_218, w4_220, w1_5, ⟨by decide, by decide⟩, by show _ = some 3; decide +kernel, by decide⟩ w4_219 (by decide) (by omega) (by omega) (Nat.le_of_ble_eq_true rfl) rfl dX3_setTempo_7 (fun r σ' h => ?_) (fun _ _ h => h.elim)
  obtain ⟨x0, rfl, rfl, hx0⟩ := h
  refine n_if_eq C 17 dX3_setTempo_10 (by decide) (by unfold rg; omega) (fun b10 => ?_) (fun b10 => ?_)
  · refine n_iconst (x := 1) C dX3_setTempo_17 ?_
    refine n_invV C (c_can hst (by omega) I hM hc) ⟨w4_221, w4_224, w1_5, ⟨by decide, by decide⟩, by show _ = some 1; decide +kernel, by decide⟩ w4_223 wp_24 hM.1 (show vwCl[6]? = some ("OperaMachinesModel", TX3, 27) from rfl) (by decide) (by omega) (by omega) (Nat.le_of_ble_eq_true rfl) rfl dX3_setTempo_18 (fun r σ h => ?_) (fun _ _ h => h.elim)
    obtain ⟨xc, M1, rfl, hM, hc, h26, hxc⟩ := h
    refine n_if_ne C 26 dX3_setTempo_21 (by decide) (by unfold rg; omega) (fun b21 => ?_) (fun b21 => ?_)
    · exfalso; omega
    · have hcd : cdTempo T = 1 := by unfold cdTempo; rw [if_neg (by omega)]
      refine n_iconst (x := 0) C dX3_setTempo_24 ?_
      exact n_ireturn C Rr rfl ⟨_, _, rfl, hM, h26.trans hcd.symm, fun q => absurd (hcd.symm.trans q) (by decide), fun _ => hc⟩ (by omega) (by omega) dX3_setTempo_25
  · refine n_iconst (x := 0) C dX3_setTempo_13 ?_
    refine n_goto C 18 dX3_setTempo_14 (by decide) ?_
    refine n_invV C (c_can hst (by omega) I hM hc) ⟨w4_221, w4_224, w1_5, ⟨by decide, by decide⟩, by show _ = some 1; decide +kernel, by decide⟩ w4_223 wp_24 hM.1 (show vwCl[6]? = some ("OperaMachinesModel", TX3, 27) from rfl) (by decide) (by omega) (by omega) (Nat.le_of_ble_eq_true rfl) rfl dX3_setTempo_18 (fun r σ h => ?_) (fun _ _ h => h.elim)
    obtain ⟨xc, M1, rfl, hM, hc, h26, hxc⟩ := h
    refine n_if_ne C 26 dX3_setTempo_21 (by decide) (by unfold rg; omega) (fun b21 => ?_) (fun b21 => ?_)
    · have hcd : cdTempo T = 0 := by unfold cdTempo; rw [if_pos (by omega)]
      refine n_aload_n C dX3_setTempo_26 rfl ?_
      refine r_get (v := iv (c 14 0)) C hM 14 (by decide) w4_142 rfl (congrArg (fun z => some (iv z)) (cut_at hc (by decide) 0)) dX3_setTempo_27 ?_
      refine n_istore_n (lv' := [(2, iv (c 14 0)), (0, .ref o), (1, iv T)]) C dX3_setTempo_30 (by rw [hN]; decide) rfl ?_
      refine n_aload_n C dX3_setTempo_31 rfl ?_
      refine n_iload_n C dX3_setTempo_32 rfl ?_
      refine r_put C I hM 14 (by decide) rfl w4_142 rfl rfl rfl rfl dX3_setTempo_33 (fun σ hM => ?_)
      refine n_iload_n C dX3_setTempo_36 rfl ?_
      exact n_ireturn C Rr rfl ⟨_, _, rfl, hM, (by rw [tu_k (by decide)]; exact h26.trans hcd.symm), fun _ => ⟨by first | rfl | omega, (by rw [cut_tuc (by decide), hc]; rfl)⟩, fun q => absurd hcd q⟩ (by omega) (by omega) dX3_setTempo_37
    · exfalso; omega
set_option maxRecDepth 100000 in
set_option maxHeartbeats 4000000 in
theorem c_rsetRules {g : Gx} (hst : g.1.stackTraces = false) {a : Int} (hra : rg a) {b : Int} (hrb : rg b) {o : Nat} {ar : Nat → Nat} {β : Wd} {M c : Tb} (I : RI o ar) {σ : Wd} (hM : MW g.2.1 o ar β M σ) (hc : cut M = c) (hw : WF c) : CT g yX3_setRules cX3_setRules 3 none 1 0 0 [.ref o, iv a, iv b] σ (fun r σ' => ∃ (M' : Tb), r = none ∧ MW g.2.1 o ar β M' σ' ∧ M' 26 0 = cdRules a b ∧ (cdRules a b = 0 → cut M' = nxRules c a b) ∧ (cdRules a b ≠ 0 → cut M' = c)) (fun _ _ => False) := by
  refine CT.of hst (by decide +kernel) (Nat.le_of_ble_eq_true rfl) (fun Φ C Rr hY hN => ?_)
  show N Φ 0 0 σ 0 [(0, .ref o), (1, iv a), (2, iv b)] []
  unfold rg at hra hrb
  obtain ⟨w0, w6, w12, w13, w14, w15, w16, wm, wq, ww⟩ := id hw
  refine n_aload_n C dX3_setRules_0 rfl ?_
  refine n_iload_n C dX3_setRules_1 rfl ?_
  refine n_iconst (x := 0) C dX3_setRules_2 ?_
  refine n_bipush (x := 100) C dX3_setRules_3 (by decide) ?_
  refine n_invS C (c_isIn hst (by unfold rg; omega) (by unfold rg; omega) (by unfold rg; omega)) ⟨w4_218, w4_220, w1_5, ⟨by decide, by decide⟩, by show _ = some 3; decide +kernel, by decide⟩ w4_219 (by decide) (by omega) (by omega) (Nat.le_of_ble_eq_true rfl) rfl dX3_setRules_5 (fun r σ' h => ?_) (fun _ _ h => h.elim)
  obtain ⟨x0, rfl, rfl, hx0⟩ := h
  refine n_if_eq C 26 dX3_setRules_8 (by decide) (by unfold rg; omega) (fun b8 => ?_) (fun b8 => ?_)
  · refine n_iconst (x := 1) C dX3_setRules_26 ?_
    refine n_invV C (c_can hst (by omega) I hM hc) ⟨w4_221, w4_224, w1_5, ⟨by decide, by decide⟩, by show _ = some 1; decide +kernel, by decide⟩ w4_223 wp_24 hM.1 (show vwCl[6]? = some ("OperaMachinesModel", TX3, 27) from rfl) (by decide) (by omega) (by omega) (Nat.le_of_ble_eq_true rfl) rfl dX3_setRules_27 (fun r σ h => ?_) (fun _ _ h => h.elim)
    obtain ⟨xc, M1, rfl, hM, hc, h26, hxc⟩ := h
    refine n_if_eq C 43 dX3_setRules_30 (by decide) (by unfold rg; omega) (fun b30 => ?_) (fun b30 => ?_)
    · have hcd : cdRules a b = 1 := by unfold cdRules; rw [if_neg (by omega)]
      exact n_return C Rr ⟨_, rfl, hM, h26.trans hcd.symm, fun q => absurd (hcd.symm.trans q) (by decide), fun _ => hc⟩ (by omega) (by omega) dX3_setRules_43
    · exfalso; omega
  · refine n_iload_n C dX3_setRules_11 rfl ?_
    refine n_iconst (x := 0) C dX3_setRules_12 ?_
    refine n_sipush (x := 2400) C dX3_setRules_13 (by decide) ?_
    refine n_invS C (c_isIn hst (by unfold rg; omega) (by unfold rg; omega) (by unfold rg; omega)) ⟨w4_218, w4_220, w1_5, ⟨by decide, by decide⟩, by show _ = some 3; decide +kernel, by decide⟩ w4_219 (by decide) (by omega) (by omega) (Nat.le_of_ble_eq_true rfl) rfl dX3_setRules_16 (fun r σ' h => ?_) (fun _ _ h => h.elim)
    obtain ⟨x11, rfl, rfl, hx11⟩ := h
    refine n_if_eq C 26 dX3_setRules_19 (by decide) (by unfold rg; omega) (fun b19 => ?_) (fun b19 => ?_)
    · refine n_iconst (x := 1) C dX3_setRules_26 ?_
      refine n_invV C (c_can hst (by omega) I hM hc) ⟨w4_221, w4_224, w1_5, ⟨by decide, by decide⟩, by show _ = some 1; decide +kernel, by decide⟩ w4_223 wp_24 hM.1 (show vwCl[6]? = some ("OperaMachinesModel", TX3, 27) from rfl) (by decide) (by omega) (by omega) (Nat.le_of_ble_eq_true rfl) rfl dX3_setRules_27 (fun r σ h => ?_) (fun _ _ h => h.elim)
      obtain ⟨xc, M1, rfl, hM, hc, h26, hxc⟩ := h
      refine n_if_eq C 43 dX3_setRules_30 (by decide) (by unfold rg; omega) (fun b30 => ?_) (fun b30 => ?_)
      · have hcd : cdRules a b = 1 := by unfold cdRules; rw [if_neg (by omega)]
        exact n_return C Rr ⟨_, rfl, hM, h26.trans hcd.symm, fun q => absurd (hcd.symm.trans q) (by decide), fun _ => hc⟩ (by omega) (by omega) dX3_setRules_43
      · exfalso; omega
    · refine n_iconst (x := 0) C dX3_setRules_22 ?_
      refine n_goto C 27 dX3_setRules_23 (by decide) ?_
      refine n_invV C (c_can hst (by omega) I hM hc) ⟨w4_221, w4_224, w1_5, ⟨by decide, by decide⟩, by show _ = some 1; decide +kernel, by decide⟩ w4_223 wp_24 hM.1 (show vwCl[6]? = some ("OperaMachinesModel", TX3, 27) from rfl) (by decide) (by omega) (by omega) (Nat.le_of_ble_eq_true rfl) rfl dX3_setRules_27 (fun r σ h => ?_) (fun _ _ h => h.elim)
      obtain ⟨xc, M1, rfl, hM, hc, h26, hxc⟩ := h
      refine n_if_eq C 43 dX3_setRules_30 (by decide) (by unfold rg; omega) (fun b30 => ?_) (fun b30 => ?_)
      · exfalso; omega
      · have hcd : cdRules a b = 0 := by unfold cdRules; rw [if_pos (by omega)]
        refine n_aload_n C dX3_setRules_33 rfl ?_
        refine n_iload_n C dX3_setRules_34 rfl ?_
        refine r_put C I hM 15 (by decide) rfl w4_143 rfl rfl rfl rfl dX3_setRules_35 (fun σ hM => ?_)
        refine n_aload_n C dX3_setRules_38 rfl ?_
        refine n_iload_n C dX3_setRules_39 rfl ?_
        refine r_put C I hM 16 (by decide) rfl w4_144 rfl rfl rfl rfl dX3_setRules_40 (fun σ hM => ?_)
        exact n_return C Rr ⟨_, rfl, hM, (by rw [tu_k (by decide), tu_k (by decide)]; exact h26.trans hcd.symm), fun _ => (by rw [cut_tuc (by decide), cut_tuc (by decide), hc]; rfl), fun q => absurd hcd q⟩ (by omega) (by omega) dX3_setRules_43
set_option maxRecDepth 100000 in
set_option maxHeartbeats 4000000 in
theorem c_rstrike {g : Gx} (hst : g.1.stackTraces = false) {a : Int} (hra : rg a) {b : Int} (hb : b = 0 ∨ b = 1) {o : Nat} {ar : Nat → Nat} {β : Wd} {M c : Tb} (I : RI o ar) {σ : Wd} (hM : MW g.2.1 o ar β M σ) (hc : cut M = c) (hw : WF c) : CT g yX3_strike cX3_strike 4 (some .boolean) 2 0 0 [.ref o, iv a, iv b] σ (fun r σ' => ∃ (x : Int) (M' : Tb), r = some (iv x) ∧ MW g.2.1 o ar β M' σ' ∧ M' 26 0 = cdWork a ∧ (cdWork a = 0 → x = c 17 a.toNat ∧ cut M' = nxStrike c a b) ∧ (cdWork a ≠ 0 → cut M' = c)) (fun _ _ => False) := by
  refine CT.of hst (by decide +kernel) (Nat.le_of_ble_eq_true rfl) (fun Φ C Rr hY hN => ?_)
  show N Φ 0 0 σ 0 [(0, .ref o), (1, iv a), (2, iv b)] []
  unfold rg at hra
  obtain ⟨w0, w6, w12, w13, w14, w15, w16, wm, wq, ww⟩ := id hw
  refine n_aload_n C dX3_strike_0 rfl ?_
  refine n_iload_n C dX3_strike_1 rfl ?_
  refine n_invS C (c_isWorker hst (by unfold rg; omega)) ⟨w5_1, w5_3, w1_5, ⟨by decide, by decide⟩, by show _ = some 1; decide +kernel, by decide⟩ w5_2 (by decide) (by omega) (by omega) (Nat.le_of_ble_eq_true rfl) rfl dX3_strike_2 (fun r σ' h => ?_) (fun _ _ h => h.elim)
  obtain ⟨x0, rfl, rfl, hx0⟩ := h
  refine n_if_eq C 12 dX3_strike_5 (by decide) (by unfold rg; omega) (fun b5 => ?_) (fun b5 => ?_)
  · refine n_iconst (x := 1) C dX3_strike_12 ?_
    refine n_invV C (c_can hst (by omega) I hM hc) ⟨w4_221, w4_224, w1_5, ⟨by decide, by decide⟩, by show _ = some 1; decide +kernel, by decide⟩ w4_223 wp_24 hM.1 (show vwCl[6]? = some ("OperaMachinesModel", TX3, 27) from rfl) (by decide) (by omega) (by omega) (Nat.le_of_ble_eq_true rfl) rfl dX3_strike_13 (fun r σ h => ?_) (fun _ _ h => h.elim)
    obtain ⟨xc, M1, rfl, hM, hc, h26, hxc⟩ := h
    refine n_if_ne C 21 dX3_strike_16 (by decide) (by unfold rg; omega) (fun b16 => ?_) (fun b16 => ?_)
    · exfalso; omega
    · have hcd : cdWork a = 1 := by unfold cdWork; rw [if_neg (by omega)]
      refine n_iconst (x := 0) C dX3_strike_19 ?_
      exact n_ireturn C Rr (nar_bv (by first | decide | omega)) ⟨_, _, rfl, hM, h26.trans hcd.symm, fun q => absurd (hcd.symm.trans q) (by decide), fun _ => hc⟩ (by omega) (by omega) dX3_strike_20
  · refine n_iconst (x := 0) C dX3_strike_8 ?_
    refine n_goto C 13 dX3_strike_9 (by decide) ?_
    refine n_invV C (c_can hst (by omega) I hM hc) ⟨w4_221, w4_224, w1_5, ⟨by decide, by decide⟩, by show _ = some 1; decide +kernel, by decide⟩ w4_223 wp_24 hM.1 (show vwCl[6]? = some ("OperaMachinesModel", TX3, 27) from rfl) (by decide) (by omega) (by omega) (Nat.le_of_ble_eq_true rfl) rfl dX3_strike_13 (fun r σ h => ?_) (fun _ _ h => h.elim)
    obtain ⟨xc, M1, rfl, hM, hc, h26, hxc⟩ := h
    refine n_if_ne C 21 dX3_strike_16 (by decide) (by unfold rg; omega) (fun b16 => ?_) (fun b16 => ?_)
    · have w1 := (ww a.toNat).1
      have hcd : cdWork a = 0 := by unfold cdWork; rw [if_pos (by omega)]
      refine n_aload_n C dX3_strike_21 rfl ?_
      refine r_get C hM 17 (by decide) w4_145 rfl rfl dX3_strike_22 ?_
      refine n_iload_n C dX3_strike_25 rfl ?_
      refine r_zaldv (y := c 17 ((a).toNat)) C hM 17 rfl rfl ((a).toNat) (by omega) (show _ < 6 by omega) (cut_at hc (by decide) _) dX3_strike_26 ?_
      refine n_istore_n (lv' := [(3, iv (c 17 ((a).toNat))), (0, .ref o), (1, iv a), (2, iv b)]) C dX3_strike_27 (by rw [hN]; decide) rfl ?_
      refine n_aload_n C dX3_strike_28 rfl ?_
      refine r_get C hM 17 (by decide) w4_145 rfl rfl dX3_strike_29 ?_
      refine n_iload_n C dX3_strike_32 rfl ?_
      refine n_iload_n C dX3_strike_33 rfl ?_
      refine r_zast C I hM 17 rfl rfl ((a).toNat) (by omega) (show _ < 6 by omega) (by omega) dX3_strike_34 (fun σ hM => ?_)
      refine n_iload_n C dX3_strike_35 rfl ?_
      exact n_ireturn C Rr (nar_bv (by first | decide | omega)) ⟨_, _, rfl, hM, (by rw [tu_k (by decide)]; exact h26.trans hcd.symm), fun _ => ⟨by first | rfl | omega, (by rw [cut_tuc (by decide), hc]; rfl)⟩, fun q => absurd hcd q⟩ (by omega) (by omega) dX3_strike_36
    · exfalso; omega
set_option maxRecDepth 100000 in
set_option maxHeartbeats 4000000 in
theorem c_rsubstitute {g : Gx} (hst : g.1.stackTraces = false) {a : Int} (hra : rg a) {b : Int} (hrb : rg b) {o : Nat} {ar : Nat → Nat} {β : Wd} {M c : Tb} (I : RI o ar) {σ : Wd} (hM : MW g.2.1 o ar β M σ) (hc : cut M = c) (hw : WF c) : CT g yX3_substitute cX3_substitute 4 (some .int) 2 0 0 [.ref o, iv a, iv b] σ (fun r σ' => ∃ (x : Int) (M' : Tb), r = some (iv x) ∧ MW g.2.1 o ar β M' σ' ∧ M' 26 0 = cdSub a b ∧ (cdSub a b = 0 → x = c 18 a.toNat ∧ cut M' = nxSub c a b) ∧ (cdSub a b ≠ 0 → cut M' = c)) (fun _ _ => False) := by
  refine CT.of hst (by decide +kernel) (Nat.le_of_ble_eq_true rfl) (fun Φ C Rr hY hN => ?_)
  show N Φ 0 0 σ 0 [(0, .ref o), (1, iv a), (2, iv b)] []
  unfold rg at hra hrb
  obtain ⟨w0, w6, w12, w13, w14, w15, w16, wm, wq, ww⟩ := id hw
  refine n_aload_n C dX3_substitute_0 rfl ?_
  refine n_iload_n C dX3_substitute_1 rfl ?_
  refine n_invS C (c_isWorker hst (by unfold rg; omega)) ⟨w5_1, w5_3, w1_5, ⟨by decide, by decide⟩, by show _ = some 1; decide +kernel, by decide⟩ w5_2 (by decide) (by omega) (by omega) (Nat.le_of_ble_eq_true rfl) rfl dX3_substitute_2 (fun r σ' h => ?_) (fun _ _ h => h.elim)
  obtain ⟨x0, rfl, rfl, hx0⟩ := h
  refine n_if_eq C 21 dX3_substitute_5 (by decide) (by unfold rg; omega) (fun b5 => ?_) (fun b5 => ?_)
  · refine n_iconst (x := 1) C dX3_substitute_21 ?_
    refine n_invV C (c_can hst (by omega) I hM hc) ⟨w4_221, w4_224, w1_5, ⟨by decide, by decide⟩, by show _ = some 1; decide +kernel, by decide⟩ w4_223 wp_24 hM.1 (show vwCl[6]? = some ("OperaMachinesModel", TX3, 27) from rfl) (by decide) (by omega) (by omega) (Nat.le_of_ble_eq_true rfl) rfl dX3_substitute_22 (fun r σ h => ?_) (fun _ _ h => h.elim)
    obtain ⟨xc, M1, rfl, hM, hc, h26, hxc⟩ := h
    refine n_if_ne C 30 dX3_substitute_25 (by decide) (by unfold rg; omega) (fun b25 => ?_) (fun b25 => ?_)
    · exfalso; omega
    · have hcd : cdSub a b = 1 := by unfold cdSub; rw [if_neg (by omega)]
      refine n_iconst (x := 0) C dX3_substitute_28 ?_
      exact n_ireturn C Rr rfl ⟨_, _, rfl, hM, h26.trans hcd.symm, fun q => absurd (hcd.symm.trans q) (by decide), fun _ => hc⟩ (by omega) (by omega) dX3_substitute_29
  · refine n_iload_n C dX3_substitute_8 rfl ?_
    refine n_iconst (x := (-1)) C dX3_substitute_9 ?_
    refine n_iconst (x := 5) C dX3_substitute_10 ?_
    refine n_invS C (c_isIn hst (by unfold rg; omega) (by unfold rg; omega) (by unfold rg; omega)) ⟨w4_218, w4_220, w1_5, ⟨by decide, by decide⟩, by show _ = some 3; decide +kernel, by decide⟩ w4_219 (by decide) (by omega) (by omega) (Nat.le_of_ble_eq_true rfl) rfl dX3_substitute_11 (fun r σ' h => ?_) (fun _ _ h => h.elim)
    obtain ⟨x8, rfl, rfl, hx8⟩ := h
    refine n_if_eq C 21 dX3_substitute_14 (by decide) (by unfold rg; omega) (fun b14 => ?_) (fun b14 => ?_)
    · refine n_iconst (x := 1) C dX3_substitute_21 ?_
      refine n_invV C (c_can hst (by omega) I hM hc) ⟨w4_221, w4_224, w1_5, ⟨by decide, by decide⟩, by show _ = some 1; decide +kernel, by decide⟩ w4_223 wp_24 hM.1 (show vwCl[6]? = some ("OperaMachinesModel", TX3, 27) from rfl) (by decide) (by omega) (by omega) (Nat.le_of_ble_eq_true rfl) rfl dX3_substitute_22 (fun r σ h => ?_) (fun _ _ h => h.elim)
      obtain ⟨xc, M1, rfl, hM, hc, h26, hxc⟩ := h
      refine n_if_ne C 30 dX3_substitute_25 (by decide) (by unfold rg; omega) (fun b25 => ?_) (fun b25 => ?_)
      · exfalso; omega
      · have hcd : cdSub a b = 1 := by unfold cdSub; rw [if_neg (by omega)]
        refine n_iconst (x := 0) C dX3_substitute_28 ?_
        exact n_ireturn C Rr rfl ⟨_, _, rfl, hM, h26.trans hcd.symm, fun q => absurd (hcd.symm.trans q) (by decide), fun _ => hc⟩ (by omega) (by omega) dX3_substitute_29
    · refine n_iconst (x := 0) C dX3_substitute_17 ?_
      refine n_goto C 22 dX3_substitute_18 (by decide) ?_
      refine n_invV C (c_can hst (by omega) I hM hc) ⟨w4_221, w4_224, w1_5, ⟨by decide, by decide⟩, by show _ = some 1; decide +kernel, by decide⟩ w4_223 wp_24 hM.1 (show vwCl[6]? = some ("OperaMachinesModel", TX3, 27) from rfl) (by decide) (by omega) (by omega) (Nat.le_of_ble_eq_true rfl) rfl dX3_substitute_22 (fun r σ h => ?_) (fun _ _ h => h.elim)
      obtain ⟨xc, M1, rfl, hM, hc, h26, hxc⟩ := h
      refine n_if_ne C 30 dX3_substitute_25 (by decide) (by unfold rg; omega) (fun b25 => ?_) (fun b25 => ?_)
      · have hcd : cdSub a b = 0 := by unfold cdSub; rw [if_pos (by omega)]
        refine n_aload_n C dX3_substitute_30 rfl ?_
        refine r_get C hM 18 (by decide) w4_146 rfl rfl dX3_substitute_31 ?_
        refine n_iload_n C dX3_substitute_34 rfl ?_
        refine r_ialdv (y := c 18 ((a).toNat)) C hM 18 rfl rfl ((a).toNat) (by omega) (show _ < 6 by omega) (cut_at hc (by decide) _) dX3_substitute_35 ?_
        refine n_istore_n (lv' := [(3, iv (c 18 ((a).toNat))), (0, .ref o), (1, iv a), (2, iv b)]) C dX3_substitute_36 (by rw [hN]; decide) rfl ?_
        refine n_aload_n C dX3_substitute_37 rfl ?_
        refine r_get C hM 18 (by decide) w4_146 rfl rfl dX3_substitute_38 ?_
        refine n_iload_n C dX3_substitute_41 rfl ?_
        refine n_iload_n C dX3_substitute_42 rfl ?_
        refine r_iast C I hM 18 rfl rfl ((a).toNat) (by omega) (show _ < 6 by omega) dX3_substitute_43 (fun σ hM => ?_)
        refine n_iload_n C dX3_substitute_44 rfl ?_
        exact n_ireturn C Rr rfl ⟨_, _, rfl, hM, (by rw [tu_k (by decide)]; exact h26.trans hcd.symm), fun _ => ⟨by first | rfl | omega, (by rw [cut_tuc (by decide), hc]; rfl)⟩, fun q => absurd hcd q⟩ (by omega) (by omega) dX3_substitute_45
      · exfalso; omega
set_option maxRecDepth 100000 in
set_option maxHeartbeats 4000000 in
theorem c_rstrikeOut {g : Gx} (hst : g.1.stackTraces = false) {a : Int} (hra : rg a) {o : Nat} {ar : Nat → Nat} {β : Wd} {M c : Tb} (I : RI o ar) {σ : Wd} (hM : MW g.2.1 o ar β M σ) (hc : cut M = c) (hw : WF c) : CT g yX3_strikeOut cX3_strikeOut 2 (some .int) 2 0 0 [.ref o, iv a] σ (fun r σ' => ∃ (x : Int) (M' : Tb), r = some (iv x) ∧ MW g.2.1 o ar β M' σ' ∧ M' 26 0 = cdIs c a ∧ (cdIs c a = 0 → x = c 7 a.toNat ∧ cut M' = nxOut c a) ∧ (cdIs c a ≠ 0 → cut M' = c)) (fun _ _ => False) := by
  refine CT.of hst (by decide +kernel) (Nat.le_of_ble_eq_true rfl) (fun Φ C Rr hY hN => ?_)
  show N Φ 0 0 σ 0 [(0, .ref o), (1, iv a)] []
  unfold rg at hra
  obtain ⟨w0, w6, w12, w13, w14, w15, w16, wm, wq, ww⟩ := id hw
  refine n_aload_n C dX3_strikeOut_0 rfl ?_
  refine n_aload_n C dX3_strikeOut_1 rfl ?_
  refine n_iload_n C dX3_strikeOut_2 rfl ?_
  refine n_invV C (c_isCue hst (by unfold rg; omega) I hM hc hw) ⟨w5_8, w5_11, w1_5, ⟨by decide, by decide⟩, by show _ = some 1; decide +kernel, by decide⟩ w5_10 wp_26 hM.1 (show vwCl[6]? = some ("OperaMachinesModel", TX3, 27) from rfl) (by decide) (by omega) (by omega) (Nat.le_of_ble_eq_true rfl) rfl dX3_strikeOut_3 (fun r σ' h => ?_) (fun _ _ h => h.elim)
  obtain ⟨x0, rfl, rfl, hx0⟩ := h
  refine n_if_eq C 13 dX3_strikeOut_6 (by decide) (by unfold rg; omega) (fun b6 => ?_) (fun b6 => ?_)
  · refine n_iconst (x := 1) C dX3_strikeOut_13 ?_
    refine n_invV C (c_can hst (by omega) I hM hc) ⟨w4_221, w4_224, w1_5, ⟨by decide, by decide⟩, by show _ = some 1; decide +kernel, by decide⟩ w4_223 wp_24 hM.1 (show vwCl[6]? = some ("OperaMachinesModel", TX3, 27) from rfl) (by decide) (by omega) (by omega) (Nat.le_of_ble_eq_true rfl) rfl dX3_strikeOut_14 (fun r σ h => ?_) (fun _ _ h => h.elim)
    obtain ⟨xc, M1, rfl, hM, hc, h26, hxc⟩ := h
    refine n_if_ne C 22 dX3_strikeOut_17 (by decide) (by unfold rg; omega) (fun b17 => ?_) (fun b17 => ?_)
    · exfalso; omega
    · have hcd : cdIs c a = 1 := by unfold cdIs; rw [if_neg (by omega)]
      refine n_iconst (x := 0) C dX3_strikeOut_20 ?_
      exact n_ireturn C Rr rfl ⟨_, _, rfl, hM, h26.trans hcd.symm, fun q => absurd (hcd.symm.trans q) (by decide), fun _ => hc⟩ (by omega) (by omega) dX3_strikeOut_21
  · refine n_iconst (x := 0) C dX3_strikeOut_9 ?_
    refine n_goto C 14 dX3_strikeOut_10 (by decide) ?_
    refine n_invV C (c_can hst (by omega) I hM hc) ⟨w4_221, w4_224, w1_5, ⟨by decide, by decide⟩, by show _ = some 1; decide +kernel, by decide⟩ w4_223 wp_24 hM.1 (show vwCl[6]? = some ("OperaMachinesModel", TX3, 27) from rfl) (by decide) (by omega) (by omega) (Nat.le_of_ble_eq_true rfl) rfl dX3_strikeOut_14 (fun r σ h => ?_) (fun _ _ h => h.elim)
    obtain ⟨xc, M1, rfl, hM, hc, h26, hxc⟩ := h
    refine n_if_ne C 22 dX3_strikeOut_17 (by decide) (by unfold rg; omega) (fun b17 => ?_) (fun b17 => ?_)
    · have hcd : cdIs c a = 0 := by unfold cdIs; rw [if_pos (by omega)]
      refine n_aload_n C dX3_strikeOut_22 rfl ?_
      refine r_get C hM 11 (by decide) w4_139 rfl rfl dX3_strikeOut_23 ?_
      refine n_iload_n C dX3_strikeOut_26 rfl ?_
      refine n_iconst (x := 1) C dX3_strikeOut_27 ?_
      refine r_zast C I hM 11 rfl rfl ((a).toNat) (by omega) (show _ < 24 by omega) (by omega) dX3_strikeOut_28 (fun σ hM => ?_)
      refine n_aload_n C dX3_strikeOut_29 rfl ?_
      refine r_get C hM 7 (by decide) w4_135 rfl rfl dX3_strikeOut_30 ?_
      refine n_iload_n C dX3_strikeOut_33 rfl ?_
      refine r_ialdv (y := c 7 ((a).toNat)) C hM 7 rfl rfl ((a).toNat) (by omega) (show _ < 24 by omega) (cut_at hc (by decide) _) dX3_strikeOut_34 ?_
      exact n_ireturn C Rr rfl ⟨_, _, rfl, hM, (by rw [tu_k (by decide)]; exact h26.trans hcd.symm), fun _ => ⟨by first | rfl | omega, (by rw [cut_tuc (by decide), hc]; rfl)⟩, fun q => absurd hcd q⟩ (by omega) (by omega) dX3_strikeOut_35
    · exfalso; omega
set_option maxRecDepth 100000 in
set_option maxHeartbeats 4000000 in
theorem c_rcue {g : Gx} (hst : g.1.stackTraces = false) {a : Int} (hra : rg a) {b : Int} (hrb : rg b) {t : Int} (hrt : rg t) {z : Int} (hrz : rg z) {o : Nat} {ar : Nat → Nat} {β : Wd} {M c : Tb} (I : RI o ar) {σ : Wd} (hM : MW g.2.1 o ar β M σ) (hc : cut M = c) (hw : WF c) : CT g yX3_cue cX3_cue 7 (some .int) 2 0 0 [.ref o, iv a, iv b, iv t, iv z] σ (fun r σ' => ∃ (x : Int) (M' : Tb), r = some (iv x) ∧ MW g.2.1 o ar β M' σ' ∧ M' 26 0 = cdCue c a b t z ∧ (cdCue c a b t z = 0 → x = c 6 0 ∧ cut M' = nxCue c a b t z) ∧ (cdCue c a b t z ≠ 0 → cut M' = c)) (fun _ _ => False) := by
  refine CT.of hst (by decide +kernel) (Nat.le_of_ble_eq_true rfl) (fun Φ C Rr hY hN => ?_)
  show N Φ 0 0 σ 0 [(0, .ref o), (1, iv a), (2, iv b), (3, iv t), (4, iv z)] []
  unfold rg at hra hrb hrt hrz
  obtain ⟨w0, w6, w12, w13, w14, w15, w16, wm, wq, ww⟩ := id hw
  refine n_aload_n C dX3_cue_0 rfl ?_
  refine n_iload_n C dX3_cue_1 rfl ?_
  refine n_invV C (c_isMachine hst (by unfold rg; omega) I hM hc hw) ⟨w4_237, w5_0, w1_5, ⟨by decide, by decide⟩, by show _ = some 1; decide +kernel, by decide⟩ w4_239 wp_25 hM.1 (show vwCl[6]? = some ("OperaMachinesModel", TX3, 27) from rfl) (by decide) (by omega) (by omega) (Nat.le_of_ble_eq_true rfl) rfl dX3_cue_2 (fun r σ' h => ?_) (fun _ _ h => h.elim)
  obtain ⟨x0, rfl, rfl, hx0⟩ := h
  refine n_istore (lv' := [(5, iv x0), (0, .ref o), (1, iv a), (2, iv b), (3, iv t), (4, iv z)]) C dX3_cue_5 (by rw [hN]; decide) rfl ?_
  refine n_iload C dX3_cue_7 rfl ?_
  refine n_if_eq C 64 dX3_cue_9 (by decide) (by unfold rg; omega) (fun b9 => ?_) (fun b9 => ?_)
  · refine n_iconst (x := 0) C dX3_cue_64 ?_
    refine n_istore (lv' := [(6, iv 0), (5, iv x0), (0, .ref o), (1, iv a), (2, iv b), (3, iv t), (4, iv z)]) C dX3_cue_65 (by rw [hN]; decide) rfl ?_
    refine n_aload_n C dX3_cue_67 rfl ?_
    refine n_iload C dX3_cue_68 rfl ?_
    refine n_if_ne C 77 dX3_cue_70 (by decide) (by unfold rg; omega) (fun b70 => ?_) (fun b70 => ?_)
    · exfalso; omega
    · refine n_iconst (x := 1) C dX3_cue_73 ?_
      refine n_goto C 100 dX3_cue_74 (by decide) ?_
      refine n_invV C (c_can hst (by omega) I hM hc) ⟨w4_221, w4_224, w1_5, ⟨by decide, by decide⟩, by show _ = some 1; decide +kernel, by decide⟩ w4_223 wp_24 hM.1 (show vwCl[6]? = some ("OperaMachinesModel", TX3, 27) from rfl) (by decide) (by omega) (by omega) (Nat.le_of_ble_eq_true rfl) rfl dX3_cue_100 (fun r σ h => ?_) (fun _ _ h => h.elim)
      obtain ⟨xc, M1, rfl, hM, hc, h26, hxc⟩ := h
      refine n_if_ne C 108 dX3_cue_103 (by decide) (by unfold rg; omega) (fun b103 => ?_) (fun b103 => ?_)
      · exfalso; omega
      · have hcd : cdCue c a b t z = 1 := by unfold cdCue; rw [if_neg (by omega)]
        refine n_iconst (x := 0) C dX3_cue_106 ?_
        exact n_ireturn C Rr rfl ⟨_, _, rfl, hM, h26.trans hcd.symm, fun q => absurd (hcd.symm.trans q) (by decide), fun _ => hc⟩ (by omega) (by omega) dX3_cue_107
  · refine n_iload_n C dX3_cue_12 rfl ?_
    refine n_iconst (x := 0) C dX3_cue_13 ?_
    refine n_aload_n C dX3_cue_14 rfl ?_
    refine r_get (v := iv (c 12 0)) C hM 12 (by decide) w4_140 rfl (congrArg (fun z => some (iv z)) (cut_at hc (by decide) 0)) dX3_cue_15 ?_
    refine n_iconst (x := 1) C dX3_cue_18 ?_
    refine n_isub C dX3_cue_19 ?_
    refine n_invS C (c_isIn hst (by unfold rg; omega) (by unfold rg; omega) (by unfold rg; omega)) ⟨w4_218, w4_220, w1_5, ⟨by decide, by decide⟩, by show _ = some 3; decide +kernel, by decide⟩ w4_219 (by decide) (by omega) (by omega) (Nat.le_of_ble_eq_true rfl) rfl dX3_cue_20 (fun r σ' h => ?_) (fun _ _ h => h.elim)
    obtain ⟨x12, rfl, rfl, hx12⟩ := h
    refine n_if_eq C 64 dX3_cue_23 (by decide) (by unfold rg; omega) (fun b23 => ?_) (fun b23 => ?_)
    · refine n_iconst (x := 0) C dX3_cue_64 ?_
      refine n_istore (lv' := [(6, iv 0), (5, iv x0), (0, .ref o), (1, iv a), (2, iv b), (3, iv t), (4, iv z)]) C dX3_cue_65 (by rw [hN]; decide) rfl ?_
      refine n_aload_n C dX3_cue_67 rfl ?_
      refine n_iload C dX3_cue_68 rfl ?_
      refine n_if_ne C 77 dX3_cue_70 (by decide) (by unfold rg; omega) (fun b70 => ?_) (fun b70 => ?_)
      · refine n_iload C dX3_cue_77 rfl ?_
        refine n_if_ne C 86 dX3_cue_79 (by decide) (by unfold rg; omega) (fun b79 => ?_) (fun b79 => ?_)
        · exfalso; omega
        · refine n_iconst (x := 2) C dX3_cue_82 ?_
          refine n_goto C 100 dX3_cue_83 (by decide) ?_
          refine n_invV C (c_can hst (by omega) I hM hc) ⟨w4_221, w4_224, w1_5, ⟨by decide, by decide⟩, by show _ = some 1; decide +kernel, by decide⟩ w4_223 wp_24 hM.1 (show vwCl[6]? = some ("OperaMachinesModel", TX3, 27) from rfl) (by decide) (by omega) (by omega) (Nat.le_of_ble_eq_true rfl) rfl dX3_cue_100 (fun r σ h => ?_) (fun _ _ h => h.elim)
          obtain ⟨xc, M1, rfl, hM, hc, h26, hxc⟩ := h
          refine n_if_ne C 108 dX3_cue_103 (by decide) (by unfold rg; omega) (fun b103 => ?_) (fun b103 => ?_)
          · exfalso; omega
          · have hcd : cdCue c a b t z = 2 := by unfold cdCue; rw [if_pos (by omega), if_neg (by omega)]
            refine n_iconst (x := 0) C dX3_cue_106 ?_
            exact n_ireturn C Rr rfl ⟨_, _, rfl, hM, h26.trans hcd.symm, fun q => absurd (hcd.symm.trans q) (by decide), fun _ => hc⟩ (by omega) (by omega) dX3_cue_107
      · exfalso; omega
    · refine n_iload_n C dX3_cue_26 rfl ?_
      refine n_iconst (x := 0) C dX3_cue_27 ?_
      refine n_aload_n C dX3_cue_28 rfl ?_
      refine r_get C hM 1 (by decide) w4_129 rfl rfl dX3_cue_29 ?_
      refine n_iload_n C dX3_cue_32 rfl ?_
      refine r_zaldv (y := c 1 ((a).toNat)) C hM 1 rfl rfl ((a).toNat) (by omega) (show _ < 6 by omega) (cut_at hc (by decide) _) dX3_cue_33 ?_
      refine n_if_eq C 43 dX3_cue_34 (by decide) (by have := (wm a.toNat).1; unfold rg; omega) (fun b34 => ?_) (fun b34 => ?_)
      · refine n_sipush (x := 200) C dX3_cue_43 (by decide) ?_
        refine n_invS C (c_isIn hst (by unfold rg; omega) (by unfold rg; omega) (by unfold rg; omega)) ⟨w4_218, w4_220, w1_5, ⟨by decide, by decide⟩, by show _ = some 3; decide +kernel, by decide⟩ w4_219 (by decide) (by omega) (by omega) (Nat.le_of_ble_eq_true rfl) rfl dX3_cue_46 (fun r σ' h => ?_) (fun _ _ h => h.elim)
        obtain ⟨x43, rfl, rfl, hx43⟩ := h
        refine n_if_eq C 64 dX3_cue_49 (by decide) (by unfold rg; omega) (fun b49 => ?_) (fun b49 => ?_)
        · refine n_iconst (x := 0) C dX3_cue_64 ?_
          refine n_istore (lv' := [(6, iv 0), (5, iv x0), (0, .ref o), (1, iv a), (2, iv b), (3, iv t), (4, iv z)]) C dX3_cue_65 (by rw [hN]; decide) rfl ?_
          refine n_aload_n C dX3_cue_67 rfl ?_
          refine n_iload C dX3_cue_68 rfl ?_
          refine n_if_ne C 77 dX3_cue_70 (by decide) (by unfold rg; omega) (fun b70 => ?_) (fun b70 => ?_)
          · refine n_iload C dX3_cue_77 rfl ?_
            refine n_if_ne C 86 dX3_cue_79 (by decide) (by unfold rg; omega) (fun b79 => ?_) (fun b79 => ?_)
            · exfalso; omega
            · refine n_iconst (x := 2) C dX3_cue_82 ?_
              refine n_goto C 100 dX3_cue_83 (by decide) ?_
              refine n_invV C (c_can hst (by omega) I hM hc) ⟨w4_221, w4_224, w1_5, ⟨by decide, by decide⟩, by show _ = some 1; decide +kernel, by decide⟩ w4_223 wp_24 hM.1 (show vwCl[6]? = some ("OperaMachinesModel", TX3, 27) from rfl) (by decide) (by omega) (by omega) (Nat.le_of_ble_eq_true rfl) rfl dX3_cue_100 (fun r σ h => ?_) (fun _ _ h => h.elim)
              obtain ⟨xc, M1, rfl, hM, hc, h26, hxc⟩ := h
              refine n_if_ne C 108 dX3_cue_103 (by decide) (by unfold rg; omega) (fun b103 => ?_) (fun b103 => ?_)
              · exfalso; omega
              · have hcd : cdCue c a b t z = 2 := by unfold cdCue; rw [if_pos (by omega), if_neg (by rw [if_pos (by omega)]; omega)]
                refine n_iconst (x := 0) C dX3_cue_106 ?_
                exact n_ireturn C Rr rfl ⟨_, _, rfl, hM, h26.trans hcd.symm, fun q => absurd (hcd.symm.trans q) (by decide), fun _ => hc⟩ (by omega) (by omega) dX3_cue_107
          · exfalso; omega
        · refine n_iload C dX3_cue_52 rfl ?_
          refine n_invS C (c_isWorker hst (by unfold rg; omega)) ⟨w5_1, w5_3, w1_5, ⟨by decide, by decide⟩, by show _ = some 1; decide +kernel, by decide⟩ w5_2 (by decide) (by omega) (by omega) (Nat.le_of_ble_eq_true rfl) rfl dX3_cue_54 (fun r σ' h => ?_) (fun _ _ h => h.elim)
          obtain ⟨x52, rfl, rfl, hx52⟩ := h
          refine n_if_eq C 64 dX3_cue_57 (by decide) (by unfold rg; omega) (fun b57 => ?_) (fun b57 => ?_)
          · refine n_iconst (x := 0) C dX3_cue_64 ?_
            refine n_istore (lv' := [(6, iv 0), (5, iv x0), (0, .ref o), (1, iv a), (2, iv b), (3, iv t), (4, iv z)]) C dX3_cue_65 (by rw [hN]; decide) rfl ?_
            refine n_aload_n C dX3_cue_67 rfl ?_
            refine n_iload C dX3_cue_68 rfl ?_
            refine n_if_ne C 77 dX3_cue_70 (by decide) (by unfold rg; omega) (fun b70 => ?_) (fun b70 => ?_)
            · refine n_iload C dX3_cue_77 rfl ?_
              refine n_if_ne C 86 dX3_cue_79 (by decide) (by unfold rg; omega) (fun b79 => ?_) (fun b79 => ?_)
              · exfalso; omega
              · refine n_iconst (x := 2) C dX3_cue_82 ?_
                refine n_goto C 100 dX3_cue_83 (by decide) ?_
                refine n_invV C (c_can hst (by omega) I hM hc) ⟨w4_221, w4_224, w1_5, ⟨by decide, by decide⟩, by show _ = some 1; decide +kernel, by decide⟩ w4_223 wp_24 hM.1 (show vwCl[6]? = some ("OperaMachinesModel", TX3, 27) from rfl) (by decide) (by omega) (by omega) (Nat.le_of_ble_eq_true rfl) rfl dX3_cue_100 (fun r σ h => ?_) (fun _ _ h => h.elim)
                obtain ⟨xc, M1, rfl, hM, hc, h26, hxc⟩ := h
                refine n_if_ne C 108 dX3_cue_103 (by decide) (by unfold rg; omega) (fun b103 => ?_) (fun b103 => ?_)
                · exfalso; omega
                · have hcd : cdCue c a b t z = 2 := by unfold cdCue; rw [if_pos (by omega), if_neg (by rw [if_pos (by omega)]; omega)]
                  refine n_iconst (x := 0) C dX3_cue_106 ?_
                  exact n_ireturn C Rr rfl ⟨_, _, rfl, hM, h26.trans hcd.symm, fun q => absurd (hcd.symm.trans q) (by decide), fun _ => hc⟩ (by omega) (by omega) dX3_cue_107
            · exfalso; omega
          · refine n_iconst (x := 1) C dX3_cue_60 ?_
            refine n_goto C 65 dX3_cue_61 (by decide) ?_
            refine n_istore (lv' := [(6, iv 1), (5, iv x0), (0, .ref o), (1, iv a), (2, iv b), (3, iv t), (4, iv z)]) C dX3_cue_65 (by rw [hN]; decide) rfl ?_
            refine n_aload_n C dX3_cue_67 rfl ?_
            refine n_iload C dX3_cue_68 rfl ?_
            refine n_if_ne C 77 dX3_cue_70 (by decide) (by unfold rg; omega) (fun b70 => ?_) (fun b70 => ?_)
            · refine n_iload C dX3_cue_77 rfl ?_
              refine n_if_ne C 86 dX3_cue_79 (by decide) (by unfold rg; omega) (fun b79 => ?_) (fun b79 => ?_)
              · refine n_aload_n C dX3_cue_86 rfl ?_
                refine r_get (v := iv (c 6 0)) C hM 6 (by decide) w4_134 rfl (congrArg (fun z => some (iv z)) (cut_at hc (by decide) 0)) dX3_cue_87 ?_
                refine n_bipush (x := 24) C dX3_cue_90 (by decide) ?_
                refine n_icmp_ne C 99 dX3_cue_92 (by decide) (by unfold rg; omega) (by unfold rg; omega) (fun b92 => ?_) (fun b92 => ?_)
                · refine n_iconst (x := 0) C dX3_cue_99 ?_
                  refine n_invV C (c_can hst (by omega) I hM hc) ⟨w4_221, w4_224, w1_5, ⟨by decide, by decide⟩, by show _ = some 1; decide +kernel, by decide⟩ w4_223 wp_24 hM.1 (show vwCl[6]? = some ("OperaMachinesModel", TX3, 27) from rfl) (by decide) (by omega) (by omega) (Nat.le_of_ble_eq_true rfl) rfl dX3_cue_100 (fun r σ h => ?_) (fun _ _ h => h.elim)
                  obtain ⟨xc, M1, rfl, hM, hc, h26, hxc⟩ := h
                  refine n_if_ne C 108 dX3_cue_103 (by decide) (by unfold rg; omega) (fun b103 => ?_) (fun b103 => ?_)
                  · have hcd : cdCue c a b t z = 0 := by unfold cdCue; rw [if_pos (by omega), if_pos (by rw [if_pos (by omega)]; omega), if_neg (by omega)]
                    refine n_aload_n C dX3_cue_108 rfl ?_
                    refine r_get C hM 8 (by decide) w4_136 rfl rfl dX3_cue_109 ?_
                    refine n_aload_n C dX3_cue_112 rfl ?_
                    refine r_get (v := iv (c 6 0)) C hM 6 (by decide) w4_134 rfl (congrArg (fun z => some (iv z)) (cut_at hc (by decide) 0)) dX3_cue_113 ?_
                    refine n_iload_n C dX3_cue_116 rfl ?_
                    refine r_iast C I hM 8 rfl rfl (((c 6 0)).toNat) (by omega) (show _ < 24 by omega) dX3_cue_117 (fun σ hM => ?_)
                    refine n_aload_n C dX3_cue_118 rfl ?_
                    refine r_get C hM 7 (by decide) w4_135 rfl rfl dX3_cue_119 ?_
                    refine n_aload_n C dX3_cue_122 rfl ?_
                    refine r_get (v := iv (c 6 0)) C hM 6 (by decide) w4_134 rfl (congrArg (fun z => some (iv z)) (cut_at hc (by decide) 0)) dX3_cue_123 ?_
                    refine n_iload_n C dX3_cue_126 rfl ?_
                    refine r_iast C I hM 7 rfl rfl (((c 6 0)).toNat) (by omega) (show _ < 24 by omega) dX3_cue_127 (fun σ hM => ?_)
                    refine n_aload_n C dX3_cue_128 rfl ?_
                    refine r_get C hM 9 (by decide) w4_137 rfl rfl dX3_cue_129 ?_
                    refine n_aload_n C dX3_cue_132 rfl ?_
                    refine r_get (v := iv (c 6 0)) C hM 6 (by decide) w4_134 rfl (congrArg (fun z => some (iv z)) (cut_at hc (by decide) 0)) dX3_cue_133 ?_
                    refine n_iload_n C dX3_cue_136 rfl ?_
                    refine r_iast C I hM 9 rfl rfl (((c 6 0)).toNat) (by omega) (show _ < 24 by omega) dX3_cue_137 (fun σ hM => ?_)
                    refine n_aload_n C dX3_cue_138 rfl ?_
                    refine r_get C hM 10 (by decide) w4_138 rfl rfl dX3_cue_139 ?_
                    refine n_aload_n C dX3_cue_142 rfl ?_
                    refine r_get (v := iv (c 6 0)) C hM 6 (by decide) w4_134 rfl (congrArg (fun z => some (iv z)) (cut_at hc (by decide) 0)) dX3_cue_143 ?_
                    refine n_iload C dX3_cue_146 rfl ?_
                    refine r_iast C I hM 10 rfl rfl (((c 6 0)).toNat) (by omega) (show _ < 24 by omega) dX3_cue_148 (fun σ hM => ?_)
                    refine n_aload_n C dX3_cue_149 rfl ?_
                    refine n_dup C dX3_cue_150 rfl ?_
                    refine r_get (v := iv (c 6 0)) C hM 6 (by decide) w4_134 rfl (congrArg (fun z => some (iv z)) (cut_at hc (by decide) 0)) dX3_cue_151 ?_
                    refine n_iconst (x := 1) C dX3_cue_154 ?_
                    refine n_iadd C dX3_cue_155 ?_
                    refine r_put C I hM 6 (by decide) rfl w4_134 rfl rfl rfl rfl dX3_cue_156 (fun σ hM => ?_)
                    refine n_aload_n C dX3_cue_159 rfl ?_
                    refine r_get (v := iv ((c 6 0) + 1)) C hM 6 (by decide) w4_134 rfl rfl dX3_cue_160 ?_
                    refine n_iconst (x := 1) C dX3_cue_163 ?_
                    refine n_isub C dX3_cue_164 ?_
                    exact n_ireturn C Rr rfl ⟨_, _, rfl, hM, (by rw [tu_k (by decide), tu_k (by decide), tu_k (by decide), tu_k (by decide), tu_k (by decide)]; exact h26.trans hcd.symm), fun _ => ⟨by first | rfl | omega, (by rw [cut_tuc (by decide), cut_tuc (by decide), cut_tuc (by decide), cut_tuc (by decide), cut_tuc (by decide), hc]; rfl)⟩, fun q => absurd hcd q⟩ (by omega) (by omega) dX3_cue_165
                  · exfalso; omega
                · refine n_iconst (x := 3) C dX3_cue_95 ?_
                  refine n_goto C 100 dX3_cue_96 (by decide) ?_
                  refine n_invV C (c_can hst (by omega) I hM hc) ⟨w4_221, w4_224, w1_5, ⟨by decide, by decide⟩, by show _ = some 1; decide +kernel, by decide⟩ w4_223 wp_24 hM.1 (show vwCl[6]? = some ("OperaMachinesModel", TX3, 27) from rfl) (by decide) (by omega) (by omega) (Nat.le_of_ble_eq_true rfl) rfl dX3_cue_100 (fun r σ h => ?_) (fun _ _ h => h.elim)
                  obtain ⟨xc, M1, rfl, hM, hc, h26, hxc⟩ := h
                  refine n_if_ne C 108 dX3_cue_103 (by decide) (by unfold rg; omega) (fun b103 => ?_) (fun b103 => ?_)
                  · exfalso; omega
                  · have hcd : cdCue c a b t z = 3 := by unfold cdCue; rw [if_pos (by omega), if_pos (by rw [if_pos (by omega)]; omega), if_pos (by omega)]
                    refine n_iconst (x := 0) C dX3_cue_106 ?_
                    exact n_ireturn C Rr rfl ⟨_, _, rfl, hM, h26.trans hcd.symm, fun q => absurd (hcd.symm.trans q) (by decide), fun _ => hc⟩ (by omega) (by omega) dX3_cue_107
              · exfalso; omega
            · exfalso; omega
      · refine n_sipush (x := 359) C dX3_cue_37 (by decide) ?_
        refine n_goto C 46 dX3_cue_40 (by decide) ?_
        refine n_invS C (c_isIn hst (by unfold rg; omega) (by unfold rg; omega) (by unfold rg; omega)) ⟨w4_218, w4_220, w1_5, ⟨by decide, by decide⟩, by show _ = some 3; decide +kernel, by decide⟩ w4_219 (by decide) (by omega) (by omega) (Nat.le_of_ble_eq_true rfl) rfl dX3_cue_46 (fun r σ' h => ?_) (fun _ _ h => h.elim)
        obtain ⟨x37, rfl, rfl, hx37⟩ := h
        refine n_if_eq C 64 dX3_cue_49 (by decide) (by unfold rg; omega) (fun b49 => ?_) (fun b49 => ?_)
        · refine n_iconst (x := 0) C dX3_cue_64 ?_
          refine n_istore (lv' := [(6, iv 0), (5, iv x0), (0, .ref o), (1, iv a), (2, iv b), (3, iv t), (4, iv z)]) C dX3_cue_65 (by rw [hN]; decide) rfl ?_
          refine n_aload_n C dX3_cue_67 rfl ?_
          refine n_iload C dX3_cue_68 rfl ?_
          refine n_if_ne C 77 dX3_cue_70 (by decide) (by unfold rg; omega) (fun b70 => ?_) (fun b70 => ?_)
          · refine n_iload C dX3_cue_77 rfl ?_
            refine n_if_ne C 86 dX3_cue_79 (by decide) (by unfold rg; omega) (fun b79 => ?_) (fun b79 => ?_)
            · exfalso; omega
            · refine n_iconst (x := 2) C dX3_cue_82 ?_
              refine n_goto C 100 dX3_cue_83 (by decide) ?_
              refine n_invV C (c_can hst (by omega) I hM hc) ⟨w4_221, w4_224, w1_5, ⟨by decide, by decide⟩, by show _ = some 1; decide +kernel, by decide⟩ w4_223 wp_24 hM.1 (show vwCl[6]? = some ("OperaMachinesModel", TX3, 27) from rfl) (by decide) (by omega) (by omega) (Nat.le_of_ble_eq_true rfl) rfl dX3_cue_100 (fun r σ h => ?_) (fun _ _ h => h.elim)
              obtain ⟨xc, M1, rfl, hM, hc, h26, hxc⟩ := h
              refine n_if_ne C 108 dX3_cue_103 (by decide) (by unfold rg; omega) (fun b103 => ?_) (fun b103 => ?_)
              · exfalso; omega
              · have hcd : cdCue c a b t z = 2 := by unfold cdCue; rw [if_pos (by omega), if_neg (by rw [if_neg (by omega)]; omega)]
                refine n_iconst (x := 0) C dX3_cue_106 ?_
                exact n_ireturn C Rr rfl ⟨_, _, rfl, hM, h26.trans hcd.symm, fun q => absurd (hcd.symm.trans q) (by decide), fun _ => hc⟩ (by omega) (by omega) dX3_cue_107
          · exfalso; omega
        · refine n_iload C dX3_cue_52 rfl ?_
          refine n_invS C (c_isWorker hst (by unfold rg; omega)) ⟨w5_1, w5_3, w1_5, ⟨by decide, by decide⟩, by show _ = some 1; decide +kernel, by decide⟩ w5_2 (by decide) (by omega) (by omega) (Nat.le_of_ble_eq_true rfl) rfl dX3_cue_54 (fun r σ' h => ?_) (fun _ _ h => h.elim)
          obtain ⟨x52, rfl, rfl, hx52⟩ := h
          refine n_if_eq C 64 dX3_cue_57 (by decide) (by unfold rg; omega) (fun b57 => ?_) (fun b57 => ?_)
          · refine n_iconst (x := 0) C dX3_cue_64 ?_
            refine n_istore (lv' := [(6, iv 0), (5, iv x0), (0, .ref o), (1, iv a), (2, iv b), (3, iv t), (4, iv z)]) C dX3_cue_65 (by rw [hN]; decide) rfl ?_
            refine n_aload_n C dX3_cue_67 rfl ?_
            refine n_iload C dX3_cue_68 rfl ?_
            refine n_if_ne C 77 dX3_cue_70 (by decide) (by unfold rg; omega) (fun b70 => ?_) (fun b70 => ?_)
            · refine n_iload C dX3_cue_77 rfl ?_
              refine n_if_ne C 86 dX3_cue_79 (by decide) (by unfold rg; omega) (fun b79 => ?_) (fun b79 => ?_)
              · exfalso; omega
              · refine n_iconst (x := 2) C dX3_cue_82 ?_
                refine n_goto C 100 dX3_cue_83 (by decide) ?_
                refine n_invV C (c_can hst (by omega) I hM hc) ⟨w4_221, w4_224, w1_5, ⟨by decide, by decide⟩, by show _ = some 1; decide +kernel, by decide⟩ w4_223 wp_24 hM.1 (show vwCl[6]? = some ("OperaMachinesModel", TX3, 27) from rfl) (by decide) (by omega) (by omega) (Nat.le_of_ble_eq_true rfl) rfl dX3_cue_100 (fun r σ h => ?_) (fun _ _ h => h.elim)
                obtain ⟨xc, M1, rfl, hM, hc, h26, hxc⟩ := h
                refine n_if_ne C 108 dX3_cue_103 (by decide) (by unfold rg; omega) (fun b103 => ?_) (fun b103 => ?_)
                · exfalso; omega
                · have hcd : cdCue c a b t z = 2 := by unfold cdCue; rw [if_pos (by omega), if_neg (by rw [if_neg (by omega)]; omega)]
                  refine n_iconst (x := 0) C dX3_cue_106 ?_
                  exact n_ireturn C Rr rfl ⟨_, _, rfl, hM, h26.trans hcd.symm, fun q => absurd (hcd.symm.trans q) (by decide), fun _ => hc⟩ (by omega) (by omega) dX3_cue_107
            · exfalso; omega
          · refine n_iconst (x := 1) C dX3_cue_60 ?_
            refine n_goto C 65 dX3_cue_61 (by decide) ?_
            refine n_istore (lv' := [(6, iv 1), (5, iv x0), (0, .ref o), (1, iv a), (2, iv b), (3, iv t), (4, iv z)]) C dX3_cue_65 (by rw [hN]; decide) rfl ?_
            refine n_aload_n C dX3_cue_67 rfl ?_
            refine n_iload C dX3_cue_68 rfl ?_
            refine n_if_ne C 77 dX3_cue_70 (by decide) (by unfold rg; omega) (fun b70 => ?_) (fun b70 => ?_)
            · refine n_iload C dX3_cue_77 rfl ?_
              refine n_if_ne C 86 dX3_cue_79 (by decide) (by unfold rg; omega) (fun b79 => ?_) (fun b79 => ?_)
              · refine n_aload_n C dX3_cue_86 rfl ?_
                refine r_get (v := iv (c 6 0)) C hM 6 (by decide) w4_134 rfl (congrArg (fun z => some (iv z)) (cut_at hc (by decide) 0)) dX3_cue_87 ?_
                refine n_bipush (x := 24) C dX3_cue_90 (by decide) ?_
                refine n_icmp_ne C 99 dX3_cue_92 (by decide) (by unfold rg; omega) (by unfold rg; omega) (fun b92 => ?_) (fun b92 => ?_)
                · refine n_iconst (x := 0) C dX3_cue_99 ?_
                  refine n_invV C (c_can hst (by omega) I hM hc) ⟨w4_221, w4_224, w1_5, ⟨by decide, by decide⟩, by show _ = some 1; decide +kernel, by decide⟩ w4_223 wp_24 hM.1 (show vwCl[6]? = some ("OperaMachinesModel", TX3, 27) from rfl) (by decide) (by omega) (by omega) (Nat.le_of_ble_eq_true rfl) rfl dX3_cue_100 (fun r σ h => ?_) (fun _ _ h => h.elim)
                  obtain ⟨xc, M1, rfl, hM, hc, h26, hxc⟩ := h
                  refine n_if_ne C 108 dX3_cue_103 (by decide) (by unfold rg; omega) (fun b103 => ?_) (fun b103 => ?_)
                  · have hcd : cdCue c a b t z = 0 := by unfold cdCue; rw [if_pos (by omega), if_pos (by rw [if_neg (by omega)]; omega), if_neg (by omega)]
                    refine n_aload_n C dX3_cue_108 rfl ?_
                    refine r_get C hM 8 (by decide) w4_136 rfl rfl dX3_cue_109 ?_
                    refine n_aload_n C dX3_cue_112 rfl ?_
                    refine r_get (v := iv (c 6 0)) C hM 6 (by decide) w4_134 rfl (congrArg (fun z => some (iv z)) (cut_at hc (by decide) 0)) dX3_cue_113 ?_
                    refine n_iload_n C dX3_cue_116 rfl ?_
                    refine r_iast C I hM 8 rfl rfl (((c 6 0)).toNat) (by omega) (show _ < 24 by omega) dX3_cue_117 (fun σ hM => ?_)
                    refine n_aload_n C dX3_cue_118 rfl ?_
                    refine r_get C hM 7 (by decide) w4_135 rfl rfl dX3_cue_119 ?_
                    refine n_aload_n C dX3_cue_122 rfl ?_
                    refine r_get (v := iv (c 6 0)) C hM 6 (by decide) w4_134 rfl (congrArg (fun z => some (iv z)) (cut_at hc (by decide) 0)) dX3_cue_123 ?_
                    refine n_iload_n C dX3_cue_126 rfl ?_
                    refine r_iast C I hM 7 rfl rfl (((c 6 0)).toNat) (by omega) (show _ < 24 by omega) dX3_cue_127 (fun σ hM => ?_)
                    refine n_aload_n C dX3_cue_128 rfl ?_
                    refine r_get C hM 9 (by decide) w4_137 rfl rfl dX3_cue_129 ?_
                    refine n_aload_n C dX3_cue_132 rfl ?_
                    refine r_get (v := iv (c 6 0)) C hM 6 (by decide) w4_134 rfl (congrArg (fun z => some (iv z)) (cut_at hc (by decide) 0)) dX3_cue_133 ?_
                    refine n_iload_n C dX3_cue_136 rfl ?_
                    refine r_iast C I hM 9 rfl rfl (((c 6 0)).toNat) (by omega) (show _ < 24 by omega) dX3_cue_137 (fun σ hM => ?_)
                    refine n_aload_n C dX3_cue_138 rfl ?_
                    refine r_get C hM 10 (by decide) w4_138 rfl rfl dX3_cue_139 ?_
                    refine n_aload_n C dX3_cue_142 rfl ?_
                    refine r_get (v := iv (c 6 0)) C hM 6 (by decide) w4_134 rfl (congrArg (fun z => some (iv z)) (cut_at hc (by decide) 0)) dX3_cue_143 ?_
                    refine n_iload C dX3_cue_146 rfl ?_
                    refine r_iast C I hM 10 rfl rfl (((c 6 0)).toNat) (by omega) (show _ < 24 by omega) dX3_cue_148 (fun σ hM => ?_)
                    refine n_aload_n C dX3_cue_149 rfl ?_
                    refine n_dup C dX3_cue_150 rfl ?_
                    refine r_get (v := iv (c 6 0)) C hM 6 (by decide) w4_134 rfl (congrArg (fun z => some (iv z)) (cut_at hc (by decide) 0)) dX3_cue_151 ?_
                    refine n_iconst (x := 1) C dX3_cue_154 ?_
                    refine n_iadd C dX3_cue_155 ?_
                    refine r_put C I hM 6 (by decide) rfl w4_134 rfl rfl rfl rfl dX3_cue_156 (fun σ hM => ?_)
                    refine n_aload_n C dX3_cue_159 rfl ?_
                    refine r_get (v := iv ((c 6 0) + 1)) C hM 6 (by decide) w4_134 rfl rfl dX3_cue_160 ?_
                    refine n_iconst (x := 1) C dX3_cue_163 ?_
                    refine n_isub C dX3_cue_164 ?_
                    exact n_ireturn C Rr rfl ⟨_, _, rfl, hM, (by rw [tu_k (by decide), tu_k (by decide), tu_k (by decide), tu_k (by decide), tu_k (by decide)]; exact h26.trans hcd.symm), fun _ => ⟨by first | rfl | omega, (by rw [cut_tuc (by decide), cut_tuc (by decide), cut_tuc (by decide), cut_tuc (by decide), cut_tuc (by decide), hc]; rfl)⟩, fun q => absurd hcd q⟩ (by omega) (by omega) dX3_cue_165
                  · exfalso; omega
                · refine n_iconst (x := 3) C dX3_cue_95 ?_
                  refine n_goto C 100 dX3_cue_96 (by decide) ?_
                  refine n_invV C (c_can hst (by omega) I hM hc) ⟨w4_221, w4_224, w1_5, ⟨by decide, by decide⟩, by show _ = some 1; decide +kernel, by decide⟩ w4_223 wp_24 hM.1 (show vwCl[6]? = some ("OperaMachinesModel", TX3, 27) from rfl) (by decide) (by omega) (by omega) (Nat.le_of_ble_eq_true rfl) rfl dX3_cue_100 (fun r σ h => ?_) (fun _ _ h => h.elim)
                  obtain ⟨xc, M1, rfl, hM, hc, h26, hxc⟩ := h
                  refine n_if_ne C 108 dX3_cue_103 (by decide) (by unfold rg; omega) (fun b103 => ?_) (fun b103 => ?_)
                  · exfalso; omega
                  · have hcd : cdCue c a b t z = 3 := by unfold cdCue; rw [if_pos (by omega), if_pos (by rw [if_neg (by omega)]; omega), if_pos (by omega)]
                    refine n_iconst (x := 0) C dX3_cue_106 ?_
                    exact n_ireturn C Rr rfl ⟨_, _, rfl, hM, h26.trans hcd.symm, fun q => absurd (hcd.symm.trans q) (by decide), fun _ => hc⟩ (by omega) (by omega) dX3_cue_107
              · exfalso; omega
            · exfalso; omega
