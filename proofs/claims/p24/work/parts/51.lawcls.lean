theorem WF_outP {c : Tb} (hw : WF c) {a : Int} (h : cdIs c a = 0) : WF (nxOut c a) := by
  unfold cdIs at h
  refine WF_out hw ?_
  split at h <;> omega
set_option maxRecDepth 100000 in
set_option maxHeartbeats 4000000 in
theorem s_bar {g : Gx} (hst : g.1.stackTraces = false)  {x am aq ac az : Nat} {c d : Tb} {σ : Wd} (hJ : SJ g x am aq ac az c d σ) : CT g yX2_bar cX2_bar 1 (some .int) 3 0 0 [.ref x] σ (fun r σ' => r = some (iv (lenB c (c 14 0))) ∧ SJ g x am aq ac az c d σ') (fun _ _ => False) := by
  obtain ⟨hdis, ⟨A, D, rfl, hM, hI, hw, hown⟩, hAR⟩ := id hJ
  refine CT.imp (p_bar hst  hM hw hI) (fun r σ' h' => ?_) (fun E σ' h' => ?_)
  · obtain ⟨x, D', rfl, hB, rfl⟩ := h'
    exact ⟨rfl, SJ.cls hdis rfl hown hAR (GW.own hB rfl rfl rfl rfl) hI hw⟩
  · exact h'
set_option maxRecDepth 100000 in
set_option maxHeartbeats 4000000 in
theorem s_end {g : Gx} (hst : g.1.stackTraces = false)  {x am aq ac az : Nat} {c d : Tb} {σ : Wd} (hJ : SJ g x am aq ac az c d σ) : CT g yX2_end cX2_end 1 (some .int) 3 0 0 [.ref x] σ (fun r σ' => r = some (iv (c 12 0 * lenB c (c 14 0))) ∧ SJ g x am aq ac az c d σ') (fun _ _ => False) := by
  obtain ⟨hdis, ⟨A, D, rfl, hM, hI, hw, hown⟩, hAR⟩ := id hJ
  refine CT.imp (p_end hst  hM hw hI) (fun r σ' h' => ?_) (fun E σ' h' => ?_)
  · obtain ⟨x, D', rfl, hB, rfl⟩ := h'
    exact ⟨rfl, SJ.cls hdis rfl hown hAR (GW.own hB rfl rfl rfl rfl) hI hw⟩
  · exact h'
set_option maxRecDepth 100000 in
set_option maxHeartbeats 4000000 in
theorem s_meeting {g : Gx} (hst : g.1.stackTraces = false)  {x am aq ac az : Nat} {c d : Tb} {σ : Wd} (hJ : SJ g x am aq ac az c d σ) : CT g yX2_meeting cX2_meeting 1 (some .int) 5 0 0 [.ref x] σ (fun r σ' => r = some (iv ((mtP c (LL c) (NT c (LL c) + 1)).1)) ∧ SJ g x am aq ac az c d σ') (fun _ _ => False) := by
  obtain ⟨hdis, ⟨A, D, rfl, hM, hI, hw, hown⟩, hAR⟩ := id hJ
  refine CT.imp (p_meeting hst  hM hw hI) (fun r σ' h' => ?_) (fun E σ' h' => ?_)
  · obtain ⟨x, D', rfl, hB, rfl⟩ := h'
    exact ⟨rfl, SJ.cls hdis rfl hown hAR (GW.own hB rfl rfl rfl rfl) hI hw⟩
  · exact h'
set_option maxRecDepth 100000 in
set_option maxHeartbeats 4000000 in
theorem s_meeters {g : Gx} (hst : g.1.stackTraces = false)  {x am aq ac az : Nat} {c d : Tb} {σ : Wd} (hJ : SJ g x am aq ac az c d σ) : CT g yX2_meeters cX2_meeters 1 (some .int) 5 0 0 [.ref x] σ (fun r σ' => r = some (iv ((mtP c (LL c) (NT c (LL c) + 1)).2)) ∧ SJ g x am aq ac az c d σ') (fun _ _ => False) := by
  obtain ⟨hdis, ⟨A, D, rfl, hM, hI, hw, hown⟩, hAR⟩ := id hJ
  refine CT.imp (p_meeters hst  hM hw hI) (fun r σ' h' => ?_) (fun E σ' h' => ?_)
  · obtain ⟨x, D', rfl, hB, rfl⟩ := h'
    exact ⟨rfl, SJ.cls hdis rfl hown hAR (GW.own hB rfl rfl rfl rfl) hI hw⟩
  · exact h'
set_option maxRecDepth 100000 in
set_option maxHeartbeats 4000000 in
theorem s_fastest {g : Gx} (hst : g.1.stackTraces = false)  {x am aq ac az : Nat} {c d : Tb} {σ : Wd} (hJ : SJ g x am aq ac az c d σ) : CT g yX2_fastest cX2_fastest 2 (some .int) 6 0 0 [.ref x] σ (fun r σ' => r = some (iv (fsF c 16)) ∧ SJ g x am aq ac az c d σ') (fun _ _ => False) := by
  obtain ⟨hdis, ⟨A, D, rfl, hM, hI, hw, hown⟩, hAR⟩ := id hJ
  refine CT.imp (p_fastest hst  hM hw hI) (fun r σ' h' => ?_) (fun E σ' h' => ?_)
  · obtain ⟨x, D', rfl, hB, rfl⟩ := h'
    exact ⟨rfl, SJ.cls hdis rfl hown hAR (GW.own hB rfl rfl rfl rfl) hI hw⟩
  · exact h'
set_option maxRecDepth 100000 in
set_option maxHeartbeats 4000000 in
theorem s_isFine {g : Gx} (hst : g.1.stackTraces = false)  {x am aq ac az : Nat} {c d : Tb} {σ : Wd} (hJ : SJ g x am aq ac az c d σ) : CT g yX2_isFine cX2_isFine 1 (some .boolean) 6 0 0 [.ref x] σ (fun r σ' => ∃ y : Int, r = some (iv y) ∧ ((y = 1 ∧ FINE c (LL c)) ∨ (y = 0 ∧ ¬ FINE c (LL c))) ∧ SJ g x am aq ac az c d σ') (fun _ _ => False) := by
  obtain ⟨hdis, ⟨A, D, rfl, hM, hI, hw, hown⟩, hAR⟩ := id hJ
  refine CT.imp (p_isFine hst  hM hw hI) (fun r σ' h' => ?_) (fun E σ' h' => ?_)
  · obtain ⟨x, D', rfl, hB, hx⟩ := h'
    exact ⟨x, rfl, hx, SJ.cls hdis rfl hown hAR (GW.own hB rfl rfl rfl rfl) hI hw⟩
  · exact h'
set_option maxRecDepth 100000 in
set_option maxHeartbeats 4000000 in
theorem s_place {g : Gx} (hst : g.1.stackTraces = false) {a1 : Int} (ha1 : rg a1) {a2 : Int} (ha2 : rg a2) {x am aq ac az : Nat} {c d : Tb} {σ : Wd} (hJ : SJ g x am aq ac az c d σ) (hcd : cdPlace c a1 a2 = 0) : CT g yX2_place cX2_place 8 (some .int) 4 2 12 [.ref x, iv a1, iv a2] σ (fun r σ' => r = some (iv (vlPlace c a1 a2)) ∧ SJ g x am aq ac az c d σ') (fun _ _ => False) := by
  obtain ⟨hdis, ⟨A, D, rfl, hM, hI, hw, hown⟩, hAR⟩ := id hJ
  refine CT.imp (p_place hst ha1 ha2 hM hw hI) (fun r σ' h' => ?_) (fun E σ' h' => ?_)
  · obtain ⟨x, D', rfl, hB, hcd, rfl⟩ := h'
    exact ⟨rfl, SJ.cls hdis rfl hown hAR (GW.own hB rfl rfl rfl rfl) hI hw⟩
  · obtain ⟨-, h⟩ := h'
    first | (rcases h with h | h | h <;> omega) | (rcases h with h | h <;> omega) | omega
set_option maxRecDepth 100000 in
set_option maxHeartbeats 4000000 in
theorem s_placeAtBar {g : Gx} (hst : g.1.stackTraces = false) {a1 : Int} (ha1 : rg a1) {a2 : Int} (ha2 : rg a2) {x am aq ac az : Nat} {c d : Tb} {σ : Wd} (hJ : SJ g x am aq ac az c d σ) (hcd : cdBar c a1 a2 = 0) : CT g yX2_placeAtBar cX2_placeAtBar 6 (some .int) 4 2 12 [.ref x, iv a1, iv a2] σ (fun r σ' => r = some (iv ((tr c (LL c) a1.toNat (a2.toNat * LL c)).1)) ∧ SJ g x am aq ac az c d σ') (fun _ _ => False) := by
  obtain ⟨hdis, ⟨A, D, rfl, hM, hI, hw, hown⟩, hAR⟩ := id hJ
  refine CT.imp (p_placeAtBar hst ha1 ha2 hM hw hI) (fun r σ' h' => ?_) (fun E σ' h' => ?_)
  · obtain ⟨x, D', rfl, hB, hcd, rfl⟩ := h'
    exact ⟨rfl, SJ.cls hdis rfl hown hAR (GW.own hB rfl rfl rfl rfl) hI hw⟩
  · obtain ⟨-, h⟩ := h'
    first | (rcases h with h | h | h <;> omega) | (rcases h with h | h <;> omega) | omega
set_option maxRecDepth 100000 in
set_option maxHeartbeats 4000000 in
theorem s_worker {g : Gx} (hst : g.1.stackTraces = false) {a1 : Int} (ha1 : rg a1) {x am aq ac az : Nat} {c d : Tb} {σ : Wd} (hJ : SJ g x am aq ac az c d σ) (hcd : cdIs c a1 = 0) : CT g yX2_worker cX2_worker 2 (some .int) 4 1 6 [.ref x, iv a1] σ (fun r σ' => r = some (iv (vlWorker c a1)) ∧ SJ g x am aq ac az c d σ') (fun _ _ => False) := by
  obtain ⟨hdis, ⟨A, D, rfl, hM, hI, hw, hown⟩, hAR⟩ := id hJ
  refine CT.imp (p_worker hst ha1 hM hw hI) (fun r σ' h' => ?_) (fun E σ' h' => ?_)
  · obtain ⟨x, D', rfl, hB, hcd, rfl⟩ := h'
    exact ⟨rfl, SJ.cls hdis rfl hown hAR (GW.own hB rfl rfl rfl rfl) hI hw⟩
  · obtain ⟨-, h⟩ := h'
    first | (rcases h with h | h | h <;> omega) | (rcases h with h | h <;> omega) | omega
set_option maxRecDepth 100000 in
set_option maxHeartbeats 4000000 in
theorem s_clashes {g : Gx} (hst : g.1.stackTraces = false) {a1 : Int} (ha1 : rg a1) {x am aq ac az : Nat} {c d : Tb} {σ : Wd} (hJ : SJ g x am aq ac az c d σ) (hcd : cdWork a1 = 0) : CT g yX2_clashes cX2_clashes 3 (some .int) 5 1 6 [.ref x, iv a1] σ (fun r σ' => r = some (iv (vlClashes c a1)) ∧ SJ g x am aq ac az c d σ') (fun _ _ => False) := by
  obtain ⟨hdis, ⟨A, D, rfl, hM, hI, hw, hown⟩, hAR⟩ := id hJ
  refine CT.imp (p_clashes hst ha1 hM hw hI) (fun r σ' h' => ?_) (fun E σ' h' => ?_)
  · obtain ⟨x, D', rfl, hB, hcd, rfl⟩ := h'
    exact ⟨rfl, SJ.cls hdis rfl hown hAR (GW.own hB rfl rfl rfl rfl) hI hw⟩
  · obtain ⟨-, h⟩ := h'
    first | (rcases h with h | h | h <;> omega) | (rcases h with h | h <;> omega) | omega
set_option maxRecDepth 100000 in
set_option maxHeartbeats 4000000 in
theorem s_overtime {g : Gx} (hst : g.1.stackTraces = false) {a1 : Int} (ha1 : rg a1) {x am aq ac az : Nat} {c d : Tb} {σ : Wd} (hJ : SJ g x am aq ac az c d σ) (hcd : cdWork a1 = 0) : CT g yX2_overtime cX2_overtime 9 (some .int) 5 1 6 [.ref x, iv a1] σ (fun r σ' => r = some (iv (vlOver c a1)) ∧ SJ g x am aq ac az c d σ') (fun _ _ => False) := by
  obtain ⟨hdis, ⟨A, D, rfl, hM, hI, hw, hown⟩, hAR⟩ := id hJ
  refine CT.imp (p_overtime hst ha1 hM hw hI) (fun r σ' h' => ?_) (fun E σ' h' => ?_)
  · obtain ⟨x, D', rfl, hB, hcd, rfl⟩ := h'
    exact ⟨rfl, SJ.cls hdis rfl hown hAR (GW.own hB rfl rfl rfl rfl) hI hw⟩
  · obtain ⟨-, h⟩ := h'
    first | (rcases h with h | h | h <;> omega) | (rcases h with h | h <;> omega) | omega
set_option maxRecDepth 100000 in
set_option maxHeartbeats 4000000 in
theorem s_setTempo {g : Gx} (hst : g.1.stackTraces = false) {a1 : Int} (ha1 : rg a1) {x am aq ac az : Nat} {c d : Tb} {σ : Wd} (hJ : SJ g x am aq ac az c d σ) (hcd : cdTempo a1 = 0) : CT g yX2_setTempo cX2_setTempo 3 (some .int) 4 1 6 [.ref x, iv a1] σ (fun r σ' => r = some (iv (c 14 0)) ∧ SJ g x am aq ac az (nxTempo c a1) d σ') (fun _ _ => False) := by
  obtain ⟨hdis, ⟨A, D, rfl, hM, hI, hw, hown⟩, hAR⟩ := id hJ
  refine CT.imp (p_setTempo hst ha1 hM hw hI) (fun r σ' h' => ?_) (fun E σ' h' => ?_)
  · obtain ⟨x, rfl, hB, hI', hcd, rfl⟩ := h'
    exact ⟨rfl, SJ.cls hdis rfl hown hAR (GW.own hB rfl rfl rfl rfl) hI' (WF_tempo hw hcd)⟩
  · obtain ⟨-, h⟩ := h'
    first | (rcases h with h | h | h <;> omega) | (rcases h with h | h <;> omega) | omega
set_option maxRecDepth 100000 in
set_option maxHeartbeats 4000000 in
theorem s_setRules {g : Gx} (hst : g.1.stackTraces = false) {a1 : Int} (ha1 : rg a1) {a2 : Int} (ha2 : rg a2) {x am aq ac az : Nat} {c d : Tb} {σ : Wd} (hJ : SJ g x am aq ac az c d σ) (hcd : cdRules a1 a2 = 0) : CT g yX2_setRules cX2_setRules 3 none 4 1 6 [.ref x, iv a1, iv a2] σ (fun r σ' => r = none ∧ SJ g x am aq ac az (nxRules c a1 a2) d σ') (fun _ _ => False) := by
  obtain ⟨hdis, ⟨A, D, rfl, hM, hI, hw, hown⟩, hAR⟩ := id hJ
  refine CT.imp (p_setRules hst ha1 ha2 hM hw hI) (fun r σ' h' => ?_) (fun E σ' h' => ?_)
  · obtain ⟨rfl, hB, hI', hcd⟩ := h'
    exact ⟨rfl, SJ.cls hdis rfl hown hAR (GW.own hB rfl rfl rfl rfl) hI' (WF_rules hw hcd)⟩
  · obtain ⟨-, h⟩ := h'
    first | (rcases h with h | h | h <;> omega) | (rcases h with h | h <;> omega) | omega
set_option maxRecDepth 100000 in
set_option maxHeartbeats 4000000 in
theorem s_strike {g : Gx} (hst : g.1.stackTraces = false) {a1 : Int} (ha1 : rg a1) {a2 : Int} (ha2 : a2 = 0 ∨ a2 = 1) {x am aq ac az : Nat} {c d : Tb} {σ : Wd} (hJ : SJ g x am aq ac az c d σ) (hcd : cdWork a1 = 0) : CT g yX2_strike cX2_strike 4 (some .boolean) 4 1 6 [.ref x, iv a1, iv a2] σ (fun r σ' => r = some (iv (c 17 a1.toNat)) ∧ SJ g x am aq ac az (nxStrike c a1 a2) d σ') (fun _ _ => False) := by
  obtain ⟨hdis, ⟨A, D, rfl, hM, hI, hw, hown⟩, hAR⟩ := id hJ
  refine CT.imp (p_strike hst ha1 ha2 hM hw hI) (fun r σ' h' => ?_) (fun E σ' h' => ?_)
  · obtain ⟨x, rfl, hB, hI', hcd, rfl⟩ := h'
    exact ⟨rfl, SJ.cls hdis rfl hown hAR (GW.own hB rfl rfl rfl rfl) hI' (WF_strike hw ha2)⟩
  · obtain ⟨-, h⟩ := h'
    first | (rcases h with h | h | h <;> omega) | (rcases h with h | h <;> omega) | omega
set_option maxRecDepth 100000 in
set_option maxHeartbeats 4000000 in
theorem s_substitute {g : Gx} (hst : g.1.stackTraces = false) {a1 : Int} (ha1 : rg a1) {a2 : Int} (ha2 : rg a2) {x am aq ac az : Nat} {c d : Tb} {σ : Wd} (hJ : SJ g x am aq ac az c d σ) (hcd : cdSub a1 a2 = 0) : CT g yX2_substitute cX2_substitute 4 (some .int) 4 1 6 [.ref x, iv a1, iv a2] σ (fun r σ' => r = some (iv (c 18 a1.toNat)) ∧ SJ g x am aq ac az (nxSub c a1 a2) d σ') (fun _ _ => False) := by
  obtain ⟨hdis, ⟨A, D, rfl, hM, hI, hw, hown⟩, hAR⟩ := id hJ
  refine CT.imp (p_substitute hst ha1 ha2 hM hw hI) (fun r σ' h' => ?_) (fun E σ' h' => ?_)
  · obtain ⟨x, rfl, hB, hI', hcd, rfl⟩ := h'
    exact ⟨rfl, SJ.cls hdis rfl hown hAR (GW.own hB rfl rfl rfl rfl) hI' (WF_sub hw hcd)⟩
  · obtain ⟨-, h⟩ := h'
    first | (rcases h with h | h | h <;> omega) | (rcases h with h | h <;> omega) | omega
set_option maxRecDepth 100000 in
set_option maxHeartbeats 4000000 in
theorem s_setScore {g : Gx} (hst : g.1.stackTraces = false) {a1 : Int} (ha1 : rg a1) {a2 : Int} (ha2 : rg a2) {x am aq ac az : Nat} {c d : Tb} {σ : Wd} (hJ : SJ g x am aq ac az c d σ) : CT g yX2_setScore cX2_setScore 5 none 4 2 12 [.ref x, iv a1, iv a2] σ (fun r σ' => r = none ∧ SJ g x am aq ac az (nxScore c a1 a2) d σ' ∧ cdScore c a1 a2 = 0) (fun E σ' => SJ g x am aq ac az c d σ' ∧ ((E = "java/lang/IllegalArgumentException" ∧ cdScore c a1 a2 = 1) ∨ (E = "java/lang/IllegalStateException" ∧ cdScore c a1 a2 = 2))) := by
  obtain ⟨hdis, ⟨A, D, rfl, hM, hI, hw, hown⟩, hAR⟩ := id hJ
  refine CT.imp (p_setScore hst ha1 ha2 hM hw hI) (fun r σ' h' => ?_) (fun E σ' h' => ?_)
  · obtain ⟨rfl, hB, hI', hcd⟩ := h'
    exact ⟨rfl, SJ.cls hdis rfl hown hAR (GW.own hB rfl rfl rfl rfl) hI' (WF_score hw hcd), hcd⟩
  · obtain ⟨rfl, h⟩ := h'
    exact ⟨hJ, h⟩
set_option maxRecDepth 100000 in
set_option maxHeartbeats 4000000 in
theorem s_strikeOut {g : Gx} (hst : g.1.stackTraces = false) {a1 : Int} (ha1 : rg a1) {x am aq ac az : Nat} {c d : Tb} {σ : Wd} (hJ : SJ g x am aq ac az c d σ) : CT g yX2_strikeOut cX2_strikeOut 3 (some .int) 4 1 6 [.ref x, iv a1] σ (fun r σ' => r = some (iv (c 7 a1.toNat)) ∧ SJ g x am aq ac az (nxOut c a1) d σ' ∧ cdIs c a1 = 0) (fun E σ' => SJ g x am aq ac az c d σ' ∧ ((E = "java/lang/IndexOutOfBoundsException" ∧ cdIs c a1 = 1))) := by
  obtain ⟨hdis, ⟨A, D, rfl, hM, hI, hw, hown⟩, hAR⟩ := id hJ
  refine CT.imp (p_strikeOut hst ha1 hM hw hI) (fun r σ' h' => ?_) (fun E σ' h' => ?_)
  · obtain ⟨x, e, rfl, hB, hI', hcd, rfl⟩ := h'
    exact ⟨rfl, SJ.cls hdis rfl hown hAR (GW.own hB rfl rfl rfl rfl) hI' (WF_outP hw hcd), hcd⟩
  · obtain ⟨rfl, h⟩ := h'
    exact ⟨hJ, h⟩
set_option maxRecDepth 100000 in
set_option maxHeartbeats 4000000 in
theorem s_wagon {g : Gx} (hst : g.1.stackTraces = false) {a1 : Int} (ha1 : rg a1) {a2 : Int} (ha2 : rg a2) {a3 : Int} (ha3 : rg a3) {a4 : Int} (ha4 : rg a4) {x am aq ac az : Nat} {c d : Tb} {σ : Wd} (hJ : SJ g x am aq ac az c d σ) (hcd : cdWagon c a1 a2 a3 a4 = 0) : CT g yX2_wagon cX2_wagon 5 (some .int) 8 5 113 [.ref x, iv a1, iv a2, iv a3, iv a4] σ (fun r σ' => r = some (iv (c 0 0)) ∧ SJ g x am aq ac az (nxWagon c a1 a2 a3 a4) d σ') (fun _ _ => False) := by
  obtain ⟨hdis, ⟨A, D, rfl, hM, hI, hw, hown⟩, hAR⟩ := id hJ
  refine CT.imp (p_wagon hst ha1 ha2 ha3 ha4 hM hw hI) (fun r σ' h' => ?_) (fun E σ' h' => ?_)
  · obtain ⟨x, A', D', rfl, hG, hI', hcd, rfl⟩ := h'
    exact ⟨rfl, SJ.cls hdis rfl hown hAR hG hI' (WF_wagon hw hcd)⟩
  · obtain ⟨-, h⟩ := h'
    first | (rcases h with h | h | h <;> omega) | (rcases h with h | h <;> omega) | omega
set_option maxRecDepth 100000 in
set_option maxHeartbeats 4000000 in
theorem s_turntable {g : Gx} (hst : g.1.stackTraces = false) {a1 : Int} (ha1 : rg a1) {a2 : Int} (ha2 : rg a2) {x am aq ac az : Nat} {c d : Tb} {σ : Wd} (hJ : SJ g x am aq ac az c d σ) (hcd : cdTable c a1 a2 = 0) : CT g yX2_turntable cX2_turntable 3 (some .int) 8 5 113 [.ref x, iv a1, iv a2] σ (fun r σ' => r = some (iv (c 0 0)) ∧ SJ g x am aq ac az (nxTable c a1 a2) d σ') (fun _ _ => False) := by
  obtain ⟨hdis, ⟨A, D, rfl, hM, hI, hw, hown⟩, hAR⟩ := id hJ
  refine CT.imp (p_turntable hst ha1 ha2 hM hw hI) (fun r σ' h' => ?_) (fun E σ' h' => ?_)
  · obtain ⟨x, A', D', rfl, hG, hI', hcd, rfl⟩ := h'
    exact ⟨rfl, SJ.cls hdis rfl hown hAR hG hI' (WF_table hw hcd)⟩
  · obtain ⟨-, h⟩ := h'
    first | (rcases h with h | h | h <;> omega) | (rcases h with h | h <;> omega) | omega
set_option maxRecDepth 100000 in
set_option maxHeartbeats 4000000 in
theorem s_cue {g : Gx} (hst : g.1.stackTraces = false) {a1 : Int} (ha1 : rg a1) {a2 : Int} (ha2 : rg a2) {a3 : Int} (ha3 : rg a3) {a4 : Int} (ha4 : rg a4) {x am aq ac az : Nat} {c d : Tb} {σ : Wd} (hJ : SJ g x am aq ac az c d σ) (hcd : cdCue c a1 a2 a3 a4 = 0) : CT g yX2_cue cX2_cue 7 (some .int) 6 5 146 [.ref x, iv a1, iv a2, iv a3, iv a4] σ (fun r σ' => r = some (iv (c 6 0)) ∧ SJ g x am aq ac az (nxCue c a1 a2 a3 a4) d σ') (fun _ _ => False) := by
  obtain ⟨hdis, ⟨A, D, rfl, hM, hI, hw, hown⟩, hAR⟩ := id hJ
  refine CT.imp (p_cue hst ha1 ha2 ha3 ha4 hM hw hI) (fun r σ' h' => ?_) (fun E σ' h' => ?_)
  · obtain ⟨x, A', D', rfl, hG, hI', hcd, rfl⟩ := h'
    exact ⟨rfl, SJ.cls hdis rfl hown hAR hG hI' (WF_cue hw hcd)⟩
  · obtain ⟨-, h⟩ := h'
    first | (rcases h with h | h | h <;> omega) | (rcases h with h | h <;> omega) | omega
set_option maxRecDepth 100000 in
set_option maxHeartbeats 4000000 in
theorem s_takes {g : Gx} (hst : g.1.stackTraces = false) {a1 : Int} (ha1 : rg a1) {x am aq ac az : Nat} {c d : Tb} {σ : Wd} (hJ : SJ g x am aq ac az c d σ) (hcd : cdIs c a1 = 0) : CT g yX2_takes cX2_takes 3 (some .int) 5 1 6 [.ref x, iv a1] σ (fun r σ' => r = some (iv (vlTakes c a1)) ∧ SJ g x am aq ac az c d σ') (fun _ _ => False) := by
  obtain ⟨hdis, ⟨A, D, rfl, hM, hI, hw, hown⟩, hAR⟩ := id hJ
  refine CT.imp (p_takes hst ha1 hM hw hI) (fun r σ' h' => ?_) (fun E σ' h' => ?_)
  · obtain ⟨x, D', rfl, hB, hcd, rfl⟩ := h'
    exact ⟨rfl, SJ.cls hdis rfl hown hAR (GW.own hB rfl rfl rfl rfl) hI hw⟩
  · obtain ⟨-, h⟩ := h'
    first | (rcases h with h | h | h <;> omega) | (rcases h with h | h <;> omega) | omega
set_option maxRecDepth 100000 in
set_option maxHeartbeats 4000000 in
theorem s_takesX {g : Gx} (hst : g.1.stackTraces = false) {a1 : Int} (ha1 : rg a1) {x am aq ac az : Nat} {c d : Tb} {σ : Wd} (hJ : SJ g x am aq ac az c d σ) : CT g yX2_takes cX2_takes 3 (some .int) 5 1 6 [.ref x, iv a1] σ (fun r σ' => r = some (iv (vlTakes c a1)) ∧ SJ g x am aq ac az c d σ' ∧ cdIs c a1 = 0) (fun E σ' => SJ g x am aq ac az c d σ' ∧ ((E = "java/lang/IndexOutOfBoundsException" ∧ cdIs c a1 = 1))) := by
  obtain ⟨hdis, ⟨A, D, rfl, hM, hI, hw, hown⟩, hAR⟩ := id hJ
  refine CT.imp (p_takes hst ha1 hM hw hI) (fun r σ' h' => ?_) (fun E σ' h' => ?_)
  · obtain ⟨x, D', rfl, hB, hcd, rfl⟩ := h'
    exact ⟨rfl, SJ.cls hdis rfl hown hAR (GW.own hB rfl rfl rfl rfl) hI hw, hcd⟩
  · obtain ⟨rfl, h⟩ := h'
    exact ⟨hJ, h⟩
