section MK
theorem vC3 : vwCl[3]? = some ("OperaMachines$Cue", TX0, 6) := rfl
theorem vC4 : vwCl[4]? = some ("OperaMachines$Machine", TX1, 7) := rfl
theorem vC5 : vwCl[5]? = some ("OperaMachines", TX2, 10) := rfl
theorem vI3 : fG "OperaMachines$Cue" TX0 6 := by
  unfold fG
  decide +kernel
theorem vI4 : fG "OperaMachines$Machine" TX1 7 := by
  unfold fG
  decide +kernel
theorem vI5 : fG "OperaMachines" TX2 10 := by
  unfold fG
  decide +kernel
theorem obj3 {σ : Wd} {y : Nat} {fs : List Value} (h : σ y = some (.inr (3, fs))) : obj σ y := ⟨3, fs, _, h, vC3, t4_140⟩
theorem obj4 {σ : Wd} {y : Nat} {fs : List Value} (h : σ y = some (.inr (4, fs))) : obj σ y := ⟨4, fs, _, h, vC4, t4_145⟩
/-- a machine's way to a target, upwards above 0; of none, 0 -/
def wayV (tk pl aim : Int) : Int := if tk = -1 then (if 180 < (aim - pl) % 360 then (aim - pl) % 360 - 360 else (aim - pl) % 360) else aim - pl
def wyO (rn : Option Nat) (tk pl aim : Int) : Int := match rn with
  | none => 0
  | some _ => wayV tk pl aim
/-- ticks to it; a run of some ticks, of reach z -/
def tkV (sp way : Int) : Int := ((if 0 ≤ way then way else -way) + sp - 1) / sp
def stV (z way : Int) : Int := max (-z) (min z way)
def goV (tk pl s : Int) : Int := if tk = -1 then (pl + s) % 360 else pl + s
theorem wyO_rg {rn : Option Nat} {tk pl aim : Int} (h1 : 0 ≤ pl ∧ pl ≤ 359) (h2 : 0 ≤ aim ∧ aim ≤ 359) : -359 ≤ wyO rn tk pl aim ∧ wyO rn tk pl aim ≤ 359 := by
  unfold wyO wayV
  split
  · omega
  · (repeat' split) <;> omega
end MK
