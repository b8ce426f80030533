section TH
def exIA : List String := ["java/lang/RuntimeException", "java/lang/Exception"]
def exIO : List String := ["java/lang/RuntimeException", "java/lang/Exception"]
theorem atIA : (∀ w ∈ vx_atS "OperaMachines" 178 "java/lang/IllegalArgumentException" exIA, w ∈ GT) ∧ ∀ w ∈ Cond.classLink "OperaMachines" 174 "java/lang/IllegalArgumentException" :: Cond.initialized "java/lang/IllegalArgumentException" :: vx_atS "OperaMachines" 178 "java/lang/IllegalArgumentException" exIA, vx_ot w = true := by
  constructor <;> decide +kernel
theorem atIS : (∀ w ∈ vx_atS "OperaMachines" 87 "java/lang/IllegalStateException" exIA, w ∈ GT) ∧ ∀ w ∈ Cond.classLink "OperaMachines" 83 "java/lang/IllegalStateException" :: Cond.initialized "java/lang/IllegalStateException" :: vx_atS "OperaMachines" 87 "java/lang/IllegalStateException" exIA, vx_ot w = true := by
  constructor <;> decide +kernel
theorem atIO : (∀ w ∈ vx_atS "OperaMachines" 183 "java/lang/IndexOutOfBoundsException" exIO, w ∈ GT) ∧ ∀ w ∈ Cond.classLink "OperaMachines" 179 "java/lang/IndexOutOfBoundsException" :: Cond.initialized "java/lang/IndexOutOfBoundsException" :: vx_atS "OperaMachines" 183 "java/lang/IndexOutOfBoundsException" exIO, vx_ot w = true := by
  constructor <;> decide +kernel
end TH
