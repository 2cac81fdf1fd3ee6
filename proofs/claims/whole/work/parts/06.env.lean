/-! what the class's throws need -/
def IOB : String := "java/lang/IndexOutOfBoundsException"
def IAE : String := "java/lang/IllegalArgumentException"
abbrev EXN : List String := ["java/lang/RuntimeException", "java/lang/Exception"]
abbrev ssX (sa : Nat → Nat) : List (String × Nat × String × Nat) := [(RT, 22, "a side is not 1 .. 32", sa 0), (RT, 35, "a sample is not 0 .. 255", sa 1), (RT, 114, "no such plane", sa 2), (RT, 117, "no such sample", sa 3)]
abbrev nnX : List (String × Nat × MethodName × String) := [(RP, 37, yT_placeOf, "ToneMixer"), (RT, 15, yP_init, "ToneMixer")]
def ddX : List MethodName := [⟨"java/lang/RuntimeException", "<init>", "(Ljava/lang/String;)V"⟩, ⟨"java/lang/Exception", "<init>", "(Ljava/lang/String;)V"⟩, ⟨"java/lang/Throwable", "<init>", "(Ljava/lang/String;)V"⟩]
def csX : List (String × String) := [(IOB, IOB), (IAE, IAE)]
abbrev zEx (sa : Nat → Nat) : (Nat → Prop) → State → Prop := zEv (ssX sa) nnX ddX csX
set_option maxRecDepth 100000 in
theorem at_O : ∀ w ∈ (vx_atS RT 116 IOB EXN).filter goodWord, w ∈ bw := by decide +kernel
set_option maxRecDepth 100000 in
theorem at_A : ∀ w ∈ (vx_atS RT 24 IAE EXN).filter goodWord, w ∈ bw := by decide +kernel
theorem an_O : ∀ w ∈ (vx_atS RT 116 IOB EXN).filter (fun w => !goodWord w), w ∈ zNg ddX csX := by decide +kernel
theorem an_A : ∀ w ∈ (vx_atS RT 24 IAE EXN).filter (fun w => !goodWord w), w ∈ zNg ddX csX := by decide +kernel
theorem ag_O : ∀ w ∈ Cond.classLink RT 112 IOB :: Cond.initialized IOB :: vx_atS RT 116 IOB EXN, vx_ot w = true := by decide +kernel
theorem ag_A : ∀ w ∈ Cond.classLink RT 20 IAE :: Cond.initialized IAE :: vx_atS RT 24 IAE EXN, vx_ot w = true := by decide +kernel
theorem af_O : Bundle.fit IOB = true := by decide +kernel
theorem af_A : Bundle.fit IAE = true := by decide +kernel
theorem af_N : ∀ n ∈ EXN, Bundle.fit n = true := by decide +kernel
