def RP : String := "ToneMixer$Plane"
def TP : u_T := fun k => match k with
  | 0 => ("ToneMixer$Plane", "samples", "[I", true)
  | 1 => ("ToneMixer$Plane", "w", "I", false)
  | 2 => ("ToneMixer$Plane", "h", "I", false)
  | _ => ("ToneMixer$Plane", "line", "[I", true)
def tyP : Nat → FieldType := fun k => match k with
  | 0 => .array .int
  | 1 => .int
  | 2 => .int
  | _ => .array .int
theorem nmP : ∀ a, a < 4 → ∀ b, b < 4 → a ≠ b → (TP a).2.1 ≠ (TP b).2.1 := by decide +kernel
theorem tyP_ok : ∀ k, k < 4 → parseFieldDescriptor (TP k).2.2.1 = some (tyP k) := by decide +kernel
def RT : String := "ToneMixer"
def TT : u_T := fun k => match k with
  | _ => ("ToneMixer", "planes", "[LToneMixer$Plane;", true)
def tyT : Nat → FieldType := fun k => match k with
  | _ => .array (.object "ToneMixer$Plane")
theorem nmT : ∀ a, a < 1 → ∀ b, b < 1 → a ≠ b → (TT a).2.1 ≠ (TT b).2.1 := by decide +kernel
theorem tyT_ok : ∀ k, k < 1 → parseFieldDescriptor (TT k).2.2.1 = some (tyT k) := by decide +kernel
def RM : String := "ToneMixerModel"
def TM : u_T := fun k => match k with
  | 0 => ("ToneMixerModel", "thrown", "I", false)
  | 1 => ("ToneMixerModel", "w", "[I", true)
  | 2 => ("ToneMixerModel", "h", "[I", true)
  | 3 => ("ToneMixerModel", "sample", "[I", true)
  | 4 => ("ToneMixerModel", "old", "[I", true)
  | 5 => ("ToneMixerModel", "oldW", "I", false)
  | _ => ("ToneMixerModel", "oldH", "I", false)
def tyM : Nat → FieldType := fun k => match k with
  | 0 => .int
  | 1 => .array .int
  | 2 => .array .int
  | 3 => .array .int
  | 4 => .array .int
  | 5 => .int
  | _ => .int
theorem nmM : ∀ a, a < 7 → ∀ b, b < 7 → a ≠ b → (TM a).2.1 ≠ (TM b).2.1 := by decide +kernel
theorem tyM_ok : ∀ k, k < 7 → parseFieldDescriptor (TM k).2.2.1 = some (tyM k) := by decide +kernel
def RL : String := "ToneMixerLaw"
def RA : String := "java/util/Arrays"
abbrev vwCl : List vw_C := [(RT, TT, 1), (RP, TP, 4), (RM, TM, 7)]
/-- the words of the tables that go along with every call -/
def bw : List Cond := lw_tbl.filter goodWord
theorem bw_in {w : Cond} (h : w ∈ bw) : w ∈ lw_tbl := (List.mem_filter.mp h).1
theorem bw_good {w : Cond} (h : w ∈ bw) : (w.onTables && w.keeps) = true ∨ ∃ ty, w = .arrayClass ty := good_of_word (List.mem_filter.mp h).2
theorem bwm {w : Cond} (i : Nat) (h : tables_1[i]? = some w) (hg : goodWord w = true) : w ∈ bw := List.mem_filter.mpr ⟨List.mem_append_right _ (List.mem_of_getElem? h), hg⟩
theorem bws {w : Cond} (i : Nat) (h : (k2_sels lw_privs)[i]? = some w) (hg : goodWord w = true) : w ∈ bw := List.mem_filter.mpr ⟨List.mem_append_left _ (List.mem_of_getElem? h), hg⟩
theorem bwT {w a : Cond} (h : w ∈ bw) : w ∈ a :: bw := List.mem_cons_of_mem _ h
theorem gd_V {a cw : Cond} {own C : String} {idx : Nat} {y : MethodName} (h1 : Cond.methodLink own idx y ∈ bw) (h2 : Cond.instanceMethod y ∈ bw) (h3 : Cond.selects C y y ∈ bw) (h4 : Cond.initialized C ∈ bw) (h5 : cw ∈ bw) : GoodIn (a :: bw) (wsV own idx C y (cw :: bw)) := by
  intro w hw
  have hb : w ∈ bw := by
    rcases List.mem_append.mp hw with h | h
    · simp only [List.mem_cons, List.not_mem_nil, or_false] at h
      rcases h with rfl | rfl | rfl | rfl
      · exact h1
      · exact h2
      · exact h3
      · exact h4
    · rcases List.mem_cons.mp h with rfl | h
      · exact h5
      · exact h
  exact ⟨bwT hb, bw_good hb⟩
theorem gd_S {a cw : Cond} {own : String} {idx : Nat} {y : MethodName} (h1 : Cond.methodLink own idx y ∈ bw) (h2 : Cond.static y ∈ bw) (h4 : Cond.initialized y.cls ∈ bw) (h5 : cw ∈ bw) : GoodIn (a :: bw) (va_wsS own idx y (cw :: bw)) := by
  intro w hw
  have hb : w ∈ bw := by
    rcases List.mem_append.mp hw with h | h
    · simp only [List.mem_cons, List.not_mem_nil, or_false] at h
      rcases h with rfl | rfl | rfl
      · exact h1
      · exact h2
      · exact h4
    · rcases List.mem_cons.mp h with rfl | h
      · exact h5
      · exact h
  exact ⟨bwT hb, bw_good hb⟩
theorem gd_0 {a cw : Cond} (h5 : cw ∈ bw) : GoodIn (a :: bw) (cw :: bw) := by
  intro w hw
  have hb : w ∈ bw := by
    rcases List.mem_cons.mp hw with rfl | h
    · exact h5
    · exact h
  exact ⟨bwT hb, bw_good hb⟩
abbrev cT_init : ByteArray := prog_1_method_1_code
def yT_init : MethodName := ⟨RT, "<init>", "()V"⟩
abbrev kT_init : Cond := .code yT_init cT_init 2 none
abbrev wT_init : List Cond := kT_init :: bw
theorem qT_init : yT_init.cls = RT ∧ yT_init.cls ≠ "java/lang/invoke/MethodHandle" ∧ yT_init.cls ≠ "java/lang/invoke/VarHandle" ∧ (parseMethodDescriptor yT_init.desc).map (fun d => d.parameters.length) = some 0 := by decide +kernel
abbrev cP_init : ByteArray := prog_2_method_1_code
def yP_init : MethodName := ⟨RP, "<init>", "()V"⟩
abbrev kP_init : Cond := .code yP_init cP_init 1 none
abbrev wP_init : List Cond := kP_init :: bw
theorem qP_init : yP_init.cls = RP ∧ yP_init.cls ≠ "java/lang/invoke/MethodHandle" ∧ yP_init.cls ≠ "java/lang/invoke/VarHandle" ∧ (parseMethodDescriptor yP_init.desc).map (fun d => d.parameters.length) = some 0 := by decide +kernel
abbrev cT_mix : ByteArray := prog_1_method_7_code
def yT_mix : MethodName := ⟨RT, "mix", "(I)Z"⟩
abbrev kT_mix : Cond := .code yT_mix cT_mix 4 (some .boolean)
abbrev wT_mix : List Cond := kT_mix :: bw
theorem qT_mix : yT_mix.cls = RT ∧ yT_mix.cls ≠ "java/lang/invoke/MethodHandle" ∧ yT_mix.cls ≠ "java/lang/invoke/VarHandle" ∧ (parseMethodDescriptor yT_mix.desc).map (fun d => d.parameters.length) = some 1 := by decide +kernel
abbrev cT_firstAreOfOneSize : ByteArray := prog_1_method_19_code
def yT_firstAreOfOneSize : MethodName := ⟨RT, "firstAreOfOneSize", "(I)Z"⟩
abbrev kT_firstAreOfOneSize : Cond := .code yT_firstAreOfOneSize cT_firstAreOfOneSize 3 (some .boolean)
abbrev wT_firstAreOfOneSize : List Cond := kT_firstAreOfOneSize :: bw
theorem qT_firstAreOfOneSize : yT_firstAreOfOneSize.cls = RT ∧ yT_firstAreOfOneSize.cls ≠ "java/lang/invoke/MethodHandle" ∧ yT_firstAreOfOneSize.cls ≠ "java/lang/invoke/VarHandle" ∧ (parseMethodDescriptor yT_firstAreOfOneSize.desc).map (fun d => d.parameters.length) = some 1 := by decide +kernel
abbrev cP_isOfSizeOf : ByteArray := prog_2_method_3_code
def yP_isOfSizeOf : MethodName := ⟨RP, "isOfSizeOf", "(LToneMixer$Plane;)Z"⟩
abbrev kP_isOfSizeOf : Cond := .code yP_isOfSizeOf cP_isOfSizeOf 2 (some .boolean)
abbrev wP_isOfSizeOf : List Cond := kP_isOfSizeOf :: bw
theorem qP_isOfSizeOf : yP_isOfSizeOf.cls = RP ∧ yP_isOfSizeOf.cls ≠ "java/lang/invoke/MethodHandle" ∧ yP_isOfSizeOf.cls ≠ "java/lang/invoke/VarHandle" ∧ (parseMethodDescriptor yP_isOfSizeOf.desc).map (fun d => d.parameters.length) = some 1 := by decide +kernel
abbrev cT_placeOf : ByteArray := prog_1_method_17_code
def yT_placeOf : MethodName := ⟨RT, "placeOf", "(II)I"⟩
abbrev kT_placeOf : Cond := .code yT_placeOf cT_placeOf 2 (some .int)
abbrev wT_placeOf : List Cond := kT_placeOf :: bw
theorem qT_placeOf : yT_placeOf.cls = RT ∧ yT_placeOf.cls ≠ "java/lang/invoke/MethodHandle" ∧ yT_placeOf.cls ≠ "java/lang/invoke/VarHandle" ∧ (parseMethodDescriptor yT_placeOf.desc).map (fun d => d.parameters.length) = some 2 := by decide +kernel
abbrev cT_mixPlace : ByteArray := prog_1_method_20_code
def yT_mixPlace : MethodName := ⟨RT, "mixPlace", "(II)V"⟩
abbrev kT_mixPlace : Cond := .code yT_mixPlace cT_mixPlace 3 none
abbrev wT_mixPlace : List Cond := kT_mixPlace :: bw
theorem qT_mixPlace : yT_mixPlace.cls = RT ∧ yT_mixPlace.cls ≠ "java/lang/invoke/MethodHandle" ∧ yT_mixPlace.cls ≠ "java/lang/invoke/VarHandle" ∧ (parseMethodDescriptor yT_mixPlace.desc).map (fun d => d.parameters.length) = some 2 := by decide +kernel
abbrev cT_open : ByteArray := prog_1_method_21_code
def yT_open : MethodName := ⟨RT, "open", "(I)V"⟩
abbrev kT_open : Cond := .code yT_open cT_open 5 none
abbrev wT_open : List Cond := kT_open :: bw
theorem qT_open : yT_open.cls = RT ∧ yT_open.cls ≠ "java/lang/invoke/MethodHandle" ∧ yT_open.cls ≠ "java/lang/invoke/VarHandle" ∧ (parseMethodDescriptor yT_open.desc).map (fun d => d.parameters.length) = some 1 := by decide +kernel
abbrev cT_shifted : ByteArray := prog_1_method_29_code
def yT_shifted : MethodName := ⟨RT, "shifted", "(I)I"⟩
abbrev kT_shifted : Cond := .code yT_shifted cT_shifted 1 (some .int)
abbrev wT_shifted : List Cond := kT_shifted :: bw
theorem qT_shifted : yT_shifted.cls = RT ∧ yT_shifted.cls ≠ "java/lang/invoke/MethodHandle" ∧ yT_shifted.cls ≠ "java/lang/invoke/VarHandle" ∧ (parseMethodDescriptor yT_shifted.desc).map (fun d => d.parameters.length) = some 1 := by decide +kernel
abbrev cT_limit : ByteArray := prog_1_method_30_code
def yT_limit : MethodName := ⟨RT, "limit", "(I)I"⟩
abbrev kT_limit : Cond := .code yT_limit cT_limit 1 (some .int)
abbrev wT_limit : List Cond := kT_limit :: bw
theorem qT_limit : yT_limit.cls = RT ∧ yT_limit.cls ≠ "java/lang/invoke/MethodHandle" ∧ yT_limit.cls ≠ "java/lang/invoke/VarHandle" ∧ (parseMethodDescriptor yT_limit.desc).map (fun d => d.parameters.length) = some 1 := by decide +kernel
abbrev cT_setColours : ByteArray := prog_1_method_26_code
def yT_setColours : MethodName := ⟨RT, "setColours", "(IIII)V"⟩
abbrev kT_setColours : Cond := .code yT_setColours cT_setColours 5 none
abbrev wT_setColours : List Cond := kT_setColours :: bw
theorem qT_setColours : yT_setColours.cls = RT ∧ yT_setColours.cls ≠ "java/lang/invoke/MethodHandle" ∧ yT_setColours.cls ≠ "java/lang/invoke/VarHandle" ∧ (parseMethodDescriptor yT_setColours.desc).map (fun d => d.parameters.length) = some 4 := by decide +kernel
abbrev cT_close : ByteArray := prog_1_method_22_code
def yT_close : MethodName := ⟨RT, "close", "(I)V"⟩
abbrev kT_close : Cond := .code yT_close cT_close 5 none
abbrev wT_close : List Cond := kT_close :: bw
theorem qT_close : yT_close.cls = RT ∧ yT_close.cls ≠ "java/lang/invoke/MethodHandle" ∧ yT_close.cls ≠ "java/lang/invoke/VarHandle" ∧ (parseMethodDescriptor yT_close.desc).map (fun d => d.parameters.length) = some 1 := by decide +kernel
abbrev cT_brightness : ByteArray := prog_1_method_28_code
def yT_brightness : MethodName := ⟨RT, "brightness", "(III)I"⟩
abbrev kT_brightness : Cond := .code yT_brightness cT_brightness 3 (some .int)
abbrev wT_brightness : List Cond := kT_brightness :: bw
theorem qT_brightness : yT_brightness.cls = RT ∧ yT_brightness.cls ≠ "java/lang/invoke/MethodHandle" ∧ yT_brightness.cls ≠ "java/lang/invoke/VarHandle" ∧ (parseMethodDescriptor yT_brightness.desc).map (fun d => d.parameters.length) = some 3 := by decide +kernel
abbrev cT_invert : ByteArray := prog_1_method_23_code
def yT_invert : MethodName := ⟨RT, "invert", "(I)V"⟩
abbrev kT_invert : Cond := .code yT_invert cT_invert 2 none
abbrev wT_invert : List Cond := kT_invert :: bw
theorem qT_invert : yT_invert.cls = RT ∧ yT_invert.cls ≠ "java/lang/invoke/MethodHandle" ∧ yT_invert.cls ≠ "java/lang/invoke/VarHandle" ∧ (parseMethodDescriptor yT_invert.desc).map (fun d => d.parameters.length) = some 1 := by decide +kernel
abbrev cT_darken : ByteArray := prog_1_method_24_code
def yT_darken : MethodName := ⟨RT, "darken", "(I)V"⟩
abbrev kT_darken : Cond := .code yT_darken cT_darken 3 none
abbrev wT_darken : List Cond := kT_darken :: bw
theorem qT_darken : yT_darken.cls = RT ∧ yT_darken.cls ≠ "java/lang/invoke/MethodHandle" ∧ yT_darken.cls ≠ "java/lang/invoke/VarHandle" ∧ (parseMethodDescriptor yT_darken.desc).map (fun d => d.parameters.length) = some 1 := by decide +kernel
abbrev cT_darkened : ByteArray := prog_1_method_27_code
def yT_darkened : MethodName := ⟨RT, "darkened", "(II)I"⟩
abbrev kT_darkened : Cond := .code yT_darkened cT_darkened 2 (some .int)
abbrev wT_darkened : List Cond := kT_darkened :: bw
theorem qT_darkened : yT_darkened.cls = RT ∧ yT_darkened.cls ≠ "java/lang/invoke/MethodHandle" ∧ yT_darkened.cls ≠ "java/lang/invoke/VarHandle" ∧ (parseMethodDescriptor yT_darkened.desc).map (fun d => d.parameters.length) = some 2 := by decide +kernel
abbrev cT_grey : ByteArray := prog_1_method_25_code
def yT_grey : MethodName := ⟨RT, "grey", "(I)V"⟩
abbrev kT_grey : Cond := .code yT_grey cT_grey 3 none
abbrev wT_grey : List Cond := kT_grey :: bw
theorem qT_grey : yT_grey.cls = RT ∧ yT_grey.cls ≠ "java/lang/invoke/MethodHandle" ∧ yT_grey.cls ≠ "java/lang/invoke/VarHandle" ∧ (parseMethodDescriptor yT_grey.desc).map (fun d => d.parameters.length) = some 1 := by decide +kernel
abbrev cL_size : ByteArray := method_3_code
def yL_size : MethodName := ⟨RL, "size", "(LToneMixer;III)I"⟩
abbrev kL_size : Cond := .codeWith yL_size cL_size 5 (some .int) [(0, 7, 10, 13), (0, 7, 14, 15)]
abbrev wL_size : List Cond := kL_size :: bw
theorem qL_size : yL_size.cls = RL ∧ yL_size.cls ≠ "java/lang/invoke/MethodHandle" ∧ yL_size.cls ≠ "java/lang/invoke/VarHandle" ∧ (parseMethodDescriptor yL_size.desc).map (fun d => d.parameters.length) = some 4 := by decide +kernel
abbrev cT_size : ByteArray := prog_1_method_2_code
def yT_size : MethodName := ⟨RT, "size", "(III)V"⟩
abbrev kT_size : Cond := .code yT_size cT_size 5 none
abbrev wT_size : List Cond := kT_size :: bw
theorem qT_size : yT_size.cls = RT ∧ yT_size.cls ≠ "java/lang/invoke/MethodHandle" ∧ yT_size.cls ≠ "java/lang/invoke/VarHandle" ∧ (parseMethodDescriptor yT_size.desc).map (fun d => d.parameters.length) = some 3 := by decide +kernel
abbrev cT_planeOf : ByteArray := prog_1_method_15_code
def yT_planeOf : MethodName := ⟨RT, "planeOf", "(I)LToneMixer$Plane;"⟩
abbrev kT_planeOf : Cond := .code yT_planeOf cT_planeOf 2 (some (.object "ToneMixer$Plane"))
abbrev wT_planeOf : List Cond := kT_planeOf :: bw
theorem qT_planeOf : yT_planeOf.cls = RT ∧ yT_planeOf.cls ≠ "java/lang/invoke/MethodHandle" ∧ yT_planeOf.cls ≠ "java/lang/invoke/VarHandle" ∧ (parseMethodDescriptor yT_planeOf.desc).map (fun d => d.parameters.length) = some 1 := by decide +kernel
abbrev cP_empty : ByteArray := prog_2_method_4_code
def yP_empty : MethodName := ⟨RP, "empty", "(II)V"⟩
abbrev kP_empty : Cond := .code yP_empty cP_empty 3 none
abbrev wP_empty : List Cond := kP_empty :: bw
theorem qP_empty : yP_empty.cls = RP ∧ yP_empty.cls ≠ "java/lang/invoke/MethodHandle" ∧ yP_empty.cls ≠ "java/lang/invoke/VarHandle" ∧ (parseMethodDescriptor yP_empty.desc).map (fun d => d.parameters.length) = some 2 := by decide +kernel
abbrev cA_fill : ByteArray := prog_13_method_103_code
def yA_fill : MethodName := ⟨RA, "fill", "([II)V"⟩
abbrev kA_fill : Cond := .code yA_fill cA_fill 4 none
abbrev wA_fill : List Cond := kA_fill :: bw
theorem qA_fill : yA_fill.cls = RA ∧ yA_fill.cls ≠ "java/lang/invoke/MethodHandle" ∧ yA_fill.cls ≠ "java/lang/invoke/VarHandle" ∧ (parseMethodDescriptor yA_fill.desc).map (fun d => d.parameters.length) = some 2 := by decide +kernel
abbrev cL_put : ByteArray := method_4_code
def yL_put : MethodName := ⟨RL, "put", "(LToneMixer;IIII)I"⟩
abbrev kL_put : Cond := .codeWith yL_put cL_put 6 (some .int) [(0, 9, 12, 13), (0, 9, 16, 15)]
abbrev wL_put : List Cond := kL_put :: bw
theorem qL_put : yL_put.cls = RL ∧ yL_put.cls ≠ "java/lang/invoke/MethodHandle" ∧ yL_put.cls ≠ "java/lang/invoke/VarHandle" ∧ (parseMethodDescriptor yL_put.desc).map (fun d => d.parameters.length) = some 5 := by decide +kernel
abbrev cT_put : ByteArray := prog_1_method_3_code
def yT_put : MethodName := ⟨RT, "put", "(IIII)V"⟩
abbrev kT_put : Cond := .code yT_put cT_put 6 none
abbrev wT_put : List Cond := kT_put :: bw
theorem qT_put : yT_put.cls = RT ∧ yT_put.cls ≠ "java/lang/invoke/MethodHandle" ∧ yT_put.cls ≠ "java/lang/invoke/VarHandle" ∧ (parseMethodDescriptor yT_put.desc).map (fun d => d.parameters.length) = some 4 := by decide +kernel
abbrev cT_planeWith : ByteArray := prog_1_method_16_code
def yT_planeWith : MethodName := ⟨RT, "planeWith", "(III)LToneMixer$Plane;"⟩
abbrev kT_planeWith : Cond := .code yT_planeWith cT_planeWith 5 (some (.object "ToneMixer$Plane"))
abbrev wT_planeWith : List Cond := kT_planeWith :: bw
theorem qT_planeWith : yT_planeWith.cls = RT ∧ yT_planeWith.cls ≠ "java/lang/invoke/MethodHandle" ∧ yT_planeWith.cls ≠ "java/lang/invoke/VarHandle" ∧ (parseMethodDescriptor yT_planeWith.desc).map (fun d => d.parameters.length) = some 3 := by decide +kernel
abbrev cP_has : ByteArray := prog_2_method_2_code
def yP_has : MethodName := ⟨RP, "has", "(II)Z"⟩
abbrev kP_has : Cond := .code yP_has cP_has 3 (some .boolean)
abbrev wP_has : List Cond := kP_has :: bw
theorem qP_has : yP_has.cls = RP ∧ yP_has.cls ≠ "java/lang/invoke/MethodHandle" ∧ yP_has.cls ≠ "java/lang/invoke/VarHandle" ∧ (parseMethodDescriptor yP_has.desc).map (fun d => d.parameters.length) = some 2 := by decide +kernel
abbrev cL_row : ByteArray := method_5_code
def yL_row : MethodName := ⟨RL, "row", "(LToneMixer;IIIJ)I"⟩
abbrev kL_row : Cond := .codeWith yL_row cL_row 7 (some .int) [(0, 9, 12, 13)]
abbrev wL_row : List Cond := kL_row :: bw
theorem qL_row : yL_row.cls = RL ∧ yL_row.cls ≠ "java/lang/invoke/MethodHandle" ∧ yL_row.cls ≠ "java/lang/invoke/VarHandle" ∧ (parseMethodDescriptor yL_row.desc).map (fun d => d.parameters.length) = some 5 := by decide +kernel
abbrev cT_row : ByteArray := prog_1_method_4_code
def yT_row : MethodName := ⟨RT, "row", "(IIIJ)V"⟩
abbrev kT_row : Cond := .code yT_row cT_row 8 none
abbrev wT_row : List Cond := kT_row :: bw
theorem qT_row : yT_row.cls = RT ∧ yT_row.cls ≠ "java/lang/invoke/MethodHandle" ∧ yT_row.cls ≠ "java/lang/invoke/VarHandle" ∧ (parseMethodDescriptor yT_row.desc).map (fun d => d.parameters.length) = some 4 := by decide +kernel
abbrev cT_shiftOfByte : ByteArray := prog_1_method_18_code
def yT_shiftOfByte : MethodName := ⟨RT, "shiftOfByte", "(I)I"⟩
abbrev kT_shiftOfByte : Cond := .code yT_shiftOfByte cT_shiftOfByte 1 (some .int)
abbrev wT_shiftOfByte : List Cond := kT_shiftOfByte :: bw
theorem qT_shiftOfByte : yT_shiftOfByte.cls = RT ∧ yT_shiftOfByte.cls ≠ "java/lang/invoke/MethodHandle" ∧ yT_shiftOfByte.cls ≠ "java/lang/invoke/VarHandle" ∧ (parseMethodDescriptor yT_shiftOfByte.desc).map (fun d => d.parameters.length) = some 1 := by decide +kernel
abbrev cL_grow : ByteArray := method_6_code
def yL_grow : MethodName := ⟨RL, "grow", "(LToneMixer;II[J)I"⟩
abbrev kL_grow : Cond := .codeWith yL_grow cL_grow 5 (some .int) [(0, 17, 20, 13)]
abbrev wL_grow : List Cond := kL_grow :: bw
theorem qL_grow : yL_grow.cls = RL ∧ yL_grow.cls ≠ "java/lang/invoke/MethodHandle" ∧ yL_grow.cls ≠ "java/lang/invoke/VarHandle" ∧ (parseMethodDescriptor yL_grow.desc).map (fun d => d.parameters.length) = some 4 := by decide +kernel
abbrev cT_grow : ByteArray := prog_1_method_5_code
def yT_grow : MethodName := ⟨RT, "grow", "(II)Z"⟩
abbrev kT_grow : Cond := .code yT_grow cT_grow 7 (some .boolean)
abbrev wT_grow : List Cond := kT_grow :: bw
theorem qT_grow : yT_grow.cls = RT ∧ yT_grow.cls ≠ "java/lang/invoke/MethodHandle" ∧ yT_grow.cls ≠ "java/lang/invoke/VarHandle" ∧ (parseMethodDescriptor yT_grow.desc).map (fun d => d.parameters.length) = some 2 := by decide +kernel
abbrev cP_growAcross : ByteArray := prog_2_method_6_code
def yP_growAcross : MethodName := ⟨RP, "growAcross", "(Z)V"⟩
abbrev kP_growAcross : Cond := .code yP_growAcross cP_growAcross 3 none
abbrev wP_growAcross : List Cond := kP_growAcross :: bw
theorem qP_growAcross : yP_growAcross.cls = RP ∧ yP_growAcross.cls ≠ "java/lang/invoke/MethodHandle" ∧ yP_growAcross.cls ≠ "java/lang/invoke/VarHandle" ∧ (parseMethodDescriptor yP_growAcross.desc).map (fun d => d.parameters.length) = some 1 := by decide +kernel
abbrev cP_growLine : ByteArray := prog_2_method_8_code
def yP_growLine : MethodName := ⟨RP, "growLine", "(IIIZ)V"⟩
abbrev kP_growLine : Cond := .code yP_growLine cP_growLine 9 none
abbrev wP_growLine : List Cond := kP_growLine :: bw
theorem qP_growLine : yP_growLine.cls = RP ∧ yP_growLine.cls ≠ "java/lang/invoke/MethodHandle" ∧ yP_growLine.cls ≠ "java/lang/invoke/VarHandle" ∧ (parseMethodDescriptor yP_growLine.desc).map (fun d => d.parameters.length) = some 4 := by decide +kernel
abbrev cP_growDown : ByteArray := prog_2_method_7_code
def yP_growDown : MethodName := ⟨RP, "growDown", "(Z)V"⟩
abbrev kP_growDown : Cond := .code yP_growDown cP_growDown 3 none
abbrev wP_growDown : List Cond := kP_growDown :: bw
theorem qP_growDown : yP_growDown.cls = RP ∧ yP_growDown.cls ≠ "java/lang/invoke/MethodHandle" ∧ yP_growDown.cls ≠ "java/lang/invoke/VarHandle" ∧ (parseMethodDescriptor yP_growDown.desc).map (fun d => d.parameters.length) = some 1 := by decide +kernel
abbrev cL_shrink : ByteArray := method_7_code
def yL_shrink : MethodName := ⟨RL, "shrink", "(LToneMixer;II[J)I"⟩
abbrev kL_shrink : Cond := .codeWith yL_shrink cL_shrink 5 (some .int) [(0, 17, 20, 13)]
abbrev wL_shrink : List Cond := kL_shrink :: bw
theorem qL_shrink : yL_shrink.cls = RL ∧ yL_shrink.cls ≠ "java/lang/invoke/MethodHandle" ∧ yL_shrink.cls ≠ "java/lang/invoke/VarHandle" ∧ (parseMethodDescriptor yL_shrink.desc).map (fun d => d.parameters.length) = some 4 := by decide +kernel
abbrev cT_shrink : ByteArray := prog_1_method_6_code
def yT_shrink : MethodName := ⟨RT, "shrink", "(II)Z"⟩
abbrev kT_shrink : Cond := .code yT_shrink cT_shrink 4 (some .boolean)
abbrev wT_shrink : List Cond := kT_shrink :: bw
theorem qT_shrink : yT_shrink.cls = RT ∧ yT_shrink.cls ≠ "java/lang/invoke/MethodHandle" ∧ yT_shrink.cls ≠ "java/lang/invoke/VarHandle" ∧ (parseMethodDescriptor yT_shrink.desc).map (fun d => d.parameters.length) = some 2 := by decide +kernel
abbrev cP_shrinkAcross : ByteArray := prog_2_method_9_code
def yP_shrinkAcross : MethodName := ⟨RP, "shrinkAcross", "()V"⟩
abbrev kP_shrinkAcross : Cond := .code yP_shrinkAcross cP_shrinkAcross 2 none
abbrev wP_shrinkAcross : List Cond := kP_shrinkAcross :: bw
theorem qP_shrinkAcross : yP_shrinkAcross.cls = RP ∧ yP_shrinkAcross.cls ≠ "java/lang/invoke/MethodHandle" ∧ yP_shrinkAcross.cls ≠ "java/lang/invoke/VarHandle" ∧ (parseMethodDescriptor yP_shrinkAcross.desc).map (fun d => d.parameters.length) = some 0 := by decide +kernel
abbrev cP_shrinkLine : ByteArray := prog_2_method_11_code
def yP_shrinkLine : MethodName := ⟨RP, "shrinkLine", "(III)V"⟩
abbrev kP_shrinkLine : Cond := .code yP_shrinkLine cP_shrinkLine 7 none
abbrev wP_shrinkLine : List Cond := kP_shrinkLine :: bw
theorem qP_shrinkLine : yP_shrinkLine.cls = RP ∧ yP_shrinkLine.cls ≠ "java/lang/invoke/MethodHandle" ∧ yP_shrinkLine.cls ≠ "java/lang/invoke/VarHandle" ∧ (parseMethodDescriptor yP_shrinkLine.desc).map (fun d => d.parameters.length) = some 3 := by decide +kernel
abbrev cP_half : ByteArray := prog_2_method_14_code
def yP_half : MethodName := ⟨RP, "half", "(I)I"⟩
abbrev kP_half : Cond := .code yP_half cP_half 1 (some .int)
abbrev wP_half : List Cond := kP_half :: bw
theorem qP_half : yP_half.cls = RP ∧ yP_half.cls ≠ "java/lang/invoke/MethodHandle" ∧ yP_half.cls ≠ "java/lang/invoke/VarHandle" ∧ (parseMethodDescriptor yP_half.desc).map (fun d => d.parameters.length) = some 1 := by decide +kernel
abbrev cP_shrinkDown : ByteArray := prog_2_method_10_code
def yP_shrinkDown : MethodName := ⟨RP, "shrinkDown", "()V"⟩
abbrev kP_shrinkDown : Cond := .code yP_shrinkDown cP_shrinkDown 2 none
abbrev wP_shrinkDown : List Cond := kP_shrinkDown :: bw
theorem qP_shrinkDown : yP_shrinkDown.cls = RP ∧ yP_shrinkDown.cls ≠ "java/lang/invoke/MethodHandle" ∧ yP_shrinkDown.cls ≠ "java/lang/invoke/VarHandle" ∧ (parseMethodDescriptor yP_shrinkDown.desc).map (fun d => d.parameters.length) = some 0 := by decide +kernel
abbrev cP_shrinkBoth : ByteArray := prog_2_method_12_code
def yP_shrinkBoth : MethodName := ⟨RP, "shrinkBoth", "()V"⟩
abbrev kP_shrinkBoth : Cond := .code yP_shrinkBoth cP_shrinkBoth 3 none
abbrev wP_shrinkBoth : List Cond := kP_shrinkBoth :: bw
theorem qP_shrinkBoth : yP_shrinkBoth.cls = RP ∧ yP_shrinkBoth.cls ≠ "java/lang/invoke/MethodHandle" ∧ yP_shrinkBoth.cls ≠ "java/lang/invoke/VarHandle" ∧ (parseMethodDescriptor yP_shrinkBoth.desc).map (fun d => d.parameters.length) = some 0 := by decide +kernel
abbrev cP_sumOfFour : ByteArray := prog_2_method_13_code
def yP_sumOfFour : MethodName := ⟨RP, "sumOfFour", "(II)I"⟩
abbrev kP_sumOfFour : Cond := .code yP_sumOfFour cP_sumOfFour 5 (some .int)
abbrev wP_sumOfFour : List Cond := kP_sumOfFour :: bw
theorem qP_sumOfFour : yP_sumOfFour.cls = RP ∧ yP_sumOfFour.cls ≠ "java/lang/invoke/MethodHandle" ∧ yP_sumOfFour.cls ≠ "java/lang/invoke/VarHandle" ∧ (parseMethodDescriptor yP_sumOfFour.desc).map (fun d => d.parameters.length) = some 2 := by decide +kernel
abbrev cL_copy : ByteArray := method_8_code
def yL_copy : MethodName := ⟨RL, "copy", "(LToneMixer;II)I"⟩
abbrev kL_copy : Cond := .codeWith yL_copy cL_copy 4 (some .int) [(0, 6, 9, 13)]
abbrev wL_copy : List Cond := kL_copy :: bw
theorem qL_copy : yL_copy.cls = RL ∧ yL_copy.cls ≠ "java/lang/invoke/MethodHandle" ∧ yL_copy.cls ≠ "java/lang/invoke/VarHandle" ∧ (parseMethodDescriptor yL_copy.desc).map (fun d => d.parameters.length) = some 3 := by decide +kernel
abbrev cT_copy : ByteArray := prog_1_method_8_code
def yT_copy : MethodName := ⟨RT, "copy", "(II)V"⟩
abbrev kT_copy : Cond := .code yT_copy cT_copy 5 none
abbrev wT_copy : List Cond := kT_copy :: bw
theorem qT_copy : yT_copy.cls = RT ∧ yT_copy.cls ≠ "java/lang/invoke/MethodHandle" ∧ yT_copy.cls ≠ "java/lang/invoke/VarHandle" ∧ (parseMethodDescriptor yT_copy.desc).map (fun d => d.parameters.length) = some 2 := by decide +kernel
abbrev cP_becomeLike : ByteArray := prog_2_method_5_code
def yP_becomeLike : MethodName := ⟨RP, "becomeLike", "(LToneMixer$Plane;)V"⟩
abbrev kP_becomeLike : Cond := .code yP_becomeLike cP_becomeLike 2 none
abbrev wP_becomeLike : List Cond := kP_becomeLike :: bw
theorem qP_becomeLike : yP_becomeLike.cls = RP ∧ yP_becomeLike.cls ≠ "java/lang/invoke/MethodHandle" ∧ yP_becomeLike.cls ≠ "java/lang/invoke/VarHandle" ∧ (parseMethodDescriptor yP_becomeLike.desc).map (fun d => d.parameters.length) = some 1 := by decide +kernel
abbrev cL_extend : ByteArray := method_9_code
def yL_extend : MethodName := ⟨RL, "extend", "(LToneMixer;III[J)I"⟩
abbrev kL_extend : Cond := .codeWith yL_extend cL_extend 6 (some .int) [(0, 19, 22, 13)]
abbrev wL_extend : List Cond := kL_extend :: bw
theorem qL_extend : yL_extend.cls = RL ∧ yL_extend.cls ≠ "java/lang/invoke/MethodHandle" ∧ yL_extend.cls ≠ "java/lang/invoke/VarHandle" ∧ (parseMethodDescriptor yL_extend.desc).map (fun d => d.parameters.length) = some 5 := by decide +kernel
abbrev cT_extend : ByteArray := prog_1_method_9_code
def yT_extend : MethodName := ⟨RT, "extend", "(III)Z"⟩
abbrev kT_extend : Cond := .code yT_extend cT_extend 5 (some .boolean)
abbrev wT_extend : List Cond := kT_extend :: bw
theorem qT_extend : yT_extend.cls = RT ∧ yT_extend.cls ≠ "java/lang/invoke/MethodHandle" ∧ yT_extend.cls ≠ "java/lang/invoke/VarHandle" ∧ (parseMethodDescriptor yT_extend.desc).map (fun d => d.parameters.length) = some 3 := by decide +kernel
abbrev cP_widen : ByteArray := prog_2_method_15_code
def yP_widen : MethodName := ⟨RP, "widen", "(I)V"⟩
abbrev kP_widen : Cond := .code yP_widen cP_widen 5 none
abbrev wP_widen : List Cond := kP_widen :: bw
theorem qP_widen : yP_widen.cls = RP ∧ yP_widen.cls ≠ "java/lang/invoke/MethodHandle" ∧ yP_widen.cls ≠ "java/lang/invoke/VarHandle" ∧ (parseMethodDescriptor yP_widen.desc).map (fun d => d.parameters.length) = some 1 := by decide +kernel
abbrev cP_deepen : ByteArray := prog_2_method_16_code
def yP_deepen : MethodName := ⟨RP, "deepen", "(I)V"⟩
abbrev kP_deepen : Cond := .code yP_deepen cP_deepen 5 none
abbrev wP_deepen : List Cond := kP_deepen :: bw
theorem qP_deepen : yP_deepen.cls = RP ∧ yP_deepen.cls ≠ "java/lang/invoke/MethodHandle" ∧ yP_deepen.cls ≠ "java/lang/invoke/VarHandle" ∧ (parseMethodDescriptor yP_deepen.desc).map (fun d => d.parameters.length) = some 1 := by decide +kernel
abbrev cL_cut : ByteArray := method_10_code
def yL_cut : MethodName := ⟨RL, "cut", "(LToneMixer;III[J)I"⟩
abbrev kL_cut : Cond := .codeWith yL_cut cL_cut 6 (some .int) [(0, 19, 22, 13)]
abbrev wL_cut : List Cond := kL_cut :: bw
theorem qL_cut : yL_cut.cls = RL ∧ yL_cut.cls ≠ "java/lang/invoke/MethodHandle" ∧ yL_cut.cls ≠ "java/lang/invoke/VarHandle" ∧ (parseMethodDescriptor yL_cut.desc).map (fun d => d.parameters.length) = some 5 := by decide +kernel
abbrev cT_cut : ByteArray := prog_1_method_10_code
def yT_cut : MethodName := ⟨RT, "cut", "(III)Z"⟩
abbrev kT_cut : Cond := .code yT_cut cT_cut 5 (some .boolean)
abbrev wT_cut : List Cond := kT_cut :: bw
theorem qT_cut : yT_cut.cls = RT ∧ yT_cut.cls ≠ "java/lang/invoke/MethodHandle" ∧ yT_cut.cls ≠ "java/lang/invoke/VarHandle" ∧ (parseMethodDescriptor yT_cut.desc).map (fun d => d.parameters.length) = some 3 := by decide +kernel
abbrev cL_at : ByteArray := method_11_code
def yL_at : MethodName := ⟨RL, "at", "(LToneMixer;III[J)I"⟩
abbrev kL_at : Cond := .codeWith yL_at cL_at 6 (some .int) [(0, 12, 15, 13)]
abbrev wL_at : List Cond := kL_at :: bw
theorem qL_at : yL_at.cls = RL ∧ yL_at.cls ≠ "java/lang/invoke/MethodHandle" ∧ yL_at.cls ≠ "java/lang/invoke/VarHandle" ∧ (parseMethodDescriptor yL_at.desc).map (fun d => d.parameters.length) = some 5 := by decide +kernel
abbrev cT_at : ByteArray := prog_1_method_11_code
def yT_at : MethodName := ⟨RT, "at", "(III)I"⟩
abbrev kT_at : Cond := .code yT_at cT_at 4 (some .int)
abbrev wT_at : List Cond := kT_at :: bw
theorem qT_at : yT_at.cls = RT ∧ yT_at.cls ≠ "java/lang/invoke/MethodHandle" ∧ yT_at.cls ≠ "java/lang/invoke/VarHandle" ∧ (parseMethodDescriptor yT_at.desc).map (fun d => d.parameters.length) = some 3 := by decide +kernel
abbrev cL_eight : ByteArray := method_12_code
def yL_eight : MethodName := ⟨RL, "eight", "(LToneMixer;III[J)I"⟩
abbrev kL_eight : Cond := .codeWith yL_eight cL_eight 6 (some .int) [(0, 11, 14, 13)]
abbrev wL_eight : List Cond := kL_eight :: bw
theorem qL_eight : yL_eight.cls = RL ∧ yL_eight.cls ≠ "java/lang/invoke/MethodHandle" ∧ yL_eight.cls ≠ "java/lang/invoke/VarHandle" ∧ (parseMethodDescriptor yL_eight.desc).map (fun d => d.parameters.length) = some 5 := by decide +kernel
abbrev cT_eight : ByteArray := prog_1_method_12_code
def yT_eight : MethodName := ⟨RT, "eight", "(III)J"⟩
abbrev kT_eight : Cond := .code yT_eight cT_eight 8 (some .long)
abbrev wT_eight : List Cond := kT_eight :: bw
theorem qT_eight : yT_eight.cls = RT ∧ yT_eight.cls ≠ "java/lang/invoke/MethodHandle" ∧ yT_eight.cls ≠ "java/lang/invoke/VarHandle" ∧ (parseMethodDescriptor yT_eight.desc).map (fun d => d.parameters.length) = some 3 := by decide +kernel
abbrev cL_apart : ByteArray := method_13_code
def yL_apart : MethodName := ⟨RL, "apart", "(LToneMixer;II[J)I"⟩
abbrev kL_apart : Cond := .codeWith yL_apart cL_apart 5 (some .int) [(0, 10, 13, 13)]
abbrev wL_apart : List Cond := kL_apart :: bw
theorem qL_apart : yL_apart.cls = RL ∧ yL_apart.cls ≠ "java/lang/invoke/MethodHandle" ∧ yL_apart.cls ≠ "java/lang/invoke/VarHandle" ∧ (parseMethodDescriptor yL_apart.desc).map (fun d => d.parameters.length) = some 4 := by decide +kernel
abbrev cT_apart : ByteArray := prog_1_method_13_code
def yT_apart : MethodName := ⟨RT, "apart", "(II)I"⟩
abbrev kT_apart : Cond := .code yT_apart cT_apart 5 (some .int)
abbrev wT_apart : List Cond := kT_apart :: bw
theorem qT_apart : yT_apart.cls = RT ∧ yT_apart.cls ≠ "java/lang/invoke/MethodHandle" ∧ yT_apart.cls ≠ "java/lang/invoke/VarHandle" ∧ (parseMethodDescriptor yT_apart.desc).map (fun d => d.parameters.length) = some 2 := by decide +kernel
abbrev cP_greatestDifference : ByteArray := prog_2_method_17_code
def yP_greatestDifference : MethodName := ⟨RP, "greatestDifference", "(LToneMixer$Plane;)I"⟩
abbrev kP_greatestDifference : Cond := .code yP_greatestDifference cP_greatestDifference 6 (some .int)
abbrev wP_greatestDifference : List Cond := kP_greatestDifference :: bw
theorem qP_greatestDifference : yP_greatestDifference.cls = RP ∧ yP_greatestDifference.cls ≠ "java/lang/invoke/MethodHandle" ∧ yP_greatestDifference.cls ≠ "java/lang/invoke/VarHandle" ∧ (parseMethodDescriptor yP_greatestDifference.desc).map (fun d => d.parameters.length) = some 1 := by decide +kernel
abbrev cL_look : ByteArray := method_14_code
def yL_look : MethodName := ⟨RL, "look", "(LToneMixer;II[J)I"⟩
abbrev kL_look : Cond := .codeWith yL_look cL_look 5 (some .int) [(0, 10, 13, 13)]
abbrev wL_look : List Cond := kL_look :: bw
theorem qL_look : yL_look.cls = RL ∧ yL_look.cls ≠ "java/lang/invoke/MethodHandle" ∧ yL_look.cls ≠ "java/lang/invoke/VarHandle" ∧ (parseMethodDescriptor yL_look.desc).map (fun d => d.parameters.length) = some 4 := by decide +kernel
abbrev cT_look : ByteArray := prog_1_method_14_code
def yT_look : MethodName := ⟨RT, "look", "(II)I"⟩
abbrev kT_look : Cond := .code yT_look cT_look 4 (some .int)
abbrev wT_look : List Cond := kT_look :: bw
theorem qT_look : yT_look.cls = RT ∧ yT_look.cls ≠ "java/lang/invoke/MethodHandle" ∧ yT_look.cls ≠ "java/lang/invoke/VarHandle" ∧ (parseMethodDescriptor yT_look.desc).map (fun d => d.parameters.length) = some 2 := by decide +kernel
abbrev cP_sum : ByteArray := prog_2_method_18_code
def yP_sum : MethodName := ⟨RP, "sum", "()I"⟩
abbrev kP_sum : Cond := .code yP_sum cP_sum 4 (some .int)
abbrev wP_sum : List Cond := kP_sum :: bw
theorem qP_sum : yP_sum.cls = RP ∧ yP_sum.cls ≠ "java/lang/invoke/MethodHandle" ∧ yP_sum.cls ≠ "java/lang/invoke/VarHandle" ∧ (parseMethodDescriptor yP_sum.desc).map (fun d => d.parameters.length) = some 0 := by decide +kernel
abbrev cP_least : ByteArray := prog_2_method_19_code
def yP_least : MethodName := ⟨RP, "least", "()I"⟩
abbrev kP_least : Cond := .code yP_least cP_least 4 (some .int)
abbrev wP_least : List Cond := kP_least :: bw
theorem qP_least : yP_least.cls = RP ∧ yP_least.cls ≠ "java/lang/invoke/MethodHandle" ∧ yP_least.cls ≠ "java/lang/invoke/VarHandle" ∧ (parseMethodDescriptor yP_least.desc).map (fun d => d.parameters.length) = some 0 := by decide +kernel
abbrev cP_greatest : ByteArray := prog_2_method_20_code
def yP_greatest : MethodName := ⟨RP, "greatest", "()I"⟩
abbrev kP_greatest : Cond := .code yP_greatest cP_greatest 4 (some .int)
abbrev wP_greatest : List Cond := kP_greatest :: bw
theorem qP_greatest : yP_greatest.cls = RP ∧ yP_greatest.cls ≠ "java/lang/invoke/MethodHandle" ∧ yP_greatest.cls ≠ "java/lang/invoke/VarHandle" ∧ (parseMethodDescriptor yP_greatest.desc).map (fun d => d.parameters.length) = some 0 := by decide +kernel
abbrev cM_init : ByteArray := prog_4_method_1_code
def yM_init : MethodName := ⟨RM, "<init>", "()V"⟩
abbrev kM_init : Cond := .code yM_init cM_init 2 none
abbrev wM_init : List Cond := kM_init :: bw
theorem qM_init : yM_init.cls = RM ∧ yM_init.cls ≠ "java/lang/invoke/MethodHandle" ∧ yM_init.cls ≠ "java/lang/invoke/VarHandle" ∧ (parseMethodDescriptor yM_init.desc).map (fun d => d.parameters.length) = some 0 := by decide +kernel
abbrev cM_thrown : ByteArray := prog_4_method_2_code
def yM_thrown : MethodName := ⟨RM, "thrown", "()I"⟩
abbrev kM_thrown : Cond := .code yM_thrown cM_thrown 1 (some .int)
abbrev wM_thrown : List Cond := kM_thrown :: bw
theorem qM_thrown : yM_thrown.cls = RM ∧ yM_thrown.cls ≠ "java/lang/invoke/MethodHandle" ∧ yM_thrown.cls ≠ "java/lang/invoke/VarHandle" ∧ (parseMethodDescriptor yM_thrown.desc).map (fun d => d.parameters.length) = some 0 := by decide +kernel
abbrev cM_size : ByteArray := prog_4_method_11_code
def yM_size : MethodName := ⟨RM, "size", "(III)V"⟩
abbrev kM_size : Cond := .code yM_size cM_size 5 none
abbrev wM_size : List Cond := kM_size :: bw
theorem qM_size : yM_size.cls = RM ∧ yM_size.cls ≠ "java/lang/invoke/MethodHandle" ∧ yM_size.cls ≠ "java/lang/invoke/VarHandle" ∧ (parseMethodDescriptor yM_size.desc).map (fun d => d.parameters.length) = some 3 := by decide +kernel
abbrev cM_isPlane : ByteArray := prog_4_method_5_code
def yM_isPlane : MethodName := ⟨RM, "isPlane", "(I)Z"⟩
abbrev kM_isPlane : Cond := .code yM_isPlane cM_isPlane 1 (some .boolean)
abbrev wM_isPlane : List Cond := kM_isPlane :: bw
theorem qM_isPlane : yM_isPlane.cls = RM ∧ yM_isPlane.cls ≠ "java/lang/invoke/MethodHandle" ∧ yM_isPlane.cls ≠ "java/lang/invoke/VarHandle" ∧ (parseMethodDescriptor yM_isPlane.desc).map (fun d => d.parameters.length) = some 1 := by decide +kernel
abbrev cM_in : ByteArray := prog_4_method_4_code
def yM_in : MethodName := ⟨RM, "in", "(III)Z"⟩
abbrev kM_in : Cond := .code yM_in cM_in 3 (some .boolean)
abbrev wM_in : List Cond := kM_in :: bw
theorem qM_in : yM_in.cls = RM ∧ yM_in.cls ≠ "java/lang/invoke/MethodHandle" ∧ yM_in.cls ≠ "java/lang/invoke/VarHandle" ∧ (parseMethodDescriptor yM_in.desc).map (fun d => d.parameters.length) = some 3 := by decide +kernel
abbrev cM_goes : ByteArray := prog_4_method_3_code
def yM_goes : MethodName := ⟨RM, "goes", "(ZZ)Z"⟩
abbrev kM_goes : Cond := .code yM_goes cM_goes 3 (some .boolean)
abbrev wM_goes : List Cond := kM_goes :: bw
theorem qM_goes : yM_goes.cls = RM ∧ yM_goes.cls ≠ "java/lang/invoke/MethodHandle" ∧ yM_goes.cls ≠ "java/lang/invoke/VarHandle" ∧ (parseMethodDescriptor yM_goes.desc).map (fun d => d.parameters.length) = some 2 := by decide +kernel
abbrev cM_put : ByteArray := prog_4_method_12_code
def yM_put : MethodName := ⟨RM, "put", "(IIII)V"⟩
abbrev kM_put : Cond := .code yM_put cM_put 5 none
abbrev wM_put : List Cond := kM_put :: bw
theorem qM_put : yM_put.cls = RM ∧ yM_put.cls ≠ "java/lang/invoke/MethodHandle" ∧ yM_put.cls ≠ "java/lang/invoke/VarHandle" ∧ (parseMethodDescriptor yM_put.desc).map (fun d => d.parameters.length) = some 4 := by decide +kernel
abbrev cM_isSample : ByteArray := prog_4_method_6_code
def yM_isSample : MethodName := ⟨RM, "isSample", "(III)Z"⟩
abbrev kM_isSample : Cond := .code yM_isSample cM_isSample 4 (some .boolean)
abbrev wM_isSample : List Cond := kM_isSample :: bw
theorem qM_isSample : yM_isSample.cls = RM ∧ yM_isSample.cls ≠ "java/lang/invoke/MethodHandle" ∧ yM_isSample.cls ≠ "java/lang/invoke/VarHandle" ∧ (parseMethodDescriptor yM_isSample.desc).map (fun d => d.parameters.length) = some 3 := by decide +kernel
abbrev cM_cell : ByteArray := prog_4_method_7_code
def yM_cell : MethodName := ⟨RM, "cell", "(III)I"⟩
abbrev kM_cell : Cond := .code yM_cell cM_cell 3 (some .int)
abbrev wM_cell : List Cond := kM_cell :: bw
theorem qM_cell : yM_cell.cls = RM ∧ yM_cell.cls ≠ "java/lang/invoke/MethodHandle" ∧ yM_cell.cls ≠ "java/lang/invoke/VarHandle" ∧ (parseMethodDescriptor yM_cell.desc).map (fun d => d.parameters.length) = some 3 := by decide +kernel
abbrev cM_row : ByteArray := prog_4_method_13_code
def yM_row : MethodName := ⟨RM, "row", "(IIIJ)V"⟩
abbrev kM_row : Cond := .code yM_row cM_row 7 none
abbrev wM_row : List Cond := kM_row :: bw
theorem qM_row : yM_row.cls = RM ∧ yM_row.cls ≠ "java/lang/invoke/MethodHandle" ∧ yM_row.cls ≠ "java/lang/invoke/VarHandle" ∧ (parseMethodDescriptor yM_row.desc).map (fun d => d.parameters.length) = some 4 := by decide +kernel
abbrev cM_grow : ByteArray := prog_4_method_16_code
def yM_grow : MethodName := ⟨RM, "grow", "(II)Z"⟩
abbrev kM_grow : Cond := .code yM_grow cM_grow 5 (some .boolean)
abbrev wM_grow : List Cond := kM_grow :: bw
theorem qM_grow : yM_grow.cls = RM ∧ yM_grow.cls ≠ "java/lang/invoke/MethodHandle" ∧ yM_grow.cls ≠ "java/lang/invoke/VarHandle" ∧ (parseMethodDescriptor yM_grow.desc).map (fun d => d.parameters.length) = some 2 := by decide +kernel
abbrev cM_across : ByteArray := prog_4_method_14_code
def yM_across : MethodName := ⟨RM, "across", "(IZ)V"⟩
abbrev kM_across : Cond := .code yM_across cM_across 6 none
abbrev wM_across : List Cond := kM_across :: bw
theorem qM_across : yM_across.cls = RM ∧ yM_across.cls ≠ "java/lang/invoke/MethodHandle" ∧ yM_across.cls ≠ "java/lang/invoke/VarHandle" ∧ (parseMethodDescriptor yM_across.desc).map (fun d => d.parameters.length) = some 2 := by decide +kernel
abbrev cM_keep : ByteArray := prog_4_method_9_code
def yM_keep : MethodName := ⟨RM, "keep", "(I)V"⟩
abbrev kM_keep : Cond := .code yM_keep cM_keep 3 none
abbrev wM_keep : List Cond := kM_keep :: bw
theorem qM_keep : yM_keep.cls = RM ∧ yM_keep.cls ≠ "java/lang/invoke/MethodHandle" ∧ yM_keep.cls ≠ "java/lang/invoke/VarHandle" ∧ (parseMethodDescriptor yM_keep.desc).map (fun d => d.parameters.length) = some 1 := by decide +kernel
abbrev cM_was : ByteArray := prog_4_method_10_code
def yM_was : MethodName := ⟨RM, "was", "(II)I"⟩
abbrev kM_was : Cond := .code yM_was cM_was 5 (some .int)
abbrev wM_was : List Cond := kM_was :: bw
theorem qM_was : yM_was.cls = RM ∧ yM_was.cls ≠ "java/lang/invoke/MethodHandle" ∧ yM_was.cls ≠ "java/lang/invoke/VarHandle" ∧ (parseMethodDescriptor yM_was.desc).map (fun d => d.parameters.length) = some 2 := by decide +kernel
abbrev cM_down : ByteArray := prog_4_method_15_code
def yM_down : MethodName := ⟨RM, "down", "(IZ)V"⟩
abbrev kM_down : Cond := .code yM_down cM_down 6 none
abbrev wM_down : List Cond := kM_down :: bw
theorem qM_down : yM_down.cls = RM ∧ yM_down.cls ≠ "java/lang/invoke/MethodHandle" ∧ yM_down.cls ≠ "java/lang/invoke/VarHandle" ∧ (parseMethodDescriptor yM_down.desc).map (fun d => d.parameters.length) = some 2 := by decide +kernel
abbrev cM_shrink : ByteArray := prog_4_method_17_code
def yM_shrink : MethodName := ⟨RM, "shrink", "(II)Z"⟩
abbrev kM_shrink : Cond := .code yM_shrink cM_shrink 6 (some .boolean)
abbrev wM_shrink : List Cond := kM_shrink :: bw
theorem qM_shrink : yM_shrink.cls = RM ∧ yM_shrink.cls ≠ "java/lang/invoke/MethodHandle" ∧ yM_shrink.cls ≠ "java/lang/invoke/VarHandle" ∧ (parseMethodDescriptor yM_shrink.desc).map (fun d => d.parameters.length) = some 2 := by decide +kernel
abbrev cM_mix : ByteArray := prog_4_method_22_code
def yM_mix : MethodName := ⟨RM, "mix", "(I)Z"⟩
abbrev kM_mix : Cond := .code yM_mix cM_mix 2 (some .boolean)
abbrev wM_mix : List Cond := kM_mix :: bw
theorem qM_mix : yM_mix.cls = RM ∧ yM_mix.cls ≠ "java/lang/invoke/MethodHandle" ∧ yM_mix.cls ≠ "java/lang/invoke/VarHandle" ∧ (parseMethodDescriptor yM_mix.desc).map (fun d => d.parameters.length) = some 1 := by decide +kernel
abbrev cM_isSame : ByteArray := prog_4_method_21_code
def yM_isSame : MethodName := ⟨RM, "isSame", "(II)Z"⟩
abbrev kM_isSame : Cond := .code yM_isSame cM_isSame 3 (some .boolean)
abbrev wM_isSame : List Cond := kM_isSame :: bw
theorem qM_isSame : yM_isSame.cls = RM ∧ yM_isSame.cls ≠ "java/lang/invoke/MethodHandle" ∧ yM_isSame.cls ≠ "java/lang/invoke/VarHandle" ∧ (parseMethodDescriptor yM_isSame.desc).map (fun d => d.parameters.length) = some 2 := by decide +kernel
abbrev cM_mixAll : ByteArray := prog_4_method_20_code
def yM_mixAll : MethodName := ⟨RM, "mixAll", "(I)V"⟩
abbrev kM_mixAll : Cond := .code yM_mixAll cM_mixAll 10 none
abbrev wM_mixAll : List Cond := kM_mixAll :: bw
theorem qM_mixAll : yM_mixAll.cls = RM ∧ yM_mixAll.cls ≠ "java/lang/invoke/MethodHandle" ∧ yM_mixAll.cls ≠ "java/lang/invoke/VarHandle" ∧ (parseMethodDescriptor yM_mixAll.desc).map (fun d => d.parameters.length) = some 1 := by decide +kernel
abbrev cM_mixed : ByteArray := prog_4_method_19_code
def yM_mixed : MethodName := ⟨RM, "mixed", "(IIIIII)I"⟩
abbrev kM_mixed : Cond := .code yM_mixed cM_mixed 8 (some .int)
abbrev wM_mixed : List Cond := kM_mixed :: bw
theorem qM_mixed : yM_mixed.cls = RM ∧ yM_mixed.cls ≠ "java/lang/invoke/MethodHandle" ∧ yM_mixed.cls ≠ "java/lang/invoke/VarHandle" ∧ (parseMethodDescriptor yM_mixed.desc).map (fun d => d.parameters.length) = some 6 := by decide +kernel
abbrev cM_limit : ByteArray := prog_4_method_8_code
def yM_limit : MethodName := ⟨RM, "limit", "(I)I"⟩
abbrev kM_limit : Cond := .code yM_limit cM_limit 1 (some .int)
abbrev wM_limit : List Cond := kM_limit :: bw
theorem qM_limit : yM_limit.cls = RM ∧ yM_limit.cls ≠ "java/lang/invoke/MethodHandle" ∧ yM_limit.cls ≠ "java/lang/invoke/VarHandle" ∧ (parseMethodDescriptor yM_limit.desc).map (fun d => d.parameters.length) = some 1 := by decide +kernel
abbrev cM_grey : ByteArray := prog_4_method_18_code
def yM_grey : MethodName := ⟨RM, "grey", "(III)I"⟩
abbrev kM_grey : Cond := .code yM_grey cM_grey 3 (some .int)
abbrev wM_grey : List Cond := kM_grey :: bw
theorem qM_grey : yM_grey.cls = RM ∧ yM_grey.cls ≠ "java/lang/invoke/MethodHandle" ∧ yM_grey.cls ≠ "java/lang/invoke/VarHandle" ∧ (parseMethodDescriptor yM_grey.desc).map (fun d => d.parameters.length) = some 3 := by decide +kernel
abbrev cM_copy : ByteArray := prog_4_method_23_code
def yM_copy : MethodName := ⟨RM, "copy", "(II)V"⟩
abbrev kM_copy : Cond := .code yM_copy cM_copy 4 none
abbrev wM_copy : List Cond := kM_copy :: bw
theorem qM_copy : yM_copy.cls = RM ∧ yM_copy.cls ≠ "java/lang/invoke/MethodHandle" ∧ yM_copy.cls ≠ "java/lang/invoke/VarHandle" ∧ (parseMethodDescriptor yM_copy.desc).map (fun d => d.parameters.length) = some 2 := by decide +kernel
abbrev cM_extend : ByteArray := prog_4_method_24_code
def yM_extend : MethodName := ⟨RM, "extend", "(III)Z"⟩
abbrev kM_extend : Cond := .code yM_extend cM_extend 6 (some .boolean)
abbrev wM_extend : List Cond := kM_extend :: bw
theorem qM_extend : yM_extend.cls = RM ∧ yM_extend.cls ≠ "java/lang/invoke/MethodHandle" ∧ yM_extend.cls ≠ "java/lang/invoke/VarHandle" ∧ (parseMethodDescriptor yM_extend.desc).map (fun d => d.parameters.length) = some 3 := by decide +kernel
abbrev cM_cut : ByteArray := prog_4_method_25_code
def yM_cut : MethodName := ⟨RM, "cut", "(III)Z"⟩
abbrev kM_cut : Cond := .code yM_cut cM_cut 4 (some .boolean)
abbrev wM_cut : List Cond := kM_cut :: bw
theorem qM_cut : yM_cut.cls = RM ∧ yM_cut.cls ≠ "java/lang/invoke/MethodHandle" ∧ yM_cut.cls ≠ "java/lang/invoke/VarHandle" ∧ (parseMethodDescriptor yM_cut.desc).map (fun d => d.parameters.length) = some 3 := by decide +kernel
abbrev cM_at : ByteArray := prog_4_method_26_code
def yM_at : MethodName := ⟨RM, "at", "(III)I"⟩
abbrev kM_at : Cond := .code yM_at cM_at 4 (some .int)
abbrev wM_at : List Cond := kM_at :: bw
theorem qM_at : yM_at.cls = RM ∧ yM_at.cls ≠ "java/lang/invoke/MethodHandle" ∧ yM_at.cls ≠ "java/lang/invoke/VarHandle" ∧ (parseMethodDescriptor yM_at.desc).map (fun d => d.parameters.length) = some 3 := by decide +kernel
abbrev cM_eight : ByteArray := prog_4_method_27_code
def yM_eight : MethodName := ⟨RM, "eight", "(III)J"⟩
abbrev kM_eight : Cond := .code yM_eight cM_eight 8 (some .long)
abbrev wM_eight : List Cond := kM_eight :: bw
theorem qM_eight : yM_eight.cls = RM ∧ yM_eight.cls ≠ "java/lang/invoke/MethodHandle" ∧ yM_eight.cls ≠ "java/lang/invoke/VarHandle" ∧ (parseMethodDescriptor yM_eight.desc).map (fun d => d.parameters.length) = some 3 := by decide +kernel
abbrev cM_apart : ByteArray := prog_4_method_28_code
def yM_apart : MethodName := ⟨RM, "apart", "(II)I"⟩
abbrev kM_apart : Cond := .code yM_apart cM_apart 7 (some .int)
abbrev wM_apart : List Cond := kM_apart :: bw
theorem qM_apart : yM_apart.cls = RM ∧ yM_apart.cls ≠ "java/lang/invoke/MethodHandle" ∧ yM_apart.cls ≠ "java/lang/invoke/VarHandle" ∧ (parseMethodDescriptor yM_apart.desc).map (fun d => d.parameters.length) = some 2 := by decide +kernel
abbrev cM_look : ByteArray := prog_4_method_29_code
def yM_look : MethodName := ⟨RM, "look", "(II)I"⟩
abbrev kM_look : Cond := .code yM_look cM_look 9 (some .int)
abbrev wM_look : List Cond := kM_look :: bw
theorem qM_look : yM_look.cls = RM ∧ yM_look.cls ≠ "java/lang/invoke/MethodHandle" ∧ yM_look.cls ≠ "java/lang/invoke/VarHandle" ∧ (parseMethodDescriptor yM_look.desc).map (fun d => d.parameters.length) = some 2 := by decide +kernel
abbrev cL_law : ByteArray := code
def yL_law : MethodName := ⟨RL, "law", "([I)Z"⟩
theorem b_0 : (.initialized RL : Cond) ∈ bw := bwm 0 (by decide +kernel) (by decide +kernel)
theorem b_1 : (.initialized RT : Cond) ∈ bw := bwm 1 (by decide +kernel) (by decide +kernel)
theorem b_2 : (.initialized RP : Cond) ∈ bw := bwm 2 (by decide +kernel) (by decide +kernel)
theorem b_3 : (.initialized RM : Cond) ∈ bw := bwm 3 (by decide +kernel) (by decide +kernel)
theorem b_4 : (.initialized "java/lang/Throwable" : Cond) ∈ bw := bwm 4 (by decide +kernel) (by decide +kernel)
theorem b_5 : (.initialized "java/lang/Exception" : Cond) ∈ bw := bwm 5 (by decide +kernel) (by decide +kernel)
theorem b_6 : (.initialized "java/lang/RuntimeException" : Cond) ∈ bw := bwm 6 (by decide +kernel) (by decide +kernel)
theorem b_7 : (.initialized "java/lang/IndexOutOfBoundsException" : Cond) ∈ bw := bwm 7 (by decide +kernel) (by decide +kernel)
theorem b_8 : (.initialized "java/lang/IllegalArgumentException" : Cond) ∈ bw := bwm 8 (by decide +kernel) (by decide +kernel)
theorem b_9 : (.initialized RA : Cond) ∈ bw := bwm 9 (by decide +kernel) (by decide +kernel)
theorem b_10 : (.initialized "java/lang/Math" : Cond) ∈ bw := bwm 10 (by decide +kernel) (by decide +kernel)
theorem b_11 : (.initialized "java/lang/System" : Cond) ∈ bw := bwm 11 (by decide +kernel) (by decide +kernel)
theorem b_12 : (.classLink RL 8 RT : Cond) ∈ bw := bwm 12 (by decide +kernel) (by decide +kernel)
theorem b_13 : (.instantiable RT 1 : Cond) ∈ bw := bwm 13 (by decide +kernel) (by decide +kernel)
theorem b_14 : (.methodLink RL 58 yT_init : Cond) ∈ bw := bwm 14 (by decide +kernel) (by decide +kernel)
theorem b_15 : (.instanceMethod yT_init : Cond) ∈ bw := bwm 15 (by decide +kernel) (by decide +kernel)
theorem b_16 : (kT_init : Cond) ∈ bw := bwm 16 (by decide +kernel) (by decide +kernel)
theorem b_17 : (.methodLink RT 1 objectInit : Cond) ∈ bw := bwm 17 (by decide +kernel) (by decide +kernel)
theorem b_18 : (.instanceMethod objectInit : Cond) ∈ bw := bwm 18 (by decide +kernel) (by decide +kernel)
theorem b_19 : (.code objectInit ⟨#[0xb1]⟩ 1 none : Cond) ∈ bw := bwm 19 (by decide +kernel) (by decide +kernel)
theorem b_20 : (.classLink RT 9 RP : Cond) ∈ bw := bwm 20 (by decide +kernel) (by decide +kernel)
theorem b_22 : (.instantiable RP 4 : Cond) ∈ bw := bwm 22 (by decide +kernel) (by decide +kernel)
theorem b_24 : (.instanceMethod yP_init : Cond) ∈ bw := bwm 24 (by decide +kernel) (by decide +kernel)
theorem b_25 : (kP_init : Cond) ∈ bw := bwm 25 (by decide +kernel) (by decide +kernel)
theorem b_26 : (.methodLink RP 3 objectInit : Cond) ∈ bw := bwm 26 (by decide +kernel) (by decide +kernel)
theorem b_27 : (.fieldLink RP 9 "ToneMixer$Plane" "samples" "[I" : Cond) ∈ bw := bwm 27 (by decide +kernel) (by decide +kernel)
theorem b_28 : (.fieldLink RT 37 "ToneMixer$Plane" "samples" "[I" : Cond) ∈ bw := bwm 28 (by decide +kernel) (by decide +kernel)
theorem b_29 : (.fieldLink RP 15 "ToneMixer$Plane" "w" "I" : Cond) ∈ bw := bwm 29 (by decide +kernel) (by decide +kernel)
theorem b_30 : (.fieldLink RT 45 "ToneMixer$Plane" "w" "I" : Cond) ∈ bw := bwm 30 (by decide +kernel) (by decide +kernel)
theorem b_31 : (.fieldLink RP 19 "ToneMixer$Plane" "h" "I" : Cond) ∈ bw := bwm 31 (by decide +kernel) (by decide +kernel)
theorem b_32 : (.fieldLink RT 53 "ToneMixer$Plane" "h" "I" : Cond) ∈ bw := bwm 32 (by decide +kernel) (by decide +kernel)
theorem b_33 : (.fieldLink RP 22 "ToneMixer$Plane" "line" "[I" : Cond) ∈ bw := bwm 33 (by decide +kernel) (by decide +kernel)
theorem b_34 : (.laysFinal RP "ToneMixer$Plane" "samples" "[I" : Cond) ∈ bw := bwm 34 (by decide +kernel) (by decide +kernel)
theorem b_36 : (.lays RP "ToneMixer$Plane" "w" "I" : Cond) ∈ bw := bwm 36 (by decide +kernel) (by decide +kernel)
theorem b_38 : (.lays RP "ToneMixer$Plane" "h" "I" : Cond) ∈ bw := bwm 38 (by decide +kernel) (by decide +kernel)
theorem b_40 : (.laysFinal RP "ToneMixer$Plane" "line" "[I" : Cond) ∈ bw := bwm 40 (by decide +kernel) (by decide +kernel)
theorem b_43 : (.arrayClass .int : Cond) ∈ bw := bwm 43 (by decide +kernel) (by decide +kernel)
theorem b_44 : (.fieldLink RT 11 "ToneMixer" "planes" "[LToneMixer$Plane;" : Cond) ∈ bw := bwm 44 (by decide +kernel) (by decide +kernel)
theorem b_45 : (.laysFinal RT "ToneMixer" "planes" "[LToneMixer$Plane;" : Cond) ∈ bw := bwm 45 (by decide +kernel) (by decide +kernel)
theorem b_48 : (.methodLink RL 89 yT_mix : Cond) ∈ bw := bwm 48 (by decide +kernel) (by decide +kernel)
theorem b_49 : (.instanceMethod yT_mix : Cond) ∈ bw := bwm 49 (by decide +kernel) (by decide +kernel)
theorem b_50 : (.selects RT yT_mix yT_mix : Cond) ∈ bw := bwm 50 (by decide +kernel) (by decide +kernel)
theorem b_51 : (kT_mix : Cond) ∈ bw := bwm 51 (by decide +kernel) (by decide +kernel)
theorem b_52 : (.methodLink RT 72 yT_firstAreOfOneSize : Cond) ∈ bw := bwm 52 (by decide +kernel) (by decide +kernel)
theorem b_54 : (.instanceMethod yT_firstAreOfOneSize : Cond) ∈ bw := bwm 54 (by decide +kernel) (by decide +kernel)
theorem b_55 : (kT_firstAreOfOneSize : Cond) ∈ bw := bwm 55 (by decide +kernel) (by decide +kernel)
theorem b_56 : (.methodLink RT 94 yP_isOfSizeOf : Cond) ∈ bw := bwm 56 (by decide +kernel) (by decide +kernel)
theorem b_57 : (.instanceMethod yP_isOfSizeOf : Cond) ∈ bw := bwm 57 (by decide +kernel) (by decide +kernel)
theorem b_58 : (.selects RP yP_isOfSizeOf yP_isOfSizeOf : Cond) ∈ bw := bwm 58 (by decide +kernel) (by decide +kernel)
theorem b_59 : (kP_isOfSizeOf : Cond) ∈ bw := bwm 59 (by decide +kernel) (by decide +kernel)
theorem b_60 : (.methodLink RT 41 yT_placeOf : Cond) ∈ bw := bwm 60 (by decide +kernel) (by decide +kernel)
theorem b_61 : (.static yT_placeOf : Cond) ∈ bw := bwm 61 (by decide +kernel) (by decide +kernel)
theorem b_62 : (kT_placeOf : Cond) ∈ bw := bwm 62 (by decide +kernel) (by decide +kernel)
theorem b_63 : (.methodLink RT 76 yT_mixPlace : Cond) ∈ bw := bwm 63 (by decide +kernel) (by decide +kernel)
theorem b_65 : (.instanceMethod yT_mixPlace : Cond) ∈ bw := bwm 65 (by decide +kernel) (by decide +kernel)
theorem b_66 : (kT_mixPlace : Cond) ∈ bw := bwm 66 (by decide +kernel) (by decide +kernel)
theorem b_67 : (.methodLink RT 119 yT_open : Cond) ∈ bw := bwm 67 (by decide +kernel) (by decide +kernel)
theorem b_69 : (.instanceMethod yT_open : Cond) ∈ bw := bwm 69 (by decide +kernel) (by decide +kernel)
theorem b_70 : (kT_open : Cond) ∈ bw := bwm 70 (by decide +kernel) (by decide +kernel)
theorem b_71 : (.constant RT 134 (91881) : Cond) ∈ bw := bwm 71 (by decide +kernel) (by decide +kernel)
theorem b_72 : (.constant RT 135 (32768) : Cond) ∈ bw := bwm 72 (by decide +kernel) (by decide +kernel)
theorem b_73 : (.methodLink RT 136 yT_shifted : Cond) ∈ bw := bwm 73 (by decide +kernel) (by decide +kernel)
theorem b_74 : (.static yT_shifted : Cond) ∈ bw := bwm 74 (by decide +kernel) (by decide +kernel)
theorem b_75 : (kT_shifted : Cond) ∈ bw := bwm 75 (by decide +kernel) (by decide +kernel)
theorem b_76 : (.methodLink RT 139 yT_limit : Cond) ∈ bw := bwm 76 (by decide +kernel) (by decide +kernel)
theorem b_77 : (.static yT_limit : Cond) ∈ bw := bwm 77 (by decide +kernel) (by decide +kernel)
theorem b_78 : (kT_limit : Cond) ∈ bw := bwm 78 (by decide +kernel) (by decide +kernel)
theorem b_79 : (.methodLink RT 157 Lib.Math.min.name : Cond) ∈ bw := bwm 79 (by decide +kernel) (by decide +kernel)
theorem b_80 : (.static Lib.Math.min.name : Cond) ∈ bw := bwm 80 (by decide +kernel) (by decide +kernel)
theorem b_81 : (.code Lib.Math.min.name Lib.Math.min.code 2 (some .int) : Cond) ∈ bw := bwm 81 (by decide +kernel) (by decide +kernel)
theorem b_82 : (.methodLink RT 162 Lib.Math.max.name : Cond) ∈ bw := bwm 82 (by decide +kernel) (by decide +kernel)
theorem b_83 : (.static Lib.Math.max.name : Cond) ∈ bw := bwm 83 (by decide +kernel) (by decide +kernel)
theorem b_84 : (.code Lib.Math.max.name Lib.Math.max.code 2 (some .int) : Cond) ∈ bw := bwm 84 (by decide +kernel) (by decide +kernel)
theorem b_85 : (.constant RT 142 (46802) : Cond) ∈ bw := bwm 85 (by decide +kernel) (by decide +kernel)
theorem b_86 : (.constant RT 143 (116130) : Cond) ∈ bw := bwm 86 (by decide +kernel) (by decide +kernel)
theorem b_87 : (.methodLink RT 144 yT_setColours : Cond) ∈ bw := bwm 87 (by decide +kernel) (by decide +kernel)
theorem b_89 : (.instanceMethod yT_setColours : Cond) ∈ bw := bwm 89 (by decide +kernel) (by decide +kernel)
theorem b_90 : (kT_setColours : Cond) ∈ bw := bwm 90 (by decide +kernel) (by decide +kernel)
theorem b_91 : (.methodLink RT 122 yT_close : Cond) ∈ bw := bwm 91 (by decide +kernel) (by decide +kernel)
theorem b_93 : (.instanceMethod yT_close : Cond) ∈ bw := bwm 93 (by decide +kernel) (by decide +kernel)
theorem b_94 : (kT_close : Cond) ∈ bw := bwm 94 (by decide +kernel) (by decide +kernel)
theorem b_95 : (.methodLink RT 148 yT_brightness : Cond) ∈ bw := bwm 95 (by decide +kernel) (by decide +kernel)
theorem b_96 : (.static yT_brightness : Cond) ∈ bw := bwm 96 (by decide +kernel) (by decide +kernel)
theorem b_97 : (kT_brightness : Cond) ∈ bw := bwm 97 (by decide +kernel) (by decide +kernel)
theorem b_98 : (.constant RT 156 (38470) : Cond) ∈ bw := bwm 98 (by decide +kernel) (by decide +kernel)
theorem b_99 : (.constant RT 152 (8421375) : Cond) ∈ bw := bwm 99 (by decide +kernel) (by decide +kernel)
theorem b_100 : (.methodLink RT 125 yT_invert : Cond) ∈ bw := bwm 100 (by decide +kernel) (by decide +kernel)
theorem b_102 : (.instanceMethod yT_invert : Cond) ∈ bw := bwm 102 (by decide +kernel) (by decide +kernel)
theorem b_103 : (kT_invert : Cond) ∈ bw := bwm 103 (by decide +kernel) (by decide +kernel)
theorem b_104 : (.methodLink RT 128 yT_darken : Cond) ∈ bw := bwm 104 (by decide +kernel) (by decide +kernel)
theorem b_106 : (.instanceMethod yT_darken : Cond) ∈ bw := bwm 106 (by decide +kernel) (by decide +kernel)
theorem b_107 : (kT_darken : Cond) ∈ bw := bwm 107 (by decide +kernel) (by decide +kernel)
theorem b_108 : (.methodLink RT 153 yT_darkened : Cond) ∈ bw := bwm 108 (by decide +kernel) (by decide +kernel)
theorem b_109 : (.static yT_darkened : Cond) ∈ bw := bwm 109 (by decide +kernel) (by decide +kernel)
theorem b_110 : (kT_darkened : Cond) ∈ bw := bwm 110 (by decide +kernel) (by decide +kernel)
theorem b_111 : (.methodLink RT 131 yT_grey : Cond) ∈ bw := bwm 111 (by decide +kernel) (by decide +kernel)
theorem b_113 : (.instanceMethod yT_grey : Cond) ∈ bw := bwm 113 (by decide +kernel) (by decide +kernel)
theorem b_114 : (kT_grey : Cond) ∈ bw := bwm 114 (by decide +kernel) (by decide +kernel)
theorem b_115 : (.methodLink RL 62 yL_size : Cond) ∈ bw := bwm 115 (by decide +kernel) (by decide +kernel)
theorem b_116 : (.static yL_size : Cond) ∈ bw := bwm 116 (by decide +kernel) (by decide +kernel)
theorem b_117 : (kL_size : Cond) ∈ bw := bwm 117 (by decide +kernel) (by decide +kernel)
theorem b_118 : (.classLink RL 13 "java/lang/IndexOutOfBoundsException" : Cond) ∈ bw := bwm 118 (by decide +kernel) (by decide +kernel)
theorem b_119 : (.classLink RL 15 "java/lang/IllegalArgumentException" : Cond) ∈ bw := bwm 119 (by decide +kernel) (by decide +kernel)
theorem b_120 : (.methodLink RL 7 yT_size : Cond) ∈ bw := bwm 120 (by decide +kernel) (by decide +kernel)
theorem b_121 : (.instanceMethod yT_size : Cond) ∈ bw := bwm 121 (by decide +kernel) (by decide +kernel)
theorem b_122 : (.selects RT yT_size yT_size : Cond) ∈ bw := bwm 122 (by decide +kernel) (by decide +kernel)
theorem b_123 : (kT_size : Cond) ∈ bw := bwm 123 (by decide +kernel) (by decide +kernel)
theorem b_124 : (.methodLink RT 16 yT_planeOf : Cond) ∈ bw := bwm 124 (by decide +kernel) (by decide +kernel)
theorem b_126 : (.instanceMethod yT_planeOf : Cond) ∈ bw := bwm 126 (by decide +kernel) (by decide +kernel)
theorem b_127 : (kT_planeOf : Cond) ∈ bw := bwm 127 (by decide +kernel) (by decide +kernel)
theorem b_128 : (.classLink RT 112 "java/lang/IndexOutOfBoundsException" : Cond) ∈ bw := bwm 128 (by decide +kernel) (by decide +kernel)
theorem b_129 : (.instantiable "java/lang/IndexOutOfBoundsException" 6 : Cond) ∈ bw := bwm 129 (by decide +kernel) (by decide +kernel)
theorem b_137 : (.selects "java/lang/IndexOutOfBoundsException" ⟨"java/lang/Throwable", "fillInStackTrace", "(I)Ljava/lang/Throwable;"⟩ ⟨"java/lang/Throwable", "fillInStackTrace", "(I)Ljava/lang/Throwable;"⟩ : Cond) ∈ bw := bwm 137 (by decide +kernel) (by decide +kernel)
theorem b_149 : (.fieldLink "java/lang/Throwable" 198 "java/lang/Throwable" "backtrace" "Ljava/lang/Object;" : Cond) ∈ bw := bwm 149 (by decide +kernel) (by decide +kernel)
theorem b_151 : (.instanceMethod ⟨"java/lang/Throwable", "<init>", "()V"⟩ : Cond) ∈ bw := bwm 151 (by decide +kernel) (by decide +kernel)
theorem b_153 : (.methodLink "java/lang/Throwable" 1 objectInit : Cond) ∈ bw := bwm 153 (by decide +kernel) (by decide +kernel)
theorem b_154 : (.fieldLink "java/lang/Throwable" 13 "java/lang/Throwable" "UNASSIGNED_STACK" "[Ljava/lang/StackTraceElement;" : Cond) ∈ bw := bwm 154 (by decide +kernel) (by decide +kernel)
theorem b_156 : (.fieldLink "java/lang/Throwable" 20 "java/lang/Throwable" "SUPPRESSED_SENTINEL" "Ljava/util/List;" : Cond) ∈ bw := bwm 156 (by decide +kernel) (by decide +kernel)
theorem b_158 : (.methodLink "java/lang/Throwable" 27 ⟨"java/lang/Throwable", "fillInStackTrace", "()Ljava/lang/Throwable;"⟩ : Cond) ∈ bw := bwm 158 (by decide +kernel) (by decide +kernel)
theorem b_159 : (.instanceMethod ⟨"java/lang/Throwable", "fillInStackTrace", "()Ljava/lang/Throwable;"⟩ : Cond) ∈ bw := bwm 159 (by decide +kernel) (by decide +kernel)
theorem b_161 : (.selects "java/lang/IllegalArgumentException" ⟨"java/lang/Throwable", "fillInStackTrace", "()Ljava/lang/Throwable;"⟩ ⟨"java/lang/Throwable", "fillInStackTrace", "()Ljava/lang/Throwable;"⟩ : Cond) ∈ bw := bwm 161 (by decide +kernel) (by decide +kernel)
theorem b_163 : (.methodLink "java/lang/Throwable" 202 ⟨"java/lang/Throwable", "fillInStackTrace", "(I)Ljava/lang/Throwable;"⟩ : Cond) ∈ bw := bwm 163 (by decide +kernel) (by decide +kernel)
theorem b_166 : (.instantiable "java/lang/Throwable" 6 : Cond) ∈ bw := bwm 166 (by decide +kernel) (by decide +kernel)
theorem b_167 : (.native ⟨"java/lang/Throwable", "fillInStackTrace", "(I)Ljava/lang/Throwable;"⟩ : Cond) ∈ bw := bwm 167 (by decide +kernel) (by decide +kernel)
theorem b_169 : (.methodLink RT 116 ⟨"java/lang/IndexOutOfBoundsException", "<init>", "(Ljava/lang/String;)V"⟩ : Cond) ∈ bw := bwm 169 (by decide +kernel) (by decide +kernel)
theorem b_170 : (.instanceMethod ⟨"java/lang/IndexOutOfBoundsException", "<init>", "(Ljava/lang/String;)V"⟩ : Cond) ∈ bw := bwm 170 (by decide +kernel) (by decide +kernel)
theorem b_172 : (.methodLink "java/lang/IndexOutOfBoundsException" 7 ⟨"java/lang/RuntimeException", "<init>", "(Ljava/lang/String;)V"⟩ : Cond) ∈ bw := bwm 172 (by decide +kernel) (by decide +kernel)
theorem b_173 : (.instanceMethod ⟨"java/lang/RuntimeException", "<init>", "(Ljava/lang/String;)V"⟩ : Cond) ∈ bw := bwm 173 (by decide +kernel) (by decide +kernel)
theorem b_175 : (.methodLink "java/lang/RuntimeException" 7 ⟨"java/lang/Exception", "<init>", "(Ljava/lang/String;)V"⟩ : Cond) ∈ bw := bwm 175 (by decide +kernel) (by decide +kernel)
theorem b_176 : (.instanceMethod ⟨"java/lang/Exception", "<init>", "(Ljava/lang/String;)V"⟩ : Cond) ∈ bw := bwm 176 (by decide +kernel) (by decide +kernel)
theorem b_178 : (.methodLink "java/lang/Exception" 7 ⟨"java/lang/Throwable", "<init>", "(Ljava/lang/String;)V"⟩ : Cond) ∈ bw := bwm 178 (by decide +kernel) (by decide +kernel)
theorem b_182 : (.fieldLink "java/lang/Throwable" 31 "java/lang/Throwable" "detailMessage" "Ljava/lang/String;" : Cond) ∈ bw := bwm 182 (by decide +kernel) (by decide +kernel)
theorem b_183 : (.fieldLink "java/lang/Throwable" 7 "java/lang/Throwable" "cause" "Ljava/lang/Throwable;" : Cond) ∈ bw := bwm 183 (by decide +kernel) (by decide +kernel)
theorem b_184 : (.fieldLink "java/lang/Throwable" 17 "java/lang/Throwable" "stackTrace" "[Ljava/lang/StackTraceElement;" : Cond) ∈ bw := bwm 184 (by decide +kernel) (by decide +kernel)
theorem b_185 : (.fieldLink "java/lang/Throwable" 24 "java/lang/Throwable" "suppressedExceptions" "Ljava/util/List;" : Cond) ∈ bw := bwm 185 (by decide +kernel) (by decide +kernel)
theorem b_194 : (.arrayClass .byte : Cond) ∈ bw := bwm 194 (by decide +kernel) (by decide +kernel)
theorem b_195 : (.classLink RT 20 "java/lang/IllegalArgumentException" : Cond) ∈ bw := bwm 195 (by decide +kernel) (by decide +kernel)
theorem b_196 : (.instantiable "java/lang/IllegalArgumentException" 6 : Cond) ∈ bw := bwm 196 (by decide +kernel) (by decide +kernel)
theorem b_205 : (.methodLink RT 24 ⟨"java/lang/IllegalArgumentException", "<init>", "(Ljava/lang/String;)V"⟩ : Cond) ∈ bw := bwm 205 (by decide +kernel) (by decide +kernel)
theorem b_206 : (.instanceMethod ⟨"java/lang/IllegalArgumentException", "<init>", "(Ljava/lang/String;)V"⟩ : Cond) ∈ bw := bwm 206 (by decide +kernel) (by decide +kernel)
theorem b_208 : (.methodLink "java/lang/IllegalArgumentException" 7 ⟨"java/lang/RuntimeException", "<init>", "(Ljava/lang/String;)V"⟩ : Cond) ∈ bw := bwm 208 (by decide +kernel) (by decide +kernel)
theorem b_211 : (.methodLink RT 27 yP_empty : Cond) ∈ bw := bwm 211 (by decide +kernel) (by decide +kernel)
theorem b_212 : (.instanceMethod yP_empty : Cond) ∈ bw := bwm 212 (by decide +kernel) (by decide +kernel)
theorem b_213 : (.selects RP yP_empty yP_empty : Cond) ∈ bw := bwm 213 (by decide +kernel) (by decide +kernel)
theorem b_214 : (kP_empty : Cond) ∈ bw := bwm 214 (by decide +kernel) (by decide +kernel)
theorem b_215 : (.methodLink RP 25 yA_fill : Cond) ∈ bw := bwm 215 (by decide +kernel) (by decide +kernel)
theorem b_216 : (.static yA_fill : Cond) ∈ bw := bwm 216 (by decide +kernel) (by decide +kernel)
theorem b_217 : (kA_fill : Cond) ∈ bw := bwm 217 (by decide +kernel) (by decide +kernel)
theorem b_218 : (.methodLink RL 72 yL_put : Cond) ∈ bw := bwm 218 (by decide +kernel) (by decide +kernel)
theorem b_219 : (.static yL_put : Cond) ∈ bw := bwm 219 (by decide +kernel) (by decide +kernel)
theorem b_220 : (kL_put : Cond) ∈ bw := bwm 220 (by decide +kernel) (by decide +kernel)
theorem b_221 : (.methodLink RL 17 yT_put : Cond) ∈ bw := bwm 221 (by decide +kernel) (by decide +kernel)
theorem b_222 : (.instanceMethod yT_put : Cond) ∈ bw := bwm 222 (by decide +kernel) (by decide +kernel)
theorem b_223 : (.selects RT yT_put yT_put : Cond) ∈ bw := bwm 223 (by decide +kernel) (by decide +kernel)
theorem b_224 : (kT_put : Cond) ∈ bw := bwm 224 (by decide +kernel) (by decide +kernel)
theorem b_225 : (.methodLink RT 31 yT_planeWith : Cond) ∈ bw := bwm 225 (by decide +kernel) (by decide +kernel)
theorem b_227 : (.instanceMethod yT_planeWith : Cond) ∈ bw := bwm 227 (by decide +kernel) (by decide +kernel)
theorem b_228 : (kT_planeWith : Cond) ∈ bw := bwm 228 (by decide +kernel) (by decide +kernel)
theorem b_229 : (.methodLink RT 90 yP_has : Cond) ∈ bw := bwm 229 (by decide +kernel) (by decide +kernel)
theorem b_230 : (.instanceMethod yP_has : Cond) ∈ bw := bwm 230 (by decide +kernel) (by decide +kernel)
theorem b_231 : (.selects RP yP_has yP_has : Cond) ∈ bw := bwm 231 (by decide +kernel) (by decide +kernel)
theorem b_232 : (kP_has : Cond) ∈ bw := bwm 232 (by decide +kernel) (by decide +kernel)
theorem b_235 : (.methodLink RL 78 yL_row : Cond) ∈ bw := bwm 235 (by decide +kernel) (by decide +kernel)
theorem b_236 : (.static yL_row : Cond) ∈ bw := bwm 236 (by decide +kernel) (by decide +kernel)
theorem b_237 : (kL_row : Cond) ∈ bw := bwm 237 (by decide +kernel) (by decide +kernel)
theorem b_238 : (.methodLink RL 21 yT_row : Cond) ∈ bw := bwm 238 (by decide +kernel) (by decide +kernel)
theorem b_239 : (.instanceMethod yT_row : Cond) ∈ bw := bwm 239 (by decide +kernel) (by decide +kernel)
theorem b_240 : (.selects RT yT_row yT_row : Cond) ∈ bw := bwm 240 (by decide +kernel) (by decide +kernel)
theorem b_241 : (kT_row : Cond) ∈ bw := bwm 241 (by decide +kernel) (by decide +kernel)
theorem b_242 : (.methodLink RT 49 yT_shiftOfByte : Cond) ∈ bw := bwm 242 (by decide +kernel) (by decide +kernel)
theorem b_243 : (.static yT_shiftOfByte : Cond) ∈ bw := bwm 243 (by decide +kernel) (by decide +kernel)
theorem b_244 : (kT_shiftOfByte : Cond) ∈ bw := bwm 244 (by decide +kernel) (by decide +kernel)
theorem b_245 : (.methodLink RL 82 yL_grow : Cond) ∈ bw := bwm 245 (by decide +kernel) (by decide +kernel)
theorem b_246 : (.static yL_grow : Cond) ∈ bw := bwm 246 (by decide +kernel) (by decide +kernel)
theorem b_247 : (kL_grow : Cond) ∈ bw := bwm 247 (by decide +kernel) (by decide +kernel)
theorem b_248 : (.methodLink RL 25 yT_grow : Cond) ∈ bw := bwm 248 (by decide +kernel) (by decide +kernel)
theorem b_249 : (.instanceMethod yT_grow : Cond) ∈ bw := bwm 249 (by decide +kernel) (by decide +kernel)
theorem b_250 : (.selects RT yT_grow yT_grow : Cond) ∈ bw := bwm 250 (by decide +kernel) (by decide +kernel)
theorem b_251 : (kT_grow : Cond) ∈ bw := bwm 251 (by decide +kernel) (by decide +kernel)
theorem b_252 : (.methodLink RT 56 yP_growAcross : Cond) ∈ bw := bwm 252 (by decide +kernel) (by decide +kernel)
theorem b_253 : (.instanceMethod yP_growAcross : Cond) ∈ bw := bwm 253 (by decide +kernel) (by decide +kernel)
theorem b_254 : (.selects RP yP_growAcross yP_growAcross : Cond) ∈ bw := bwm 254 (by decide +kernel) (by decide +kernel)
theorem b_255 : (kP_growAcross : Cond) ∈ bw := bwm 255 (by decide +kernel) (by decide +kernel)
theorem b_257 : (.methodLink RP 41 yP_growLine : Cond) ∈ bw := bwm 257 (by decide +kernel) (by decide +kernel)
theorem b_259 : (.instanceMethod yP_growLine : Cond) ∈ bw := bwm 259 (by decide +kernel) (by decide +kernel)
theorem b_260 : (kP_growLine : Cond) ∈ bw := bwm 260 (by decide +kernel) (by decide +kernel)
theorem b_261 : (.methodLink RT 60 yP_growDown : Cond) ∈ bw := bwm 261 (by decide +kernel) (by decide +kernel)
theorem b_262 : (.instanceMethod yP_growDown : Cond) ∈ bw := bwm 262 (by decide +kernel) (by decide +kernel)
theorem b_263 : (.selects RP yP_growDown yP_growDown : Cond) ∈ bw := bwm 263 (by decide +kernel) (by decide +kernel)
theorem b_264 : (kP_growDown : Cond) ∈ bw := bwm 264 (by decide +kernel) (by decide +kernel)
theorem b_265 : (.methodLink RL 86 yL_shrink : Cond) ∈ bw := bwm 265 (by decide +kernel) (by decide +kernel)
theorem b_266 : (.static yL_shrink : Cond) ∈ bw := bwm 266 (by decide +kernel) (by decide +kernel)
theorem b_267 : (kL_shrink : Cond) ∈ bw := bwm 267 (by decide +kernel) (by decide +kernel)
theorem b_268 : (.methodLink RL 29 yT_shrink : Cond) ∈ bw := bwm 268 (by decide +kernel) (by decide +kernel)
theorem b_269 : (.instanceMethod yT_shrink : Cond) ∈ bw := bwm 269 (by decide +kernel) (by decide +kernel)
theorem b_270 : (.selects RT yT_shrink yT_shrink : Cond) ∈ bw := bwm 270 (by decide +kernel) (by decide +kernel)
theorem b_271 : (kT_shrink : Cond) ∈ bw := bwm 271 (by decide +kernel) (by decide +kernel)
theorem b_272 : (.methodLink RT 63 yP_shrinkAcross : Cond) ∈ bw := bwm 272 (by decide +kernel) (by decide +kernel)
theorem b_273 : (.instanceMethod yP_shrinkAcross : Cond) ∈ bw := bwm 273 (by decide +kernel) (by decide +kernel)
theorem b_274 : (.selects RP yP_shrinkAcross yP_shrinkAcross : Cond) ∈ bw := bwm 274 (by decide +kernel) (by decide +kernel)
theorem b_275 : (kP_shrinkAcross : Cond) ∈ bw := bwm 275 (by decide +kernel) (by decide +kernel)
theorem b_276 : (.methodLink RP 45 yP_shrinkLine : Cond) ∈ bw := bwm 276 (by decide +kernel) (by decide +kernel)
theorem b_278 : (.instanceMethod yP_shrinkLine : Cond) ∈ bw := bwm 278 (by decide +kernel) (by decide +kernel)
theorem b_279 : (kP_shrinkLine : Cond) ∈ bw := bwm 279 (by decide +kernel) (by decide +kernel)
theorem b_280 : (.methodLink RP 49 yP_half : Cond) ∈ bw := bwm 280 (by decide +kernel) (by decide +kernel)
theorem b_281 : (.static yP_half : Cond) ∈ bw := bwm 281 (by decide +kernel) (by decide +kernel)
theorem b_282 : (kP_half : Cond) ∈ bw := bwm 282 (by decide +kernel) (by decide +kernel)
theorem b_283 : (.methodLink RP 53 Lib.Math.min.name : Cond) ∈ bw := bwm 283 (by decide +kernel) (by decide +kernel)
theorem b_284 : (.methodLink RT 66 yP_shrinkDown : Cond) ∈ bw := bwm 284 (by decide +kernel) (by decide +kernel)
theorem b_285 : (.instanceMethod yP_shrinkDown : Cond) ∈ bw := bwm 285 (by decide +kernel) (by decide +kernel)
theorem b_286 : (.selects RP yP_shrinkDown yP_shrinkDown : Cond) ∈ bw := bwm 286 (by decide +kernel) (by decide +kernel)
theorem b_287 : (kP_shrinkDown : Cond) ∈ bw := bwm 287 (by decide +kernel) (by decide +kernel)
theorem b_288 : (.methodLink RT 69 yP_shrinkBoth : Cond) ∈ bw := bwm 288 (by decide +kernel) (by decide +kernel)
theorem b_289 : (.instanceMethod yP_shrinkBoth : Cond) ∈ bw := bwm 289 (by decide +kernel) (by decide +kernel)
theorem b_290 : (.selects RP yP_shrinkBoth yP_shrinkBoth : Cond) ∈ bw := bwm 290 (by decide +kernel) (by decide +kernel)
theorem b_291 : (kP_shrinkBoth : Cond) ∈ bw := bwm 291 (by decide +kernel) (by decide +kernel)
theorem b_292 : (.methodLink RP 58 yP_sumOfFour : Cond) ∈ bw := bwm 292 (by decide +kernel) (by decide +kernel)
theorem b_294 : (.instanceMethod yP_sumOfFour : Cond) ∈ bw := bwm 294 (by decide +kernel) (by decide +kernel)
theorem b_295 : (kP_sumOfFour : Cond) ∈ bw := bwm 295 (by decide +kernel) (by decide +kernel)
theorem b_296 : (.methodLink RL 94 yL_copy : Cond) ∈ bw := bwm 296 (by decide +kernel) (by decide +kernel)
theorem b_297 : (.static yL_copy : Cond) ∈ bw := bwm 297 (by decide +kernel) (by decide +kernel)
theorem b_298 : (kL_copy : Cond) ∈ bw := bwm 298 (by decide +kernel) (by decide +kernel)
theorem b_299 : (.methodLink RL 32 yT_copy : Cond) ∈ bw := bwm 299 (by decide +kernel) (by decide +kernel)
theorem b_300 : (.instanceMethod yT_copy : Cond) ∈ bw := bwm 300 (by decide +kernel) (by decide +kernel)
theorem b_301 : (.selects RT yT_copy yT_copy : Cond) ∈ bw := bwm 301 (by decide +kernel) (by decide +kernel)
theorem b_302 : (kT_copy : Cond) ∈ bw := bwm 302 (by decide +kernel) (by decide +kernel)
theorem b_303 : (.methodLink RT 79 yP_becomeLike : Cond) ∈ bw := bwm 303 (by decide +kernel) (by decide +kernel)
theorem b_304 : (.instanceMethod yP_becomeLike : Cond) ∈ bw := bwm 304 (by decide +kernel) (by decide +kernel)
theorem b_305 : (.selects RP yP_becomeLike yP_becomeLike : Cond) ∈ bw := bwm 305 (by decide +kernel) (by decide +kernel)
theorem b_306 : (kP_becomeLike : Cond) ∈ bw := bwm 306 (by decide +kernel) (by decide +kernel)
theorem b_307 : (.methodLink RP 31 arraycopyName : Cond) ∈ bw := bwm 307 (by decide +kernel) (by decide +kernel)
theorem b_308 : (.static arraycopyName : Cond) ∈ bw := bwm 308 (by decide +kernel) (by decide +kernel)
theorem b_309 : (.native arraycopyName : Cond) ∈ bw := bwm 309 (by decide +kernel) (by decide +kernel)
theorem b_310 : (.methodLink RL 98 yL_extend : Cond) ∈ bw := bwm 310 (by decide +kernel) (by decide +kernel)
theorem b_311 : (.static yL_extend : Cond) ∈ bw := bwm 311 (by decide +kernel) (by decide +kernel)
theorem b_312 : (kL_extend : Cond) ∈ bw := bwm 312 (by decide +kernel) (by decide +kernel)
theorem b_313 : (.methodLink RL 36 yT_extend : Cond) ∈ bw := bwm 313 (by decide +kernel) (by decide +kernel)
theorem b_314 : (.instanceMethod yT_extend : Cond) ∈ bw := bwm 314 (by decide +kernel) (by decide +kernel)
theorem b_315 : (.selects RT yT_extend yT_extend : Cond) ∈ bw := bwm 315 (by decide +kernel) (by decide +kernel)
theorem b_316 : (kT_extend : Cond) ∈ bw := bwm 316 (by decide +kernel) (by decide +kernel)
theorem b_317 : (.methodLink RT 83 yP_widen : Cond) ∈ bw := bwm 317 (by decide +kernel) (by decide +kernel)
theorem b_318 : (.instanceMethod yP_widen : Cond) ∈ bw := bwm 318 (by decide +kernel) (by decide +kernel)
theorem b_319 : (.selects RP yP_widen yP_widen : Cond) ∈ bw := bwm 319 (by decide +kernel) (by decide +kernel)
theorem b_320 : (kP_widen : Cond) ∈ bw := bwm 320 (by decide +kernel) (by decide +kernel)
theorem b_321 : (.methodLink RT 87 yP_deepen : Cond) ∈ bw := bwm 321 (by decide +kernel) (by decide +kernel)
theorem b_322 : (.instanceMethod yP_deepen : Cond) ∈ bw := bwm 322 (by decide +kernel) (by decide +kernel)
theorem b_323 : (.selects RP yP_deepen yP_deepen : Cond) ∈ bw := bwm 323 (by decide +kernel) (by decide +kernel)
theorem b_324 : (kP_deepen : Cond) ∈ bw := bwm 324 (by decide +kernel) (by decide +kernel)
theorem b_325 : (.methodLink RL 102 yL_cut : Cond) ∈ bw := bwm 325 (by decide +kernel) (by decide +kernel)
theorem b_326 : (.static yL_cut : Cond) ∈ bw := bwm 326 (by decide +kernel) (by decide +kernel)
theorem b_327 : (kL_cut : Cond) ∈ bw := bwm 327 (by decide +kernel) (by decide +kernel)
theorem b_328 : (.methodLink RL 40 yT_cut : Cond) ∈ bw := bwm 328 (by decide +kernel) (by decide +kernel)
theorem b_329 : (.instanceMethod yT_cut : Cond) ∈ bw := bwm 329 (by decide +kernel) (by decide +kernel)
theorem b_330 : (.selects RT yT_cut yT_cut : Cond) ∈ bw := bwm 330 (by decide +kernel) (by decide +kernel)
theorem b_331 : (kT_cut : Cond) ∈ bw := bwm 331 (by decide +kernel) (by decide +kernel)
theorem b_332 : (.methodLink RL 105 yL_at : Cond) ∈ bw := bwm 332 (by decide +kernel) (by decide +kernel)
theorem b_333 : (.static yL_at : Cond) ∈ bw := bwm 333 (by decide +kernel) (by decide +kernel)
theorem b_334 : (kL_at : Cond) ∈ bw := bwm 334 (by decide +kernel) (by decide +kernel)
theorem b_335 : (.methodLink RL 43 yT_at : Cond) ∈ bw := bwm 335 (by decide +kernel) (by decide +kernel)
theorem b_336 : (.instanceMethod yT_at : Cond) ∈ bw := bwm 336 (by decide +kernel) (by decide +kernel)
theorem b_337 : (.selects RT yT_at yT_at : Cond) ∈ bw := bwm 337 (by decide +kernel) (by decide +kernel)
theorem b_338 : (kT_at : Cond) ∈ bw := bwm 338 (by decide +kernel) (by decide +kernel)
theorem b_339 : (.methodLink RL 108 yL_eight : Cond) ∈ bw := bwm 339 (by decide +kernel) (by decide +kernel)
theorem b_340 : (.static yL_eight : Cond) ∈ bw := bwm 340 (by decide +kernel) (by decide +kernel)
theorem b_341 : (kL_eight : Cond) ∈ bw := bwm 341 (by decide +kernel) (by decide +kernel)
theorem b_342 : (.methodLink RL 47 yT_eight : Cond) ∈ bw := bwm 342 (by decide +kernel) (by decide +kernel)
theorem b_343 : (.instanceMethod yT_eight : Cond) ∈ bw := bwm 343 (by decide +kernel) (by decide +kernel)
theorem b_344 : (.selects RT yT_eight yT_eight : Cond) ∈ bw := bwm 344 (by decide +kernel) (by decide +kernel)
theorem b_345 : (kT_eight : Cond) ∈ bw := bwm 345 (by decide +kernel) (by decide +kernel)
theorem b_346 : (.methodLink RL 111 yL_apart : Cond) ∈ bw := bwm 346 (by decide +kernel) (by decide +kernel)
theorem b_347 : (.static yL_apart : Cond) ∈ bw := bwm 347 (by decide +kernel) (by decide +kernel)
theorem b_348 : (kL_apart : Cond) ∈ bw := bwm 348 (by decide +kernel) (by decide +kernel)
theorem b_349 : (.methodLink RL 51 yT_apart : Cond) ∈ bw := bwm 349 (by decide +kernel) (by decide +kernel)
theorem b_350 : (.instanceMethod yT_apart : Cond) ∈ bw := bwm 350 (by decide +kernel) (by decide +kernel)
theorem b_351 : (.selects RT yT_apart yT_apart : Cond) ∈ bw := bwm 351 (by decide +kernel) (by decide +kernel)
theorem b_352 : (kT_apart : Cond) ∈ bw := bwm 352 (by decide +kernel) (by decide +kernel)
theorem b_353 : (.methodLink RT 98 yP_greatestDifference : Cond) ∈ bw := bwm 353 (by decide +kernel) (by decide +kernel)
theorem b_354 : (.instanceMethod yP_greatestDifference : Cond) ∈ bw := bwm 354 (by decide +kernel) (by decide +kernel)
theorem b_355 : (.selects RP yP_greatestDifference yP_greatestDifference : Cond) ∈ bw := bwm 355 (by decide +kernel) (by decide +kernel)
theorem b_356 : (kP_greatestDifference : Cond) ∈ bw := bwm 356 (by decide +kernel) (by decide +kernel)
theorem b_357 : (.methodLink RP 61 Lib.Math.abs.name : Cond) ∈ bw := bwm 357 (by decide +kernel) (by decide +kernel)
theorem b_358 : (.static Lib.Math.abs.name : Cond) ∈ bw := bwm 358 (by decide +kernel) (by decide +kernel)
theorem b_359 : (.code Lib.Math.abs.name Lib.Math.abs.code 1 (some .int) : Cond) ∈ bw := bwm 359 (by decide +kernel) (by decide +kernel)
theorem b_360 : (.methodLink RP 64 Lib.Math.max.name : Cond) ∈ bw := bwm 360 (by decide +kernel) (by decide +kernel)
theorem b_361 : (.methodLink RL 114 yL_look : Cond) ∈ bw := bwm 361 (by decide +kernel) (by decide +kernel)
theorem b_362 : (.static yL_look : Cond) ∈ bw := bwm 362 (by decide +kernel) (by decide +kernel)
theorem b_363 : (kL_look : Cond) ∈ bw := bwm 363 (by decide +kernel) (by decide +kernel)
theorem b_364 : (.methodLink RL 55 yT_look : Cond) ∈ bw := bwm 364 (by decide +kernel) (by decide +kernel)
theorem b_365 : (.instanceMethod yT_look : Cond) ∈ bw := bwm 365 (by decide +kernel) (by decide +kernel)
theorem b_366 : (.selects RT yT_look yT_look : Cond) ∈ bw := bwm 366 (by decide +kernel) (by decide +kernel)
theorem b_367 : (kT_look : Cond) ∈ bw := bwm 367 (by decide +kernel) (by decide +kernel)
theorem b_368 : (.methodLink RT 102 yP_sum : Cond) ∈ bw := bwm 368 (by decide +kernel) (by decide +kernel)
theorem b_369 : (.instanceMethod yP_sum : Cond) ∈ bw := bwm 369 (by decide +kernel) (by decide +kernel)
theorem b_370 : (.selects RP yP_sum yP_sum : Cond) ∈ bw := bwm 370 (by decide +kernel) (by decide +kernel)
theorem b_371 : (kP_sum : Cond) ∈ bw := bwm 371 (by decide +kernel) (by decide +kernel)
theorem b_372 : (.methodLink RT 106 yP_least : Cond) ∈ bw := bwm 372 (by decide +kernel) (by decide +kernel)
theorem b_373 : (.instanceMethod yP_least : Cond) ∈ bw := bwm 373 (by decide +kernel) (by decide +kernel)
theorem b_374 : (.selects RP yP_least yP_least : Cond) ∈ bw := bwm 374 (by decide +kernel) (by decide +kernel)
theorem b_375 : (kP_least : Cond) ∈ bw := bwm 375 (by decide +kernel) (by decide +kernel)
theorem b_376 : (.methodLink RT 109 yP_greatest : Cond) ∈ bw := bwm 376 (by decide +kernel) (by decide +kernel)
theorem b_377 : (.instanceMethod yP_greatest : Cond) ∈ bw := bwm 377 (by decide +kernel) (by decide +kernel)
theorem b_378 : (.selects RP yP_greatest yP_greatest : Cond) ∈ bw := bwm 378 (by decide +kernel) (by decide +kernel)
theorem b_379 : (kP_greatest : Cond) ∈ bw := bwm 379 (by decide +kernel) (by decide +kernel)
theorem b_380 : (.classLink RL 59 RM : Cond) ∈ bw := bwm 380 (by decide +kernel) (by decide +kernel)
theorem b_381 : (.instantiable RM 7 : Cond) ∈ bw := bwm 381 (by decide +kernel) (by decide +kernel)
theorem b_382 : (.methodLink RL 61 yM_init : Cond) ∈ bw := bwm 382 (by decide +kernel) (by decide +kernel)
theorem b_383 : (.instanceMethod yM_init : Cond) ∈ bw := bwm 383 (by decide +kernel) (by decide +kernel)
theorem b_384 : (kM_init : Cond) ∈ bw := bwm 384 (by decide +kernel) (by decide +kernel)
theorem b_385 : (.methodLink RM 1 objectInit : Cond) ∈ bw := bwm 385 (by decide +kernel) (by decide +kernel)
theorem b_386 : (.fieldLink RM 22 "ToneMixerModel" "thrown" "I" : Cond) ∈ bw := bwm 386 (by decide +kernel) (by decide +kernel)
theorem b_387 : (.fieldLink RM 7 "ToneMixerModel" "w" "[I" : Cond) ∈ bw := bwm 387 (by decide +kernel) (by decide +kernel)
theorem b_388 : (.fieldLink RM 13 "ToneMixerModel" "h" "[I" : Cond) ∈ bw := bwm 388 (by decide +kernel) (by decide +kernel)
theorem b_389 : (.fieldLink RM 16 "ToneMixerModel" "sample" "[I" : Cond) ∈ bw := bwm 389 (by decide +kernel) (by decide +kernel)
theorem b_390 : (.fieldLink RM 19 "ToneMixerModel" "old" "[I" : Cond) ∈ bw := bwm 390 (by decide +kernel) (by decide +kernel)
theorem b_391 : (.fieldLink RM 34 "ToneMixerModel" "oldW" "I" : Cond) ∈ bw := bwm 391 (by decide +kernel) (by decide +kernel)
theorem b_392 : (.fieldLink RM 37 "ToneMixerModel" "oldH" "I" : Cond) ∈ bw := bwm 392 (by decide +kernel) (by decide +kernel)
theorem b_393 : (.lays RM "ToneMixerModel" "thrown" "I" : Cond) ∈ bw := bwm 393 (by decide +kernel) (by decide +kernel)
theorem b_395 : (.laysFinal RM "ToneMixerModel" "w" "[I" : Cond) ∈ bw := bwm 395 (by decide +kernel) (by decide +kernel)
theorem b_397 : (.laysFinal RM "ToneMixerModel" "h" "[I" : Cond) ∈ bw := bwm 397 (by decide +kernel) (by decide +kernel)
theorem b_399 : (.laysFinal RM "ToneMixerModel" "sample" "[I" : Cond) ∈ bw := bwm 399 (by decide +kernel) (by decide +kernel)
theorem b_401 : (.laysFinal RM "ToneMixerModel" "old" "[I" : Cond) ∈ bw := bwm 401 (by decide +kernel) (by decide +kernel)
theorem b_403 : (.lays RM "ToneMixerModel" "oldW" "I" : Cond) ∈ bw := bwm 403 (by decide +kernel) (by decide +kernel)
theorem b_405 : (.lays RM "ToneMixerModel" "oldH" "I" : Cond) ∈ bw := bwm 405 (by decide +kernel) (by decide +kernel)
theorem b_408 : (.methodLink RL 68 yM_thrown : Cond) ∈ bw := bwm 408 (by decide +kernel) (by decide +kernel)
theorem b_409 : (.instanceMethod yM_thrown : Cond) ∈ bw := bwm 409 (by decide +kernel) (by decide +kernel)
theorem b_410 : (.selects RM yM_thrown yM_thrown : Cond) ∈ bw := bwm 410 (by decide +kernel) (by decide +kernel)
theorem b_411 : (kM_thrown : Cond) ∈ bw := bwm 411 (by decide +kernel) (by decide +kernel)
theorem b_412 : (.methodLink RL 67 yM_size : Cond) ∈ bw := bwm 412 (by decide +kernel) (by decide +kernel)
theorem b_413 : (.instanceMethod yM_size : Cond) ∈ bw := bwm 413 (by decide +kernel) (by decide +kernel)
theorem b_414 : (.selects RM yM_size yM_size : Cond) ∈ bw := bwm 414 (by decide +kernel) (by decide +kernel)
theorem b_415 : (kM_size : Cond) ∈ bw := bwm 415 (by decide +kernel) (by decide +kernel)
theorem b_416 : (.methodLink RM 30 yM_isPlane : Cond) ∈ bw := bwm 416 (by decide +kernel) (by decide +kernel)
theorem b_417 : (.static yM_isPlane : Cond) ∈ bw := bwm 417 (by decide +kernel) (by decide +kernel)
theorem b_418 : (kM_isPlane : Cond) ∈ bw := bwm 418 (by decide +kernel) (by decide +kernel)
theorem b_419 : (.methodLink RM 26 yM_in : Cond) ∈ bw := bwm 419 (by decide +kernel) (by decide +kernel)
theorem b_420 : (.static yM_in : Cond) ∈ bw := bwm 420 (by decide +kernel) (by decide +kernel)
theorem b_421 : (kM_in : Cond) ∈ bw := bwm 421 (by decide +kernel) (by decide +kernel)
theorem b_422 : (.methodLink RM 40 yM_goes : Cond) ∈ bw := bwm 422 (by decide +kernel) (by decide +kernel)
theorem b_424 : (.instanceMethod yM_goes : Cond) ∈ bw := bwm 424 (by decide +kernel) (by decide +kernel)
theorem b_425 : (kM_goes : Cond) ∈ bw := bwm 425 (by decide +kernel) (by decide +kernel)
theorem b_426 : (.methodLink RL 75 yM_put : Cond) ∈ bw := bwm 426 (by decide +kernel) (by decide +kernel)
theorem b_427 : (.instanceMethod yM_put : Cond) ∈ bw := bwm 427 (by decide +kernel) (by decide +kernel)
theorem b_428 : (.selects RM yM_put yM_put : Cond) ∈ bw := bwm 428 (by decide +kernel) (by decide +kernel)
theorem b_429 : (kM_put : Cond) ∈ bw := bwm 429 (by decide +kernel) (by decide +kernel)
theorem b_430 : (.methodLink RM 44 yM_isSample : Cond) ∈ bw := bwm 430 (by decide +kernel) (by decide +kernel)
theorem b_432 : (.instanceMethod yM_isSample : Cond) ∈ bw := bwm 432 (by decide +kernel) (by decide +kernel)
theorem b_433 : (kM_isSample : Cond) ∈ bw := bwm 433 (by decide +kernel) (by decide +kernel)
theorem b_434 : (.methodLink RM 47 yM_cell : Cond) ∈ bw := bwm 434 (by decide +kernel) (by decide +kernel)
theorem b_435 : (.static yM_cell : Cond) ∈ bw := bwm 435 (by decide +kernel) (by decide +kernel)
theorem b_436 : (kM_cell : Cond) ∈ bw := bwm 436 (by decide +kernel) (by decide +kernel)
theorem b_437 : (.methodLink RL 81 yM_row : Cond) ∈ bw := bwm 437 (by decide +kernel) (by decide +kernel)
theorem b_438 : (.instanceMethod yM_row : Cond) ∈ bw := bwm 438 (by decide +kernel) (by decide +kernel)
theorem b_439 : (.selects RM yM_row yM_row : Cond) ∈ bw := bwm 439 (by decide +kernel) (by decide +kernel)
theorem b_440 : (kM_row : Cond) ∈ bw := bwm 440 (by decide +kernel) (by decide +kernel)
theorem b_441 : (.constantLong RM 51 (255) : Cond) ∈ bw := bwm 441 (by decide +kernel) (by decide +kernel)
theorem b_442 : (.methodLink RL 85 yM_grow : Cond) ∈ bw := bwm 442 (by decide +kernel) (by decide +kernel)
theorem b_443 : (.instanceMethod yM_grow : Cond) ∈ bw := bwm 443 (by decide +kernel) (by decide +kernel)
theorem b_444 : (.selects RM yM_grow yM_grow : Cond) ∈ bw := bwm 444 (by decide +kernel) (by decide +kernel)
theorem b_445 : (kM_grow : Cond) ∈ bw := bwm 445 (by decide +kernel) (by decide +kernel)
theorem b_446 : (.methodLink RM 61 yM_across : Cond) ∈ bw := bwm 446 (by decide +kernel) (by decide +kernel)
theorem b_448 : (.instanceMethod yM_across : Cond) ∈ bw := bwm 448 (by decide +kernel) (by decide +kernel)
theorem b_449 : (kM_across : Cond) ∈ bw := bwm 449 (by decide +kernel) (by decide +kernel)
theorem b_450 : (.methodLink RM 53 yM_keep : Cond) ∈ bw := bwm 450 (by decide +kernel) (by decide +kernel)
theorem b_452 : (.instanceMethod yM_keep : Cond) ∈ bw := bwm 452 (by decide +kernel) (by decide +kernel)
theorem b_453 : (kM_keep : Cond) ∈ bw := bwm 453 (by decide +kernel) (by decide +kernel)
theorem b_454 : (.methodLink RM 57 yM_was : Cond) ∈ bw := bwm 454 (by decide +kernel) (by decide +kernel)
theorem b_456 : (.instanceMethod yM_was : Cond) ∈ bw := bwm 456 (by decide +kernel) (by decide +kernel)
theorem b_457 : (kM_was : Cond) ∈ bw := bwm 457 (by decide +kernel) (by decide +kernel)
theorem b_458 : (.methodLink RM 65 yM_down : Cond) ∈ bw := bwm 458 (by decide +kernel) (by decide +kernel)
theorem b_460 : (.instanceMethod yM_down : Cond) ∈ bw := bwm 460 (by decide +kernel) (by decide +kernel)
theorem b_461 : (kM_down : Cond) ∈ bw := bwm 461 (by decide +kernel) (by decide +kernel)
theorem b_462 : (.methodLink RL 88 yM_shrink : Cond) ∈ bw := bwm 462 (by decide +kernel) (by decide +kernel)
theorem b_463 : (.instanceMethod yM_shrink : Cond) ∈ bw := bwm 463 (by decide +kernel) (by decide +kernel)
theorem b_464 : (.selects RM yM_shrink yM_shrink : Cond) ∈ bw := bwm 464 (by decide +kernel) (by decide +kernel)
theorem b_465 : (kM_shrink : Cond) ∈ bw := bwm 465 (by decide +kernel) (by decide +kernel)
theorem b_466 : (.methodLink RL 93 yM_mix : Cond) ∈ bw := bwm 466 (by decide +kernel) (by decide +kernel)
theorem b_467 : (.instanceMethod yM_mix : Cond) ∈ bw := bwm 467 (by decide +kernel) (by decide +kernel)
theorem b_468 : (.selects RM yM_mix yM_mix : Cond) ∈ bw := bwm 468 (by decide +kernel) (by decide +kernel)
theorem b_469 : (kM_mix : Cond) ∈ bw := bwm 469 (by decide +kernel) (by decide +kernel)
theorem b_470 : (.methodLink RM 85 yM_isSame : Cond) ∈ bw := bwm 470 (by decide +kernel) (by decide +kernel)
theorem b_472 : (.instanceMethod yM_isSame : Cond) ∈ bw := bwm 472 (by decide +kernel) (by decide +kernel)
theorem b_473 : (kM_isSame : Cond) ∈ bw := bwm 473 (by decide +kernel) (by decide +kernel)
theorem b_474 : (.methodLink RM 89 yM_mixAll : Cond) ∈ bw := bwm 474 (by decide +kernel) (by decide +kernel)
theorem b_476 : (.instanceMethod yM_mixAll : Cond) ∈ bw := bwm 476 (by decide +kernel) (by decide +kernel)
theorem b_477 : (kM_mixAll : Cond) ∈ bw := bwm 477 (by decide +kernel) (by decide +kernel)
theorem b_478 : (.methodLink RM 81 yM_mixed : Cond) ∈ bw := bwm 478 (by decide +kernel) (by decide +kernel)
theorem b_479 : (.static yM_mixed : Cond) ∈ bw := bwm 479 (by decide +kernel) (by decide +kernel)
theorem b_480 : (kM_mixed : Cond) ∈ bw := bwm 480 (by decide +kernel) (by decide +kernel)
theorem b_481 : (.constant RM 70 (91881) : Cond) ∈ bw := bwm 481 (by decide +kernel) (by decide +kernel)
theorem b_482 : (.constant RM 71 (46802) : Cond) ∈ bw := bwm 482 (by decide +kernel) (by decide +kernel)
theorem b_483 : (.constant RM 72 (116130) : Cond) ∈ bw := bwm 483 (by decide +kernel) (by decide +kernel)
theorem b_484 : (.constant RM 69 (32768) : Cond) ∈ bw := bwm 484 (by decide +kernel) (by decide +kernel)
theorem b_485 : (.methodLink RM 73 yM_limit : Cond) ∈ bw := bwm 485 (by decide +kernel) (by decide +kernel)
theorem b_486 : (.static yM_limit : Cond) ∈ bw := bwm 486 (by decide +kernel) (by decide +kernel)
theorem b_487 : (kM_limit : Cond) ∈ bw := bwm 487 (by decide +kernel) (by decide +kernel)
theorem b_488 : (.methodLink RM 77 yM_grey : Cond) ∈ bw := bwm 488 (by decide +kernel) (by decide +kernel)
theorem b_489 : (.static yM_grey : Cond) ∈ bw := bwm 489 (by decide +kernel) (by decide +kernel)
theorem b_490 : (kM_grey : Cond) ∈ bw := bwm 490 (by decide +kernel) (by decide +kernel)
theorem b_491 : (.constant RM 68 (38470) : Cond) ∈ bw := bwm 491 (by decide +kernel) (by decide +kernel)
theorem b_492 : (.constant RM 80 (8421375) : Cond) ∈ bw := bwm 492 (by decide +kernel) (by decide +kernel)
theorem b_493 : (.methodLink RL 97 yM_copy : Cond) ∈ bw := bwm 493 (by decide +kernel) (by decide +kernel)
theorem b_494 : (.instanceMethod yM_copy : Cond) ∈ bw := bwm 494 (by decide +kernel) (by decide +kernel)
theorem b_495 : (.selects RM yM_copy yM_copy : Cond) ∈ bw := bwm 495 (by decide +kernel) (by decide +kernel)
theorem b_496 : (kM_copy : Cond) ∈ bw := bwm 496 (by decide +kernel) (by decide +kernel)
theorem b_497 : (.methodLink RL 101 yM_extend : Cond) ∈ bw := bwm 497 (by decide +kernel) (by decide +kernel)
theorem b_498 : (.instanceMethod yM_extend : Cond) ∈ bw := bwm 498 (by decide +kernel) (by decide +kernel)
theorem b_499 : (.selects RM yM_extend yM_extend : Cond) ∈ bw := bwm 499 (by decide +kernel) (by decide +kernel)
theorem b_500 : (kM_extend : Cond) ∈ bw := bwm 500 (by decide +kernel) (by decide +kernel)
theorem b_501 : (.methodLink RL 104 yM_cut : Cond) ∈ bw := bwm 501 (by decide +kernel) (by decide +kernel)
theorem b_502 : (.instanceMethod yM_cut : Cond) ∈ bw := bwm 502 (by decide +kernel) (by decide +kernel)
theorem b_503 : (.selects RM yM_cut yM_cut : Cond) ∈ bw := bwm 503 (by decide +kernel) (by decide +kernel)
theorem b_504 : (kM_cut : Cond) ∈ bw := bwm 504 (by decide +kernel) (by decide +kernel)
theorem b_505 : (.methodLink RL 107 yM_at : Cond) ∈ bw := bwm 505 (by decide +kernel) (by decide +kernel)
theorem b_506 : (.instanceMethod yM_at : Cond) ∈ bw := bwm 506 (by decide +kernel) (by decide +kernel)
theorem b_507 : (.selects RM yM_at yM_at : Cond) ∈ bw := bwm 507 (by decide +kernel) (by decide +kernel)
theorem b_508 : (kM_at : Cond) ∈ bw := bwm 508 (by decide +kernel) (by decide +kernel)
theorem b_509 : (.methodLink RL 110 yM_eight : Cond) ∈ bw := bwm 509 (by decide +kernel) (by decide +kernel)
theorem b_510 : (.instanceMethod yM_eight : Cond) ∈ bw := bwm 510 (by decide +kernel) (by decide +kernel)
theorem b_511 : (.selects RM yM_eight yM_eight : Cond) ∈ bw := bwm 511 (by decide +kernel) (by decide +kernel)
theorem b_512 : (kM_eight : Cond) ∈ bw := bwm 512 (by decide +kernel) (by decide +kernel)
theorem b_513 : (.methodLink RL 113 yM_apart : Cond) ∈ bw := bwm 513 (by decide +kernel) (by decide +kernel)
theorem b_514 : (.instanceMethod yM_apart : Cond) ∈ bw := bwm 514 (by decide +kernel) (by decide +kernel)
theorem b_515 : (.selects RM yM_apart yM_apart : Cond) ∈ bw := bwm 515 (by decide +kernel) (by decide +kernel)
theorem b_516 : (kM_apart : Cond) ∈ bw := bwm 516 (by decide +kernel) (by decide +kernel)
theorem b_517 : (.methodLink RL 116 yM_look : Cond) ∈ bw := bwm 517 (by decide +kernel) (by decide +kernel)
theorem b_518 : (.instanceMethod yM_look : Cond) ∈ bw := bwm 518 (by decide +kernel) (by decide +kernel)
theorem b_519 : (.selects RM yM_look yM_look : Cond) ∈ bw := bwm 519 (by decide +kernel) (by decide +kernel)
theorem b_520 : (kM_look : Cond) ∈ bw := bwm 520 (by decide +kernel) (by decide +kernel)
theorem b_521 : (.constantLong RL 76 (4294967295) : Cond) ∈ bw := bwm 521 (by decide +kernel) (by decide +kernel)
theorem b_522 : (.arrayClass .long : Cond) ∈ bw := bwm 522 (by decide +kernel) (by decide +kernel)
theorem bs_0 : (.selects RT yT_firstAreOfOneSize yT_firstAreOfOneSize : Cond) ∈ bw := bws 0 (by decide +kernel) (by decide +kernel)
theorem bs_1 : (.selects RT yT_mixPlace yT_mixPlace : Cond) ∈ bw := bws 1 (by decide +kernel) (by decide +kernel)
theorem bs_2 : (.selects RT yT_open yT_open : Cond) ∈ bw := bws 2 (by decide +kernel) (by decide +kernel)
theorem bs_3 : (.selects RT yT_setColours yT_setColours : Cond) ∈ bw := bws 3 (by decide +kernel) (by decide +kernel)
theorem bs_4 : (.selects RT yT_close yT_close : Cond) ∈ bw := bws 4 (by decide +kernel) (by decide +kernel)
theorem bs_5 : (.selects RT yT_invert yT_invert : Cond) ∈ bw := bws 5 (by decide +kernel) (by decide +kernel)
theorem bs_6 : (.selects RT yT_darken yT_darken : Cond) ∈ bw := bws 6 (by decide +kernel) (by decide +kernel)
theorem bs_7 : (.selects RT yT_grey yT_grey : Cond) ∈ bw := bws 7 (by decide +kernel) (by decide +kernel)
theorem bs_8 : (.selects RT yT_planeOf yT_planeOf : Cond) ∈ bw := bws 8 (by decide +kernel) (by decide +kernel)
theorem bs_10 : (.selects RT yT_planeWith yT_planeWith : Cond) ∈ bw := bws 10 (by decide +kernel) (by decide +kernel)
theorem bs_11 : (.selects RP yP_growLine yP_growLine : Cond) ∈ bw := bws 11 (by decide +kernel) (by decide +kernel)
theorem bs_12 : (.selects RP yP_shrinkLine yP_shrinkLine : Cond) ∈ bw := bws 12 (by decide +kernel) (by decide +kernel)
theorem bs_13 : (.selects RP yP_sumOfFour yP_sumOfFour : Cond) ∈ bw := bws 13 (by decide +kernel) (by decide +kernel)
theorem bs_14 : (.selects RM yM_goes yM_goes : Cond) ∈ bw := bws 14 (by decide +kernel) (by decide +kernel)
theorem bs_15 : (.selects RM yM_isSample yM_isSample : Cond) ∈ bw := bws 15 (by decide +kernel) (by decide +kernel)
theorem bs_16 : (.selects RM yM_across yM_across : Cond) ∈ bw := bws 16 (by decide +kernel) (by decide +kernel)
theorem bs_17 : (.selects RM yM_keep yM_keep : Cond) ∈ bw := bws 17 (by decide +kernel) (by decide +kernel)
theorem bs_18 : (.selects RM yM_was yM_was : Cond) ∈ bw := bws 18 (by decide +kernel) (by decide +kernel)
theorem bs_19 : (.selects RM yM_down yM_down : Cond) ∈ bw := bws 19 (by decide +kernel) (by decide +kernel)
theorem bs_20 : (.selects RM yM_isSame yM_isSame : Cond) ∈ bw := bws 20 (by decide +kernel) (by decide +kernel)
theorem bs_21 : (.selects RM yM_mixAll yM_mixAll : Cond) ∈ bw := bws 21 (by decide +kernel) (by decide +kernel)
theorem hbP : ∀ w ∈ u_ws RP TP 4, w ∈ bw := by
  intro w hw
  obtain ⟨k, hk, rfl⟩ := List.mem_map.mp hw
  have hk := List.mem_range.mp hk
  match k, hk with
  | 0, _ => exact b_34
  | 1, _ => exact b_36
  | 2, _ => exact b_38
  | 3, _ => exact b_40
  | n + 4, h => omega
theorem hbT : ∀ w ∈ u_ws RT TT 1, w ∈ bw := by
  intro w hw
  obtain ⟨k, hk, rfl⟩ := List.mem_map.mp hw
  have hk := List.mem_range.mp hk
  match k, hk with
  | 0, _ => exact b_45
  | n + 1, h => omega
theorem hbM : ∀ w ∈ u_ws RM TM 7, w ∈ bw := by
  intro w hw
  obtain ⟨k, hk, rfl⟩ := List.mem_map.mp hw
  have hk := List.mem_range.mp hk
  match k, hk with
  | 0, _ => exact b_393
  | 1, _ => exact b_395
  | 2, _ => exact b_397
  | 3, _ => exact b_399
  | 4, _ => exact b_401
  | 5, _ => exact b_403
  | 6, _ => exact b_405
  | n + 7, h => omega
