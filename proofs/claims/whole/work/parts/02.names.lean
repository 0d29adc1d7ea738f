/-! names, by program (gennames.py), out of the tables of the Statement -/
def RE : String := "PlanValues$Equations"
def TE : u_T := fun k => match k with
  | _ => ("PlanValues$Equations", "rows", "[[J", true)
def YE : Nat → FieldType := fun k => match k with
  | _ => (.array (.array .long))
def RL : String := "PlanValues$LongRun"
def TL : u_T := fun k => match k with
  | 0 => ("PlanValues$LongRun", "equations", "LPlanValues$Equations;", true)
  | 1 => ("PlanValues$LongRun", "numbers", "LPlanValues$Numbers;", true)
  | 2 => ("PlanValues$LongRun", "reach", "[I", true)
  | _ => ("PlanValues$LongRun", "homes", "[I", true)
def YL : Nat → FieldType := fun k => match k with
  | 0 => (.object "PlanValues$Equations")
  | 1 => (.object "PlanValues$Numbers")
  | 2 => (.array .int)
  | _ => (.array .int)
def RU : String := "PlanValues$Numbers"
def TU : u_T := fun k => match k with
  | 0 => ("PlanValues$Numbers", "uppers", "[J", true)
  | _ => ("PlanValues$Numbers", "lower", "J", false)
def YU : Nat → FieldType := fun k => match k with
  | 0 => (.array .long)
  | _ => .long
def RP : String := "PlanValues$PlanWorths"
def TP : u_T := fun k => match k with
  | 0 => ("PlanValues$PlanWorths", "equations", "LPlanValues$Equations;", true)
  | _ => ("PlanValues$PlanWorths", "numbers", "LPlanValues$Numbers;", true)
def YP : Nat → FieldType := fun k => match k with
  | 0 => (.object "PlanValues$Equations")
  | _ => (.object "PlanValues$Numbers")
def RW : String := "PlanValues$Walks"
def TW : u_T := fun k => match k with
  | 0 => ("PlanValues$Walks", "states", "I", false)
  | 1 => ("PlanValues$Walks", "shareUpper", "I", false)
  | 2 => ("PlanValues$Walks", "shareLower", "I", false)
  | 3 => ("PlanValues$Walks", "theirs", "[Z", true)
  | 4 => ("PlanValues$Walks", "acts", "[I", true)
  | 5 => ("PlanValues$Walks", "pays", "[I", true)
  | 6 => ("PlanValues$Walks", "totals", "[I", true)
  | _ => ("PlanValues$Walks", "weights", "[[I", true)
def YW : Nat → FieldType := fun k => match k with
  | 0 => .int
  | 1 => .int
  | 2 => .int
  | 3 => (.array .boolean)
  | 4 => (.array .int)
  | 5 => (.array .int)
  | 6 => (.array .int)
  | _ => (.array (.array .int))
def RV : String := "PlanValues"
def TV : u_T := fun k => match k with
  | 0 => ("PlanValues", "walks", "LPlanValues$Walks;", true)
  | 1 => ("PlanValues", "worths", "LPlanValues$PlanWorths;", true)
  | 2 => ("PlanValues", "longRun", "LPlanValues$LongRun;", true)
  | 3 => ("PlanValues", "stepNumbers", "LPlanValues$Numbers;", true)
  | 4 => ("PlanValues", "nextNumbers", "[J", true)
  | 5 => ("PlanValues", "toldPlan", "[I", true)
  | 6 => ("PlanValues", "valuePlan", "[I", true)
  | 7 => ("PlanValues", "trialPlan", "[I", true)
  | 8 => ("PlanValues", "answerUpper", "J", false)
  | _ => ("PlanValues", "answerLower", "J", false)
def YV : Nat → FieldType := fun k => match k with
  | 0 => (.object "PlanValues$Walks")
  | 1 => (.object "PlanValues$PlanWorths")
  | 2 => (.object "PlanValues$LongRun")
  | 3 => (.object "PlanValues$Numbers")
  | 4 => (.array .long)
  | 5 => (.array .int)
  | 6 => (.array .int)
  | 7 => (.array .int)
  | 8 => .long
  | _ => .long
def RM : String := "PlanValuesModel"
def TM : u_T := fun k => match k with
  | 0 => ("PlanValuesModel", "thrown", "I", false)
  | 1 => ("PlanValuesModel", "states", "I", false)
  | 2 => ("PlanValuesModel", "theirs", "[Z", false)
  | 3 => ("PlanValuesModel", "acts", "[I", false)
  | 4 => ("PlanValuesModel", "pays", "[I", false)
  | 5 => ("PlanValuesModel", "weights", "[I", false)
  | 6 => ("PlanValuesModel", "chosen", "[I", false)
  | 7 => ("PlanValuesModel", "upShare", "I", false)
  | 8 => ("PlanValuesModel", "downShare", "I", false)
  | 9 => ("PlanValuesModel", "up", "J", false)
  | 10 => ("PlanValuesModel", "down", "J", false)
  | 11 => ("PlanValuesModel", "cell", "[J", false)
  | 12 => ("PlanValuesModel", "right", "[J", false)
  | 13 => ("PlanValuesModel", "sum", "[J", false)
  | 14 => ("PlanValuesModel", "plans", "I", false)
  | 15 => ("PlanValuesModel", "upper", "[J", false)
  | 16 => ("PlanValuesModel", "lower", "[J", false)
  | 17 => ("PlanValuesModel", "valueAt", "[I", false)
  | 18 => ("PlanValuesModel", "common", "I", false)
  | 19 => ("PlanValuesModel", "shared", "I", false)
  | 20 => ("PlanValuesModel", "actUp", "J", false)
  | 21 => ("PlanValuesModel", "actDown", "J", false)
  | 22 => ("PlanValuesModel", "now", "[J", false)
  | 23 => ("PlanValuesModel", "then", "[J", false)
  | 24 => ("PlanValuesModel", "gainUp", "J", false)
  | _ => ("PlanValuesModel", "gainDown", "J", false)
def YM : Nat → FieldType := fun k => match k with
  | 0 => .int
  | 1 => .int
  | 2 => (.array .boolean)
  | 3 => (.array .int)
  | 4 => (.array .int)
  | 5 => (.array .int)
  | 6 => (.array .int)
  | 7 => .int
  | 8 => .int
  | 9 => .long
  | 10 => .long
  | 11 => (.array .long)
  | 12 => (.array .long)
  | 13 => (.array .long)
  | 14 => .int
  | 15 => (.array .long)
  | 16 => (.array .long)
  | 17 => (.array .int)
  | 18 => .int
  | 19 => .int
  | 20 => .long
  | 21 => .long
  | 22 => (.array .long)
  | 23 => (.array .long)
  | 24 => .long
  | _ => .long
abbrev vwCl : List vw_C := [(RE, TE, 1), (RL, TL, 4), (RU, TU, 2), (RP, TP, 2), (RW, TW, 8), (RV, TV, 10), (RM, TM, 26)]
def TT : List Cond := lw_tbl.filter goodWord
theorem TT_good : ∀ w ∈ TT, w ∈ TT ∧ ((w.onTables && w.keeps) = true ∨ ∃ ty, w = .arrayClass ty) := fun w h => ⟨h, good_of_word (List.mem_filter.mp h).2⟩
def nnKind : Cond → Bool
  | .fieldLinkNest .. => true
  | .methodLinkNest .. => true
  | .arrayOver (.array _) => true
  | _ => false
def NN : List Cond := tables_1.filter nnKind
theorem NN_kind : ∀ w ∈ NN, nnKind w = true := fun w h => (List.mem_filter.mp h).2
/-- what must be known of a class so that its fields can be read and written -/
def Wr (C : String) (T : u_T) (N : Nat) (ty0 : Nat → FieldType) : Prop := (∀ w ∈ u_ws C T N, w ∈ TT) ∧ (∀ k, k < N → parseFieldDescriptor (T k).2.2.1 = some (ty0 k)) ∧ ∀ a, a < N → ∀ b, b < N → a ≠ b → (T a).2.1 ≠ (T b).2.1
set_option maxRecDepth 100000 in
theorem wrE : Wr RE TE 1 YE := ⟨by decide +kernel, by decide +kernel, by decide +kernel⟩
set_option maxRecDepth 100000 in
theorem wrL : Wr RL TL 4 YL := ⟨by decide +kernel, by decide +kernel, by decide +kernel⟩
set_option maxRecDepth 100000 in
theorem wrU : Wr RU TU 2 YU := ⟨by decide +kernel, by decide +kernel, by decide +kernel⟩
set_option maxRecDepth 100000 in
theorem wrP : Wr RP TP 2 YP := ⟨by decide +kernel, by decide +kernel, by decide +kernel⟩
set_option maxRecDepth 100000 in
theorem wrW : Wr RW TW 8 YW := ⟨by decide +kernel, by decide +kernel, by decide +kernel⟩
set_option maxRecDepth 100000 in
theorem wrV : Wr RV TV 10 YV := ⟨by decide +kernel, by decide +kernel, by decide +kernel⟩
set_option maxRecDepth 100000 in
theorem wrM : Wr RM TM 26 YM := ⟨by decide +kernel, by decide +kernel, by decide +kernel⟩
/-- what must be known of a method that is called -/
def Yk (y : MethodName) (code : ByteArray) (maxL : Nat) (rt : Option FieldType) (na : Nat) : Prop := Cond.code y code maxL rt ∈ TT ∧ Cond.initialized y.cls ∈ TT ∧ y.cls ≠ "java/lang/invoke/MethodHandle" ∧ y.cls ≠ "java/lang/invoke/VarHandle" ∧ (parseMethodDescriptor y.desc).map (fun d => d.parameters.length) = some na
abbrev c_V_init : ByteArray := prog_1_method_1_code
def y_V_init : MethodName := ⟨RV, "<init>", "()V"⟩
set_option maxRecDepth 100000 in
theorem k_V_init : Yk y_V_init c_V_init 1 none 0 := ⟨List.mem_filter.mpr ⟨List.mem_append_right _ (by decide +kernel), rfl⟩, by decide +kernel, by decide +kernel, by decide +kernel, by decide +kernel⟩
abbrev c_JO_init : ByteArray := object_method_1_code
def y_JO_init : MethodName := ⟨"java/lang/Object", "<init>", "()V"⟩
abbrev c_W_init : ByteArray := prog_6_method_1_code
def y_W_init : MethodName := ⟨RW, "<init>", "()V"⟩
set_option maxRecDepth 100000 in
theorem k_W_init : Yk y_W_init c_W_init 1 none 0 := ⟨List.mem_filter.mpr ⟨List.mem_append_right _ (by decide +kernel), rfl⟩, by decide +kernel, by decide +kernel, by decide +kernel, by decide +kernel⟩
abbrev c_P_init : ByteArray := prog_5_method_1_code
def y_P_init : MethodName := ⟨RP, "<init>", "()V"⟩
set_option maxRecDepth 100000 in
theorem k_P_init : Yk y_P_init c_P_init 1 none 0 := ⟨List.mem_filter.mpr ⟨List.mem_append_right _ (by decide +kernel), rfl⟩, by decide +kernel, by decide +kernel, by decide +kernel, by decide +kernel⟩
abbrev c_E_init : ByteArray := prog_2_method_1_code
def y_E_init : MethodName := ⟨RE, "<init>", "()V"⟩
set_option maxRecDepth 100000 in
theorem k_E_init : Yk y_E_init c_E_init 1 none 0 := ⟨List.mem_filter.mpr ⟨List.mem_append_right _ (by decide +kernel), rfl⟩, by decide +kernel, by decide +kernel, by decide +kernel, by decide +kernel⟩
abbrev c_U_init : ByteArray := prog_4_method_1_code
def y_U_init : MethodName := ⟨RU, "<init>", "()V"⟩
set_option maxRecDepth 100000 in
theorem k_U_init : Yk y_U_init c_U_init 1 none 0 := ⟨List.mem_filter.mpr ⟨List.mem_append_right _ (by decide +kernel), rfl⟩, by decide +kernel, by decide +kernel, by decide +kernel, by decide +kernel⟩
abbrev c_L_init : ByteArray := prog_3_method_1_code
def y_L_init : MethodName := ⟨RL, "<init>", "()V"⟩
set_option maxRecDepth 100000 in
theorem k_L_init : Yk y_L_init c_L_init 1 none 0 := ⟨List.mem_filter.mpr ⟨List.mem_append_right _ (by decide +kernel), rfl⟩, by decide +kernel, by decide +kernel, by decide +kernel, by decide +kernel⟩
abbrev c_V_clear : ByteArray := prog_1_method_2_code
def y_V_clear : MethodName := ⟨RV, "clear", "()V"⟩
set_option maxRecDepth 100000 in
theorem k_V_clear : Yk y_V_clear c_V_clear 1 none 0 := ⟨List.mem_filter.mpr ⟨List.mem_append_right _ (by decide +kernel), rfl⟩, by decide +kernel, by decide +kernel, by decide +kernel, by decide +kernel⟩
abbrev c_W_forget : ByteArray := prog_6_method_3_code
def y_W_forget : MethodName := ⟨RW, "forget", "()V"⟩
set_option maxRecDepth 100000 in
theorem k_W_forget : Yk y_W_forget c_W_forget 2 none 0 := ⟨List.mem_filter.mpr ⟨List.mem_append_right _ (by decide +kernel), rfl⟩, by decide +kernel, by decide +kernel, by decide +kernel, by decide +kernel⟩
abbrev c_JA_fill_AII : ByteArray := prog_12_method_103_code
def y_JA_fill_AII : MethodName := ⟨"java/util/Arrays", "fill", "([II)V"⟩
set_option maxRecDepth 100000 in
theorem k_JA_fill_AII : Yk y_JA_fill_AII c_JA_fill_AII 4 none 2 := ⟨List.mem_filter.mpr ⟨List.mem_append_right _ (by decide +kernel), rfl⟩, by decide +kernel, by decide +kernel, by decide +kernel, by decide +kernel⟩
abbrev c_V_state : ByteArray := prog_1_method_3_code
def y_V_state : MethodName := ⟨RV, "state", "(Z)I"⟩
set_option maxRecDepth 100000 in
theorem k_V_state : Yk y_V_state c_V_state 2 (some .int) 1 := ⟨List.mem_filter.mpr ⟨List.mem_append_right _ (by decide +kernel), rfl⟩, by decide +kernel, by decide +kernel, by decide +kernel, by decide +kernel⟩
abbrev c_W_addState : ByteArray := prog_6_method_6_code
def y_W_addState : MethodName := ⟨RW, "addState", "(Z)I"⟩
set_option maxRecDepth 100000 in
theorem k_W_addState : Yk y_W_addState c_W_addState 3 (some .int) 1 := ⟨List.mem_filter.mpr ⟨List.mem_append_right _ (by decide +kernel), rfl⟩, by decide +kernel, by decide +kernel, by decide +kernel, by decide +kernel⟩
abbrev c_V_act : ByteArray := prog_1_method_4_code
def y_V_act : MethodName := ⟨RV, "act", "(II)I"⟩
set_option maxRecDepth 100000 in
theorem k_V_act : Yk y_V_act c_V_act 3 (some .int) 2 := ⟨List.mem_filter.mpr ⟨List.mem_append_right _ (by decide +kernel), rfl⟩, by decide +kernel, by decide +kernel, by decide +kernel, by decide +kernel⟩
abbrev c_W_hasState : ByteArray := prog_6_method_4_code
def y_W_hasState : MethodName := ⟨RW, "hasState", "(I)Z"⟩
set_option maxRecDepth 100000 in
theorem k_W_hasState : Yk y_W_hasState c_W_hasState 2 (some .boolean) 1 := ⟨List.mem_filter.mpr ⟨List.mem_append_right _ (by decide +kernel), rfl⟩, by decide +kernel, by decide +kernel, by decide +kernel, by decide +kernel⟩
abbrev c_V_isPay : ByteArray := prog_1_method_21_code
def y_V_isPay : MethodName := ⟨RV, "isPay", "(I)Z"⟩
set_option maxRecDepth 100000 in
theorem k_V_isPay : Yk y_V_isPay c_V_isPay 1 (some .boolean) 1 := ⟨List.mem_filter.mpr ⟨List.mem_append_right _ (by decide +kernel), rfl⟩, by decide +kernel, by decide +kernel, by decide +kernel, by decide +kernel⟩
abbrev c_W_addAct : ByteArray := prog_6_method_7_code
def y_W_addAct : MethodName := ⟨RW, "addAct", "(II)I"⟩
set_option maxRecDepth 100000 in
theorem k_W_addAct : Yk y_W_addAct c_W_addAct 4 (some .int) 2 := ⟨List.mem_filter.mpr ⟨List.mem_append_right _ (by decide +kernel), rfl⟩, by decide +kernel, by decide +kernel, by decide +kernel, by decide +kernel⟩
abbrev c_W_slotOf : ByteArray := prog_6_method_2_code
def y_W_slotOf : MethodName := ⟨RW, "slotOf", "(II)I"⟩
set_option maxRecDepth 100000 in
theorem k_W_slotOf : Yk y_W_slotOf c_W_slotOf 2 (some .int) 2 := ⟨List.mem_filter.mpr ⟨List.mem_append_right _ (by decide +kernel), rfl⟩, by decide +kernel, by decide +kernel, by decide +kernel, by decide +kernel⟩
abbrev c_V_weight : ByteArray := prog_1_method_5_code
def y_V_weight : MethodName := ⟨RV, "weight", "(IIII)I"⟩
set_option maxRecDepth 100000 in
theorem k_V_weight : Yk y_V_weight c_V_weight 8 (some .int) 4 := ⟨List.mem_filter.mpr ⟨List.mem_append_right _ (by decide +kernel), rfl⟩, by decide +kernel, by decide +kernel, by decide +kernel, by decide +kernel⟩
abbrev c_W_hasAct : ByteArray := prog_6_method_5_code
def y_W_hasAct : MethodName := ⟨RW, "hasAct", "(II)Z"⟩
set_option maxRecDepth 100000 in
theorem k_W_hasAct : Yk y_W_hasAct c_W_hasAct 3 (some .boolean) 2 := ⟨List.mem_filter.mpr ⟨List.mem_append_right _ (by decide +kernel), rfl⟩, by decide +kernel, by decide +kernel, by decide +kernel, by decide +kernel⟩
abbrev c_V_pay : ByteArray := prog_1_method_6_code
def y_V_pay : MethodName := ⟨RV, "pay", "(III)I"⟩
set_option maxRecDepth 100000 in
theorem k_V_pay : Yk y_V_pay c_V_pay 6 (some .int) 3 := ⟨List.mem_filter.mpr ⟨List.mem_append_right _ (by decide +kernel), rfl⟩, by decide +kernel, by decide +kernel, by decide +kernel, by decide +kernel⟩
abbrev c_V_share : ByteArray := prog_1_method_7_code
def y_V_share : MethodName := ⟨RV, "share", "(II)I"⟩
set_option maxRecDepth 100000 in
theorem k_V_share : Yk y_V_share c_V_share 3 (some .int) 2 := ⟨List.mem_filter.mpr ⟨List.mem_append_right _ (by decide +kernel), rfl⟩, by decide +kernel, by decide +kernel, by decide +kernel, by decide +kernel⟩
abbrev c_V_tell : ByteArray := prog_1_method_8_code
def y_V_tell : MethodName := ⟨RV, "tell", "(II)I"⟩
set_option maxRecDepth 100000 in
theorem k_V_tell : Yk y_V_tell c_V_tell 4 (some .int) 2 := ⟨List.mem_filter.mpr ⟨List.mem_append_right _ (by decide +kernel), rfl⟩, by decide +kernel, by decide +kernel, by decide +kernel, by decide +kernel⟩
abbrev c_V_value : ByteArray := prog_1_method_9_code
def y_V_value : MethodName := ⟨RV, "value", "(I)I"⟩
set_option maxRecDepth 100000 in
theorem k_V_value : Yk y_V_value c_V_value 2 (some .int) 1 := ⟨List.mem_filter.mpr ⟨List.mem_append_right _ (by decide +kernel), rfl⟩, by decide +kernel, by decide +kernel, by decide +kernel, by decide +kernel⟩
abbrev c_P_findValues : ByteArray := prog_5_method_5_code
def y_P_findValues : MethodName := ⟨RP, "findValues", "(LPlanValues$Walks;[I)V"⟩
set_option maxRecDepth 100000 in
theorem k_P_findValues : Yk y_P_findValues c_P_findValues 4 none 2 := ⟨List.mem_filter.mpr ⟨List.mem_append_right _ (by decide +kernel), rfl⟩, by decide +kernel, by decide +kernel, by decide +kernel, by decide +kernel⟩
abbrev c_P_replyBy : ByteArray := prog_5_method_4_code
def y_P_replyBy : MethodName := ⟨RP, "replyBy", "(ZLPlanValues$Walks;[I)V"⟩
set_option maxRecDepth 100000 in
theorem k_P_replyBy : Yk y_P_replyBy c_P_replyBy 5 none 3 := ⟨List.mem_filter.mpr ⟨List.mem_append_right _ (by decide +kernel), rfl⟩, by decide +kernel, by decide +kernel, by decide +kernel, by decide +kernel⟩
abbrev c_P_follow : ByteArray := prog_5_method_2_code
def y_P_follow : MethodName := ⟨RP, "follow", "(LPlanValues$Walks;[I)V"⟩
set_option maxRecDepth 100000 in
theorem k_P_follow : Yk y_P_follow c_P_follow 8 none 2 := ⟨List.mem_filter.mpr ⟨List.mem_append_right _ (by decide +kernel), rfl⟩, by decide +kernel, by decide +kernel, by decide +kernel, by decide +kernel⟩
abbrev c_E_begin : ByteArray := prog_2_method_2_code
def y_E_begin : MethodName := ⟨RE, "begin", "()V"⟩
set_option maxRecDepth 100000 in
theorem k_E_begin : Yk y_E_begin c_E_begin 2 none 0 := ⟨List.mem_filter.mpr ⟨List.mem_append_right _ (by decide +kernel), rfl⟩, by decide +kernel, by decide +kernel, by decide +kernel, by decide +kernel⟩
abbrev c_JA_fill_AJJ : ByteArray := prog_12_method_101_code
def y_JA_fill_AJJ : MethodName := ⟨"java/util/Arrays", "fill", "([JJ)V"⟩
set_option maxRecDepth 100000 in
theorem k_JA_fill_AJJ : Yk y_JA_fill_AJJ c_JA_fill_AJJ 5 none 2 := ⟨List.mem_filter.mpr ⟨List.mem_append_right _ (by decide +kernel), rfl⟩, by decide +kernel, by decide +kernel, by decide +kernel, by decide +kernel⟩
abbrev c_JM_max_II : ByteArray := prog_10_method_65_code
def y_JM_max_II : MethodName := ⟨"java/lang/Math", "max", "(II)I"⟩
set_option maxRecDepth 100000 in
theorem k_JM_max_II : Yk y_JM_max_II c_JM_max_II 2 (some .int) 2 := ⟨List.mem_filter.mpr ⟨List.mem_append_right _ (by decide +kernel), rfl⟩, by decide +kernel, by decide +kernel, by decide +kernel, by decide +kernel⟩
abbrev c_E_solve : ByteArray := prog_2_method_3_code
def y_E_solve : MethodName := ⟨RE, "solve", "(ILPlanValues$Numbers;)V"⟩
set_option maxRecDepth 100000 in
theorem k_E_solve : Yk y_E_solve c_E_solve 7 none 2 := ⟨List.mem_filter.mpr ⟨List.mem_append_right _ (by decide +kernel), rfl⟩, by decide +kernel, by decide +kernel, by decide +kernel, by decide +kernel⟩
abbrev c_E_eliminate : ByteArray := prog_2_method_4_code
def y_E_eliminate : MethodName := ⟨RE, "eliminate", "(IIJ)V"⟩
set_option maxRecDepth 100000 in
theorem k_E_eliminate : Yk y_E_eliminate c_E_eliminate 12 none 3 := ⟨List.mem_filter.mpr ⟨List.mem_append_right _ (by decide +kernel), rfl⟩, by decide +kernel, by decide +kernel, by decide +kernel, by decide +kernel⟩
abbrev c_JM_max_JJ : ByteArray := prog_10_method_66_code
def y_JM_max_JJ : MethodName := ⟨"java/lang/Math", "max", "(JJ)J"⟩
set_option maxRecDepth 100000 in
theorem k_JM_max_JJ : Yk y_JM_max_JJ c_JM_max_JJ 4 (some .long) 2 := ⟨List.mem_filter.mpr ⟨List.mem_append_right _ (by decide +kernel), rfl⟩, by decide +kernel, by decide +kernel, by decide +kernel, by decide +kernel⟩
abbrev c_P_improve : ByteArray := prog_5_method_3_code
def y_P_improve : MethodName := ⟨RP, "improve", "(ZLPlanValues$Walks;[I)Z"⟩
set_option maxRecDepth 100000 in
theorem k_P_improve : Yk y_P_improve c_P_improve 7 (some .boolean) 3 := ⟨List.mem_filter.mpr ⟨List.mem_append_right _ (by decide +kernel), rfl⟩, by decide +kernel, by decide +kernel, by decide +kernel, by decide +kernel⟩
abbrev c_W_likedAct : ByteArray := prog_6_method_11_code
def y_W_likedAct : MethodName := ⟨RW, "likedAct", "(IILPlanValues$Numbers;)I"⟩
set_option maxRecDepth 100000 in
theorem k_W_likedAct : Yk y_W_likedAct c_W_likedAct 10 (some .int) 3 := ⟨List.mem_filter.mpr ⟨List.mem_append_right _ (by decide +kernel), rfl⟩, by decide +kernel, by decide +kernel, by decide +kernel, by decide +kernel⟩
abbrev c_W_comesTo : ByteArray := prog_6_method_9_code
def y_W_comesTo : MethodName := ⟨RW, "comesTo", "(ILPlanValues$Numbers;)J"⟩
set_option maxRecDepth 100000 in
theorem k_W_comesTo : Yk y_W_comesTo c_W_comesTo 9 (some .long) 2 := ⟨List.mem_filter.mpr ⟨List.mem_append_right _ (by decide +kernel), rfl⟩, by decide +kernel, by decide +kernel, by decide +kernel, by decide +kernel⟩
abbrev c_W_stepScale : ByteArray := prog_6_method_8_code
def y_W_stepScale : MethodName := ⟨RW, "stepScale", "()J"⟩
set_option maxRecDepth 100000 in
theorem k_W_stepScale : Yk y_W_stepScale c_W_stepScale 1 (some .long) 0 := ⟨List.mem_filter.mpr ⟨List.mem_append_right _ (by decide +kernel), rfl⟩, by decide +kernel, by decide +kernel, by decide +kernel, by decide +kernel⟩
abbrev c_W_likes : ByteArray := prog_6_method_10_code
def y_W_likes : MethodName := ⟨RW, "likes", "(IJJ)Z"⟩
set_option maxRecDepth 100000 in
theorem k_W_likes : Yk y_W_likes c_W_likes 6 (some .boolean) 3 := ⟨List.mem_filter.mpr ⟨List.mem_append_right _ (by decide +kernel), rfl⟩, by decide +kernel, by decide +kernel, by decide +kernel, by decide +kernel⟩
abbrev c_V_giveAnswer : ByteArray := prog_1_method_22_code
def y_V_giveAnswer : MethodName := ⟨RV, "giveAnswer", "(JJ)I"⟩
set_option maxRecDepth 100000 in
theorem k_V_giveAnswer : Yk y_V_giveAnswer c_V_giveAnswer 7 (some .int) 2 := ⟨List.mem_filter.mpr ⟨List.mem_append_right _ (by decide +kernel), rfl⟩, by decide +kernel, by decide +kernel, by decide +kernel, by decide +kernel⟩
abbrev c_JM_abs : ByteArray := prog_10_method_61_code
def y_JM_abs : MethodName := ⟨"java/lang/Math", "abs", "(J)J"⟩
set_option maxRecDepth 100000 in
theorem k_JM_abs : Yk y_JM_abs c_JM_abs 2 (some .long) 1 := ⟨List.mem_filter.mpr ⟨List.mem_append_right _ (by decide +kernel), rfl⟩, by decide +kernel, by decide +kernel, by decide +kernel, by decide +kernel⟩
abbrev c_V_commonDivisor : ByteArray := prog_1_method_23_code
def y_V_commonDivisor : MethodName := ⟨RV, "commonDivisor", "(JJ)J"⟩
set_option maxRecDepth 100000 in
theorem k_V_commonDivisor : Yk y_V_commonDivisor c_V_commonDivisor 11 (some .long) 2 := ⟨List.mem_filter.mpr ⟨List.mem_append_right _ (by decide +kernel), rfl⟩, by decide +kernel, by decide +kernel, by decide +kernel, by decide +kernel⟩
abbrev c_V_comes : ByteArray := prog_1_method_10_code
def y_V_comes : MethodName := ⟨RV, "comes", "(II)I"⟩
set_option maxRecDepth 100000 in
theorem k_V_comes : Yk y_V_comes c_V_comes 5 (some .int) 2 := ⟨List.mem_filter.mpr ⟨List.mem_append_right _ (by decide +kernel), rfl⟩, by decide +kernel, by decide +kernel, by decide +kernel, by decide +kernel⟩
abbrev c_V_best : ByteArray := prog_1_method_11_code
def y_V_best : MethodName := ⟨RV, "best", "(I)I"⟩
set_option maxRecDepth 100000 in
theorem k_V_best : Yk y_V_best c_V_best 2 (some .int) 1 := ⟨List.mem_filter.mpr ⟨List.mem_append_right _ (by decide +kernel), rfl⟩, by decide +kernel, by decide +kernel, by decide +kernel, by decide +kernel⟩
abbrev c_V_bestBits : ByteArray := prog_1_method_27_code
def y_V_bestBits : MethodName := ⟨RV, "bestBits", "(I)I"⟩
set_option maxRecDepth 100000 in
theorem k_V_bestBits : Yk y_V_bestBits c_V_bestBits 4 (some .int) 1 := ⟨List.mem_filter.mpr ⟨List.mem_append_right _ (by decide +kernel), rfl⟩, by decide +kernel, by decide +kernel, by decide +kernel, by decide +kernel⟩
abbrev c_V_isBest : ByteArray := prog_1_method_26_code
def y_V_isBest : MethodName := ⟨RV, "isBest", "(II)Z"⟩
set_option maxRecDepth 100000 in
theorem k_V_isBest : Yk y_V_isBest c_V_isBest 5 (some .boolean) 2 := ⟨List.mem_filter.mpr ⟨List.mem_append_right _ (by decide +kernel), rfl⟩, by decide +kernel, by decide +kernel, by decide +kernel, by decide +kernel⟩
abbrev c_V_worth : ByteArray := prog_1_method_12_code
def y_V_worth : MethodName := ⟨RV, "worth", "(I)I"⟩
set_option maxRecDepth 100000 in
theorem k_V_worth : Yk y_V_worth c_V_worth 2 (some .int) 1 := ⟨List.mem_filter.mpr ⟨List.mem_append_right _ (by decide +kernel), rfl⟩, by decide +kernel, by decide +kernel, by decide +kernel, by decide +kernel⟩
abbrev c_V_reply : ByteArray := prog_1_method_13_code
def y_V_reply : MethodName := ⟨RV, "reply", "(II)I"⟩
set_option maxRecDepth 100000 in
theorem k_V_reply : Yk y_V_reply c_V_reply 3 (some .int) 2 := ⟨List.mem_filter.mpr ⟨List.mem_append_right _ (by decide +kernel), rfl⟩, by decide +kernel, by decide +kernel, by decide +kernel, by decide +kernel⟩
abbrev c_V_tryToldPlan : ByteArray := prog_1_method_24_code
def y_V_tryToldPlan : MethodName := ⟨RV, "tryToldPlan", "()V"⟩
set_option maxRecDepth 100000 in
theorem k_V_tryToldPlan : Yk y_V_tryToldPlan c_V_tryToldPlan 1 none 0 := ⟨List.mem_filter.mpr ⟨List.mem_append_right _ (by decide +kernel), rfl⟩, by decide +kernel, by decide +kernel, by decide +kernel, by decide +kernel⟩
abbrev c_V_change : ByteArray := prog_1_method_14_code
def y_V_change : MethodName := ⟨RV, "change", "(I)I"⟩
set_option maxRecDepth 100000 in
theorem k_V_change : Yk y_V_change c_V_change 12 (some .int) 1 := ⟨List.mem_filter.mpr ⟨List.mem_append_right _ (by decide +kernel), rfl⟩, by decide +kernel, by decide +kernel, by decide +kernel, by decide +kernel⟩
abbrev c_V_within : ByteArray := prog_1_method_15_code
def y_V_within : MethodName := ⟨RV, "within", "(II)I"⟩
set_option maxRecDepth 100000 in
theorem k_V_within : Yk y_V_within c_V_within 4 (some .int) 2 := ⟨List.mem_filter.mpr ⟨List.mem_append_right _ (by decide +kernel), rfl⟩, by decide +kernel, by decide +kernel, by decide +kernel, by decide +kernel⟩
abbrev c_V_stepBack : ByteArray := prog_1_method_25_code
def y_V_stepBack : MethodName := ⟨RV, "stepBack", "()V"⟩
set_option maxRecDepth 100000 in
theorem k_V_stepBack : Yk y_V_stepBack c_V_stepBack 3 none 0 := ⟨List.mem_filter.mpr ⟨List.mem_append_right _ (by decide +kernel), rfl⟩, by decide +kernel, by decide +kernel, by decide +kernel, by decide +kernel⟩
abbrev c_V_run : ByteArray := prog_1_method_16_code
def y_V_run : MethodName := ⟨RV, "run", "(I)I"⟩
set_option maxRecDepth 100000 in
theorem k_V_run : Yk y_V_run c_V_run 2 (some .int) 1 := ⟨List.mem_filter.mpr ⟨List.mem_append_right _ (by decide +kernel), rfl⟩, by decide +kernel, by decide +kernel, by decide +kernel, by decide +kernel⟩
abbrev c_L_follow : ByteArray := prog_3_method_2_code
def y_L_follow : MethodName := ⟨RL, "follow", "(LPlanValues$Walks;[I)V"⟩
set_option maxRecDepth 100000 in
theorem k_L_follow : Yk y_L_follow c_L_follow 5 none 2 := ⟨List.mem_filter.mpr ⟨List.mem_append_right _ (by decide +kernel), rfl⟩, by decide +kernel, by decide +kernel, by decide +kernel, by decide +kernel⟩
abbrev c_L_findReach : ByteArray := prog_3_method_3_code
def y_L_findReach : MethodName := ⟨RL, "findReach", "(LPlanValues$Walks;[I)V"⟩
set_option maxRecDepth 100000 in
theorem k_L_findReach : Yk y_L_findReach c_L_findReach 7 none 2 := ⟨List.mem_filter.mpr ⟨List.mem_append_right _ (by decide +kernel), rfl⟩, by decide +kernel, by decide +kernel, by decide +kernel, by decide +kernel⟩
abbrev c_L_reaches : ByteArray := prog_3_method_4_code
def y_L_reaches : MethodName := ⟨RL, "reaches", "(II)Z"⟩
set_option maxRecDepth 100000 in
theorem k_L_reaches : Yk y_L_reaches c_L_reaches 3 (some .boolean) 2 := ⟨List.mem_filter.mpr ⟨List.mem_append_right _ (by decide +kernel), rfl⟩, by decide +kernel, by decide +kernel, by decide +kernel, by decide +kernel⟩
abbrev c_L_findHomes : ByteArray := prog_3_method_6_code
def y_L_findHomes : MethodName := ⟨RL, "findHomes", "(I)V"⟩
set_option maxRecDepth 100000 in
theorem k_L_findHomes : Yk y_L_findHomes c_L_findHomes 5 none 1 := ⟨List.mem_filter.mpr ⟨List.mem_append_right _ (by decide +kernel), rfl⟩, by decide +kernel, by decide +kernel, by decide +kernel, by decide +kernel⟩
abbrev c_L_isInCircle : ByteArray := prog_3_method_5_code
def y_L_isInCircle : MethodName := ⟨RL, "isInCircle", "(II)Z"⟩
set_option maxRecDepth 100000 in
theorem k_L_isInCircle : Yk y_L_isInCircle c_L_isInCircle 4 (some .boolean) 2 := ⟨List.mem_filter.mpr ⟨List.mem_append_right _ (by decide +kernel), rfl⟩, by decide +kernel, by decide +kernel, by decide +kernel, by decide +kernel⟩
abbrev c_L_writeCircle : ByteArray := prog_3_method_7_code
def y_L_writeCircle : MethodName := ⟨RL, "writeCircle", "(LPlanValues$Walks;II)V"⟩
set_option maxRecDepth 100000 in
theorem k_L_writeCircle : Yk y_L_writeCircle c_L_writeCircle 8 none 3 := ⟨List.mem_filter.mpr ⟨List.mem_append_right _ (by decide +kernel), rfl⟩, by decide +kernel, by decide +kernel, by decide +kernel, by decide +kernel⟩
abbrev c_L_writePassage : ByteArray := prog_3_method_8_code
def y_L_writePassage : MethodName := ⟨RL, "writePassage", "(LPlanValues$Walks;II)V"⟩
set_option maxRecDepth 100000 in
theorem k_L_writePassage : Yk y_L_writePassage c_L_writePassage 6 none 3 := ⟨List.mem_filter.mpr ⟨List.mem_append_right _ (by decide +kernel), rfl⟩, by decide +kernel, by decide +kernel, by decide +kernel, by decide +kernel⟩
abbrev c_V_settled : ByteArray := prog_1_method_17_code
def y_V_settled : MethodName := ⟨RV, "settled", "()I"⟩
set_option maxRecDepth 100000 in
theorem k_V_settled : Yk y_V_settled c_V_settled 2 (some .int) 0 := ⟨List.mem_filter.mpr ⟨List.mem_append_right _ (by decide +kernel), rfl⟩, by decide +kernel, by decide +kernel, by decide +kernel, by decide +kernel⟩
abbrev c_V_upper : ByteArray := prog_1_method_18_code
def y_V_upper : MethodName := ⟨RV, "upper", "()J"⟩
set_option maxRecDepth 100000 in
theorem k_V_upper : Yk y_V_upper c_V_upper 1 (some .long) 0 := ⟨List.mem_filter.mpr ⟨List.mem_append_right _ (by decide +kernel), rfl⟩, by decide +kernel, by decide +kernel, by decide +kernel, by decide +kernel⟩
abbrev c_V_lower : ByteArray := prog_1_method_19_code
def y_V_lower : MethodName := ⟨RV, "lower", "()J"⟩
set_option maxRecDepth 100000 in
theorem k_V_lower : Yk y_V_lower c_V_lower 1 (some .long) 0 := ⟨List.mem_filter.mpr ⟨List.mem_append_right _ (by decide +kernel), rfl⟩, by decide +kernel, by decide +kernel, by decide +kernel, by decide +kernel⟩
abbrev c_V_told : ByteArray := prog_1_method_20_code
def y_V_told : MethodName := ⟨RV, "told", "(I)I"⟩
set_option maxRecDepth 100000 in
theorem k_V_told : Yk y_V_told c_V_told 2 (some .int) 1 := ⟨List.mem_filter.mpr ⟨List.mem_append_right _ (by decide +kernel), rfl⟩, by decide +kernel, by decide +kernel, by decide +kernel, by decide +kernel⟩
abbrev c_V_countActs : ByteArray := prog_1_method_28_code
def y_V_countActs : MethodName := ⟨RV, "countActs", "()I"⟩
set_option maxRecDepth 100000 in
theorem k_V_countActs : Yk y_V_countActs c_V_countActs 3 (some .int) 0 := ⟨List.mem_filter.mpr ⟨List.mem_append_right _ (by decide +kernel), rfl⟩, by decide +kernel, by decide +kernel, by decide +kernel, by decide +kernel⟩
abbrev c_V_countPlans : ByteArray := prog_1_method_29_code
def y_V_countPlans : MethodName := ⟨RV, "countPlans", "()I"⟩
set_option maxRecDepth 100000 in
theorem k_V_countPlans : Yk y_V_countPlans c_V_countPlans 3 (some .int) 0 := ⟨List.mem_filter.mpr ⟨List.mem_append_right _ (by decide +kernel), rfl⟩, by decide +kernel, by decide +kernel, by decide +kernel, by decide +kernel⟩
abbrev c_V_countBestPlans : ByteArray := prog_1_method_30_code
def y_V_countBestPlans : MethodName := ⟨RV, "countBestPlans", "()I"⟩
set_option maxRecDepth 100000 in
theorem k_V_countBestPlans : Yk y_V_countBestPlans c_V_countBestPlans 3 (some .int) 0 := ⟨List.mem_filter.mpr ⟨List.mem_append_right _ (by decide +kernel), rfl⟩, by decide +kernel, by decide +kernel, by decide +kernel, by decide +kernel⟩
abbrev c_JI_bitCount : ByteArray := prog_9_method_49_code
def y_JI_bitCount : MethodName := ⟨"java/lang/Integer", "bitCount", "(I)I"⟩
set_option maxRecDepth 100000 in
theorem k_JI_bitCount : Yk y_JI_bitCount c_JI_bitCount 1 (some .int) 1 := ⟨List.mem_filter.mpr ⟨List.mem_append_right _ (by decide +kernel), rfl⟩, by decide +kernel, by decide +kernel, by decide +kernel, by decide +kernel⟩
abbrev c_V_countTheirs : ByteArray := prog_1_method_31_code
def y_V_countTheirs : MethodName := ⟨RV, "countTheirs", "()I"⟩
set_option maxRecDepth 100000 in
theorem k_V_countTheirs : Yk y_V_countTheirs c_V_countTheirs 3 (some .int) 0 := ⟨List.mem_filter.mpr ⟨List.mem_append_right _ (by decide +kernel), rfl⟩, by decide +kernel, by decide +kernel, by decide +kernel, by decide +kernel⟩
abbrev c_M_init : ByteArray := prog_8_method_1_code
def y_M_init : MethodName := ⟨RM, "<init>", "()V"⟩
set_option maxRecDepth 100000 in
theorem k_M_init : Yk y_M_init c_M_init 1 none 0 := ⟨List.mem_filter.mpr ⟨List.mem_append_right _ (by decide +kernel), rfl⟩, by decide +kernel, by decide +kernel, by decide +kernel, by decide +kernel⟩
abbrev c_M_clear : ByteArray := prog_8_method_10_code
def y_M_clear : MethodName := ⟨RM, "clear", "()V"⟩
set_option maxRecDepth 100000 in
theorem k_M_clear : Yk y_M_clear c_M_clear 1 none 0 := ⟨List.mem_filter.mpr ⟨List.mem_append_right _ (by decide +kernel), rfl⟩, by decide +kernel, by decide +kernel, by decide +kernel, by decide +kernel⟩
abbrev c_M_state : ByteArray := prog_8_method_11_code
def y_M_state : MethodName := ⟨RM, "state", "(Z)I"⟩
set_option maxRecDepth 100000 in
theorem k_M_state : Yk y_M_state c_M_state 2 (some .int) 1 := ⟨List.mem_filter.mpr ⟨List.mem_append_right _ (by decide +kernel), rfl⟩, by decide +kernel, by decide +kernel, by decide +kernel, by decide +kernel⟩
abbrev c_M_act : ByteArray := prog_8_method_12_code
def y_M_act : MethodName := ⟨RM, "act", "(II)I"⟩
set_option maxRecDepth 100000 in
theorem k_M_act : Yk y_M_act c_M_act 5 (some .int) 2 := ⟨List.mem_filter.mpr ⟨List.mem_append_right _ (by decide +kernel), rfl⟩, by decide +kernel, by decide +kernel, by decide +kernel, by decide +kernel⟩
abbrev c_M_isState : ByteArray := prog_8_method_6_code
def y_M_isState : MethodName := ⟨RM, "isState", "(I)Z"⟩
set_option maxRecDepth 100000 in
theorem k_M_isState : Yk y_M_isState c_M_isState 2 (some .boolean) 1 := ⟨List.mem_filter.mpr ⟨List.mem_append_right _ (by decide +kernel), rfl⟩, by decide +kernel, by decide +kernel, by decide +kernel, by decide +kernel⟩
abbrev c_M_in : ByteArray := prog_8_method_3_code
def y_M_in : MethodName := ⟨RM, "in", "(JJJ)Z"⟩
set_option maxRecDepth 100000 in
theorem k_M_in : Yk y_M_in c_M_in 6 (some .boolean) 3 := ⟨List.mem_filter.mpr ⟨List.mem_append_right _ (by decide +kernel), rfl⟩, by decide +kernel, by decide +kernel, by decide +kernel, by decide +kernel⟩
abbrev c_M_weight : ByteArray := prog_8_method_13_code
def y_M_weight : MethodName := ⟨RM, "weight", "(IIII)I"⟩
set_option maxRecDepth 100000 in
theorem k_M_weight : Yk y_M_weight c_M_weight 6 (some .int) 4 := ⟨List.mem_filter.mpr ⟨List.mem_append_right _ (by decide +kernel), rfl⟩, by decide +kernel, by decide +kernel, by decide +kernel, by decide +kernel⟩
abbrev c_M_isAct : ByteArray := prog_8_method_7_code
def y_M_isAct : MethodName := ⟨RM, "isAct", "(II)Z"⟩
set_option maxRecDepth 100000 in
theorem k_M_isAct : Yk y_M_isAct c_M_isAct 3 (some .boolean) 2 := ⟨List.mem_filter.mpr ⟨List.mem_append_right _ (by decide +kernel), rfl⟩, by decide +kernel, by decide +kernel, by decide +kernel, by decide +kernel⟩
abbrev c_M_weightOf : ByteArray := prog_8_method_8_code
def y_M_weightOf : MethodName := ⟨RM, "weightOf", "(III)I"⟩
set_option maxRecDepth 100000 in
theorem k_M_weightOf : Yk y_M_weightOf c_M_weightOf 4 (some .int) 3 := ⟨List.mem_filter.mpr ⟨List.mem_append_right _ (by decide +kernel), rfl⟩, by decide +kernel, by decide +kernel, by decide +kernel, by decide +kernel⟩
abbrev c_M_total : ByteArray := prog_8_method_9_code
def y_M_total : MethodName := ⟨RM, "total", "(II)I"⟩
set_option maxRecDepth 100000 in
theorem k_M_total : Yk y_M_total c_M_total 5 (some .int) 2 := ⟨List.mem_filter.mpr ⟨List.mem_append_right _ (by decide +kernel), rfl⟩, by decide +kernel, by decide +kernel, by decide +kernel, by decide +kernel⟩
abbrev c_M_pay : ByteArray := prog_8_method_14_code
def y_M_pay : MethodName := ⟨RM, "pay", "(III)I"⟩
set_option maxRecDepth 100000 in
theorem k_M_pay : Yk y_M_pay c_M_pay 5 (some .int) 3 := ⟨List.mem_filter.mpr ⟨List.mem_append_right _ (by decide +kernel), rfl⟩, by decide +kernel, by decide +kernel, by decide +kernel, by decide +kernel⟩
abbrev c_M_share : ByteArray := prog_8_method_15_code
def y_M_share : MethodName := ⟨RM, "share", "(II)I"⟩
set_option maxRecDepth 100000 in
theorem k_M_share : Yk y_M_share c_M_share 3 (some .int) 2 := ⟨List.mem_filter.mpr ⟨List.mem_append_right _ (by decide +kernel), rfl⟩, by decide +kernel, by decide +kernel, by decide +kernel, by decide +kernel⟩
abbrev c_M_tell : ByteArray := prog_8_method_16_code
def y_M_tell : MethodName := ⟨RM, "tell", "(II)I"⟩
set_option maxRecDepth 100000 in
theorem k_M_tell : Yk y_M_tell c_M_tell 4 (some .int) 2 := ⟨List.mem_filter.mpr ⟨List.mem_append_right _ (by decide +kernel), rfl⟩, by decide +kernel, by decide +kernel, by decide +kernel, by decide +kernel⟩
abbrev c_M_value : ByteArray := prog_8_method_31_code
def y_M_value : MethodName := ⟨RM, "value", "(I)I"⟩
set_option maxRecDepth 100000 in
theorem k_M_value : Yk y_M_value c_M_value 2 (some .int) 1 := ⟨List.mem_filter.mpr ⟨List.mem_append_right _ (by decide +kernel), rfl⟩, by decide +kernel, by decide +kernel, by decide +kernel, by decide +kernel⟩
abbrev c_M_layValues : ByteArray := prog_8_method_29_code
def y_M_layValues : MethodName := ⟨RM, "layValues", "()V"⟩
set_option maxRecDepth 100000 in
theorem k_M_layValues : Yk y_M_layValues c_M_layValues 5 none 0 := ⟨List.mem_filter.mpr ⟨List.mem_append_right _ (by decide +kernel), rfl⟩, by decide +kernel, by decide +kernel, by decide +kernel, by decide +kernel⟩
abbrev c_M_layPlans : ByteArray := prog_8_method_23_code
def y_M_layPlans : MethodName := ⟨RM, "layPlans", "()V"⟩
set_option maxRecDepth 100000 in
theorem k_M_layPlans : Yk y_M_layPlans c_M_layPlans 3 none 0 := ⟨List.mem_filter.mpr ⟨List.mem_append_right _ (by decide +kernel), rfl⟩, by decide +kernel, by decide +kernel, by decide +kernel, by decide +kernel⟩
abbrev c_M_actIn : ByteArray := prog_8_method_21_code
def y_M_actIn : MethodName := ⟨RM, "actIn", "(II)I"⟩
set_option maxRecDepth 100000 in
theorem k_M_actIn : Yk y_M_actIn c_M_actIn 5 (some .int) 2 := ⟨List.mem_filter.mpr ⟨List.mem_append_right _ (by decide +kernel), rfl⟩, by decide +kernel, by decide +kernel, by decide +kernel, by decide +kernel⟩
abbrev c_M_layWorth : ByteArray := prog_8_method_20_code
def y_M_layWorth : MethodName := ⟨RM, "layWorth", "(II)V"⟩
set_option maxRecDepth 100000 in
theorem k_M_layWorth : Yk y_M_layWorth c_M_layWorth 5 none 2 := ⟨List.mem_filter.mpr ⟨List.mem_append_right _ (by decide +kernel), rfl⟩, by decide +kernel, by decide +kernel, by decide +kernel, by decide +kernel⟩
abbrev c_M_fix : ByteArray := prog_8_method_19_code
def y_M_fix : MethodName := ⟨RM, "fix", "(IJ)V"⟩
set_option maxRecDepth 100000 in
theorem k_M_fix : Yk y_M_fix c_M_fix 5 none 2 := ⟨List.mem_filter.mpr ⟨List.mem_append_right _ (by decide +kernel), rfl⟩, by decide +kernel, by decide +kernel, by decide +kernel, by decide +kernel⟩
abbrev c_M_all : ByteArray := prog_8_method_18_code
def y_M_all : MethodName := ⟨RM, "all", "(I)J"⟩
set_option maxRecDepth 100000 in
theorem k_M_all : Yk y_M_all c_M_all 8 (some .long) 1 := ⟨List.mem_filter.mpr ⟨List.mem_append_right _ (by decide +kernel), rfl⟩, by decide +kernel, by decide +kernel, by decide +kernel, by decide +kernel⟩
abbrev c_M_many : ByteArray := prog_8_method_17_code
def y_M_many : MethodName := ⟨RM, "many", "(I)I"⟩
set_option maxRecDepth 100000 in
theorem k_M_many : Yk y_M_many c_M_many 3 (some .int) 1 := ⟨List.mem_filter.mpr ⟨List.mem_append_right _ (by decide +kernel), rfl⟩, by decide +kernel, by decide +kernel, by decide +kernel, by decide +kernel⟩
abbrev c_M_hasZeros : ByteArray := prog_8_method_27_code
def y_M_hasZeros : MethodName := ⟨RM, "hasZeros", "(I)Z"⟩
set_option maxRecDepth 100000 in
theorem k_M_hasZeros : Yk y_M_hasZeros c_M_hasZeros 3 (some .boolean) 1 := ⟨List.mem_filter.mpr ⟨List.mem_append_right _ (by decide +kernel), rfl⟩, by decide +kernel, by decide +kernel, by decide +kernel, by decide +kernel⟩
abbrev c_M_utmost : ByteArray := prog_8_method_26_code
def y_M_utmost : MethodName := ⟨RM, "utmost", "(IIZZ)I"⟩
set_option maxRecDepth 100000 in
theorem k_M_utmost : Yk y_M_utmost c_M_utmost 8 (some .int) 4 := ⟨List.mem_filter.mpr ⟨List.mem_append_right _ (by decide +kernel), rfl⟩, by decide +kernel, by decide +kernel, by decide +kernel, by decide +kernel⟩
abbrev c_M_agree : ByteArray := prog_8_method_25_code
def y_M_agree : MethodName := ⟨RM, "agree", "(IIZ)Z"⟩
set_option maxRecDepth 100000 in
theorem k_M_agree : Yk y_M_agree c_M_agree 5 (some .boolean) 3 := ⟨List.mem_filter.mpr ⟨List.mem_append_right _ (by decide +kernel), rfl⟩, by decide +kernel, by decide +kernel, by decide +kernel, by decide +kernel⟩
abbrev c_M_compare : ByteArray := prog_8_method_24_code
def y_M_compare : MethodName := ⟨RM, "compare", "(III)I"⟩
set_option maxRecDepth 100000 in
theorem k_M_compare : Yk y_M_compare c_M_compare 8 (some .int) 3 := ⟨List.mem_filter.mpr ⟨List.mem_append_right _ (by decide +kernel), rfl⟩, by decide +kernel, by decide +kernel, by decide +kernel, by decide +kernel⟩
abbrev c_M_hasAllValues : ByteArray := prog_8_method_28_code
def y_M_hasAllValues : MethodName := ⟨RM, "hasAllValues", "(I)Z"⟩
set_option maxRecDepth 100000 in
theorem k_M_hasAllValues : Yk y_M_hasAllValues c_M_hasAllValues 3 (some .boolean) 1 := ⟨List.mem_filter.mpr ⟨List.mem_append_right _ (by decide +kernel), rfl⟩, by decide +kernel, by decide +kernel, by decide +kernel, by decide +kernel⟩
abbrev c_M_answerWorth : ByteArray := prog_8_method_30_code
def y_M_answerWorth : MethodName := ⟨RM, "answerWorth", "(II)I"⟩
set_option maxRecDepth 100000 in
theorem k_M_answerWorth : Yk y_M_answerWorth c_M_answerWorth 3 (some .int) 2 := ⟨List.mem_filter.mpr ⟨List.mem_append_right _ (by decide +kernel), rfl⟩, by decide +kernel, by decide +kernel, by decide +kernel, by decide +kernel⟩
abbrev c_M_answer : ByteArray := prog_8_method_5_code
def y_M_answer : MethodName := ⟨RM, "answer", "(JJ)I"⟩
set_option maxRecDepth 100000 in
theorem k_M_answer : Yk y_M_answer c_M_answer 7 (some .int) 2 := ⟨List.mem_filter.mpr ⟨List.mem_append_right _ (by decide +kernel), rfl⟩, by decide +kernel, by decide +kernel, by decide +kernel, by decide +kernel⟩
abbrev c_M_divisor : ByteArray := prog_8_method_4_code
def y_M_divisor : MethodName := ⟨RM, "divisor", "(JJ)J"⟩
set_option maxRecDepth 100000 in
theorem k_M_divisor : Yk y_M_divisor c_M_divisor 10 (some .long) 2 := ⟨List.mem_filter.mpr ⟨List.mem_append_right _ (by decide +kernel), rfl⟩, by decide +kernel, by decide +kernel, by decide +kernel, by decide +kernel⟩
abbrev c_M_comes : ByteArray := prog_8_method_33_code
def y_M_comes : MethodName := ⟨RM, "comes", "(II)I"⟩
set_option maxRecDepth 100000 in
theorem k_M_comes : Yk y_M_comes c_M_comes 3 (some .int) 2 := ⟨List.mem_filter.mpr ⟨List.mem_append_right _ (by decide +kernel), rfl⟩, by decide +kernel, by decide +kernel, by decide +kernel, by decide +kernel⟩
abbrev c_M_layComes : ByteArray := prog_8_method_32_code
def y_M_layComes : MethodName := ⟨RM, "layComes", "(II)V"⟩
set_option maxRecDepth 100000 in
theorem k_M_layComes : Yk y_M_layComes c_M_layComes 7 none 2 := ⟨List.mem_filter.mpr ⟨List.mem_append_right _ (by decide +kernel), rfl⟩, by decide +kernel, by decide +kernel, by decide +kernel, by decide +kernel⟩
abbrev c_M_best : ByteArray := prog_8_method_34_code
def y_M_best : MethodName := ⟨RM, "best", "(I)I"⟩
set_option maxRecDepth 100000 in
theorem k_M_best : Yk y_M_best c_M_best 11 (some .int) 1 := ⟨List.mem_filter.mpr ⟨List.mem_append_right _ (by decide +kernel), rfl⟩, by decide +kernel, by decide +kernel, by decide +kernel, by decide +kernel⟩
abbrev c_M_worth : ByteArray := prog_8_method_35_code
def y_M_worth : MethodName := ⟨RM, "worth", "(I)I"⟩
set_option maxRecDepth 100000 in
theorem k_M_worth : Yk y_M_worth c_M_worth 2 (some .int) 1 := ⟨List.mem_filter.mpr ⟨List.mem_append_right _ (by decide +kernel), rfl⟩, by decide +kernel, by decide +kernel, by decide +kernel, by decide +kernel⟩
abbrev c_M_toldPlan : ByteArray := prog_8_method_22_code
def y_M_toldPlan : MethodName := ⟨RM, "toldPlan", "(II)I"⟩
set_option maxRecDepth 100000 in
theorem k_M_toldPlan : Yk y_M_toldPlan c_M_toldPlan 6 (some .int) 2 := ⟨List.mem_filter.mpr ⟨List.mem_append_right _ (by decide +kernel), rfl⟩, by decide +kernel, by decide +kernel, by decide +kernel, by decide +kernel⟩
abbrev c_M_reply : ByteArray := prog_8_method_36_code
def y_M_reply : MethodName := ⟨RM, "reply", "(II)I"⟩
set_option maxRecDepth 100000 in
theorem k_M_reply : Yk y_M_reply c_M_reply 3 (some .int) 2 := ⟨List.mem_filter.mpr ⟨List.mem_append_right _ (by decide +kernel), rfl⟩, by decide +kernel, by decide +kernel, by decide +kernel, by decide +kernel⟩
abbrev c_M_change : ByteArray := prog_8_method_37_code
def y_M_change : MethodName := ⟨RM, "change", "(I)I"⟩
set_option maxRecDepth 100000 in
theorem k_M_change : Yk y_M_change c_M_change 5 (some .int) 1 := ⟨List.mem_filter.mpr ⟨List.mem_append_right _ (by decide +kernel), rfl⟩, by decide +kernel, by decide +kernel, by decide +kernel, by decide +kernel⟩
abbrev c_M_within : ByteArray := prog_8_method_38_code
def y_M_within : MethodName := ⟨RM, "within", "(II)I"⟩
set_option maxRecDepth 100000 in
theorem k_M_within : Yk y_M_within c_M_within 10 (some .int) 2 := ⟨List.mem_filter.mpr ⟨List.mem_append_right _ (by decide +kernel), rfl⟩, by decide +kernel, by decide +kernel, by decide +kernel, by decide +kernel⟩
abbrev c_M_comesNow : ByteArray := prog_8_method_39_code
def y_M_comesNow : MethodName := ⟨RM, "comesNow", "(IIJ)J"⟩
set_option maxRecDepth 100000 in
theorem k_M_comesNow : Yk y_M_comesNow c_M_comesNow 9 (some .long) 3 := ⟨List.mem_filter.mpr ⟨List.mem_append_right _ (by decide +kernel), rfl⟩, by decide +kernel, by decide +kernel, by decide +kernel, by decide +kernel⟩
abbrev c_M_run : ByteArray := prog_8_method_46_code
def y_M_run : MethodName := ⟨RM, "run", "(I)I"⟩
set_option maxRecDepth 100000 in
theorem k_M_run : Yk y_M_run c_M_run 25 (some .int) 1 := ⟨List.mem_filter.mpr ⟨List.mem_append_right _ (by decide +kernel), rfl⟩, by decide +kernel, by decide +kernel, by decide +kernel, by decide +kernel⟩
abbrev c_M_ring : ByteArray := prog_8_method_43_code
def y_M_ring : MethodName := ⟨RM, "ring", "(I)I"⟩
set_option maxRecDepth 100000 in
theorem k_M_ring : Yk y_M_ring c_M_ring 4 (some .int) 1 := ⟨List.mem_filter.mpr ⟨List.mem_append_right _ (by decide +kernel), rfl⟩, by decide +kernel, by decide +kernel, by decide +kernel, by decide +kernel⟩
abbrev c_M_reach : ByteArray := prog_8_method_42_code
def y_M_reach : MethodName := ⟨RM, "reach", "(I)I"⟩
set_option maxRecDepth 100000 in
theorem k_M_reach : Yk y_M_reach c_M_reach 7 (some .int) 1 := ⟨List.mem_filter.mpr ⟨List.mem_append_right _ (by decide +kernel), rfl⟩, by decide +kernel, by decide +kernel, by decide +kernel, by decide +kernel⟩
abbrev c_M_toldWeight : ByteArray := prog_8_method_41_code
def y_M_toldWeight : MethodName := ⟨RM, "toldWeight", "(II)I"⟩
set_option maxRecDepth 100000 in
theorem k_M_toldWeight : Yk y_M_toldWeight c_M_toldWeight 3 (some .int) 2 := ⟨List.mem_filter.mpr ⟨List.mem_append_right _ (by decide +kernel), rfl⟩, by decide +kernel, by decide +kernel, by decide +kernel, by decide +kernel⟩
abbrev c_M_toldTotal : ByteArray := prog_8_method_40_code
def y_M_toldTotal : MethodName := ⟨RM, "toldTotal", "(I)I"⟩
set_option maxRecDepth 100000 in
theorem k_M_toldTotal : Yk y_M_toldTotal c_M_toldTotal 2 (some .int) 1 := ⟨List.mem_filter.mpr ⟨List.mem_append_right _ (by decide +kernel), rfl⟩, by decide +kernel, by decide +kernel, by decide +kernel, by decide +kernel⟩
abbrev c_M_layGain : ByteArray := prog_8_method_45_code
def y_M_layGain : MethodName := ⟨RM, "layGain", "(I)V"⟩
set_option maxRecDepth 100000 in
theorem k_M_layGain : Yk y_M_layGain c_M_layGain 5 none 1 := ⟨List.mem_filter.mpr ⟨List.mem_append_right _ (by decide +kernel), rfl⟩, by decide +kernel, by decide +kernel, by decide +kernel, by decide +kernel⟩
abbrev c_M_layWalk : ByteArray := prog_8_method_44_code
def y_M_layWalk : MethodName := ⟨RM, "layWalk", "(I)V"⟩
set_option maxRecDepth 100000 in
theorem k_M_layWalk : Yk y_M_layWalk c_M_layWalk 4 none 1 := ⟨List.mem_filter.mpr ⟨List.mem_append_right _ (by decide +kernel), rfl⟩, by decide +kernel, by decide +kernel, by decide +kernel, by decide +kernel⟩
abbrev c_M_settled : ByteArray := prog_8_method_47_code
def y_M_settled : MethodName := ⟨RM, "settled", "()I"⟩
set_option maxRecDepth 100000 in
theorem k_M_settled : Yk y_M_settled c_M_settled 1 (some .int) 0 := ⟨List.mem_filter.mpr ⟨List.mem_append_right _ (by decide +kernel), rfl⟩, by decide +kernel, by decide +kernel, by decide +kernel, by decide +kernel⟩
abbrev c_M_upper : ByteArray := prog_8_method_48_code
def y_M_upper : MethodName := ⟨RM, "upper", "()J"⟩
set_option maxRecDepth 100000 in
theorem k_M_upper : Yk y_M_upper c_M_upper 1 (some .long) 0 := ⟨List.mem_filter.mpr ⟨List.mem_append_right _ (by decide +kernel), rfl⟩, by decide +kernel, by decide +kernel, by decide +kernel, by decide +kernel⟩
abbrev c_M_lower : ByteArray := prog_8_method_49_code
def y_M_lower : MethodName := ⟨RM, "lower", "()J"⟩
set_option maxRecDepth 100000 in
theorem k_M_lower : Yk y_M_lower c_M_lower 1 (some .long) 0 := ⟨List.mem_filter.mpr ⟨List.mem_append_right _ (by decide +kernel), rfl⟩, by decide +kernel, by decide +kernel, by decide +kernel, by decide +kernel⟩
abbrev c_M_told : ByteArray := prog_8_method_50_code
def y_M_told : MethodName := ⟨RM, "told", "(I)I"⟩
set_option maxRecDepth 100000 in
theorem k_M_told : Yk y_M_told c_M_told 4 (some .int) 1 := ⟨List.mem_filter.mpr ⟨List.mem_append_right _ (by decide +kernel), rfl⟩, by decide +kernel, by decide +kernel, by decide +kernel, by decide +kernel⟩
