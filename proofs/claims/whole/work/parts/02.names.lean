/-! names of all methods (by my program, out of the listing and the tables) -/
def wsA : List Cond := lw_tbl.filter goodWord
theorem y_inA {w : Cond} (h : w ∈ lw_tbl) (g : goodWord w = true) : w ∈ wsA := List.mem_filter.mpr ⟨h, g⟩
theorem y_inT {w : Cond} (h : w ∈ tables_1) (g : goodWord w = true) : w ∈ wsA := y_inA (List.mem_append_right _ h) g
theorem y_gA {ws : List Cond} (h : ∀ w ∈ ws, w ∈ wsA) : GoodIn wsA ws := fun w hw => ⟨h w hw, good_of_word (List.mem_filter.mp (h w hw)).2⟩
theorem y_gM {w : Cond} (h : w ∈ wsA) : ∀ w' ∈ w :: wsA, w' ∈ wsA := fun w' hw => (List.mem_cons.mp hw).elim (fun e => by rw [e]; exact h) id
theorem y_gV {own C : String} {idx : Nat} {y : MethodName} {ws : List Cond} (h1 : Cond.methodLink own idx y ∈ wsA) (h2 : Cond.instanceMethod y ∈ wsA) (h3 : Cond.selects C y y ∈ wsA) (h4 : Cond.initialized C ∈ wsA) (h : ∀ w ∈ ws, w ∈ wsA) : GoodIn wsA (wsV own idx C y ws) := y_gA (fun w hw => (List.mem_append.mp hw).elim (fun q => by
  simp only [List.mem_cons, List.not_mem_nil, or_false] at q
  rcases q with rfl | rfl | rfl | rfl <;> assumption) (h w))
theorem y_gS {own : String} {idx : Nat} {y : MethodName} {ws : List Cond} (h1 : Cond.methodLink own idx y ∈ wsA) (h2 : Cond.static y ∈ wsA) (h3 : Cond.initialized y.cls ∈ wsA) (h : ∀ w ∈ ws, w ∈ wsA) : GoodIn wsA (va_wsS own idx y ws) := y_gA (fun w hw => (List.mem_append.mp hw).elim (fun q => by
  simp only [List.mem_cons, List.not_mem_nil, or_false] at q
  rcases q with rfl | rfl | rfl <;> assumption) (h w))
def RX0 : String := "ClauseYard"
def TX0 : u_T := fun k => match k with
  | 0 => ("ClauseYard", "search", "LClauseYard$Search;", true)
  | 1 => ("ClauseYard", "clausesBelow", "[I", true)
  | 2 => ("ClauseYard", "assumptions", "[I", true)
  | 3 => ("ClauseYard", "clauseCount", "I", false)
  | 4 => ("ClauseYard", "level", "I", false)
  | 5 => ("ClauseYard", "assumptionCount", "I", false)
  | 6 => ("ClauseYard", "tapeCount", "I", false)
  | 7 => ("ClauseYard", "tapeYes", "I", false)
  | 8 => ("ClauseYard", "tapeNo", "I", false)
  | _ => ("ClauseYard", "model", "I", false)
def tyX0 : Nat → FieldType := fun k => match k with
  | 0 => .object "ClauseYard$Search"
  | 1 => .array .int
  | 2 => .array .int
  | 3 => .int
  | 4 => .int
  | 5 => .int
  | 6 => .int
  | 7 => .int
  | 8 => .int
  | _ => .int
theorem nX0 : ∀ a, a < 10 → ∀ b, b < 10 → a ≠ b → (TX0 a).2.1 ≠ (TX0 b).2.1 := by decide +kernel
theorem tyX0_ok : ∀ k, k < 10 → parseFieldDescriptor (TX0 k).2.2.1 = some (tyX0 k) := by decide +kernel
theorem inX0 : ∀ w ∈ u_ws RX0 TX0 10, w ∈ wsA := fun w h => y_inT ((by decide +kernel : ∀ w ∈ u_ws RX0 TX0 10, w ∈ tables_1) w h) ((by decide +kernel : ∀ w ∈ u_ws RX0 TX0 10, goodWord w = true) w h)
def RX1 : String := "ClauseYardModel"
def TX1 : u_T := fun k => match k with
  | 0 => ("ClauseYardModel", "thrown", "I", false)
  | 1 => ("ClauseYardModel", "tape", "[I", true)
  | 2 => ("ClauseYardModel", "tapeSize", "I", false)
  | 3 => ("ClauseYardModel", "clauses", "I", false)
  | 4 => ("ClauseYardModel", "literals", "[I", true)
  | 5 => ("ClauseYardModel", "sizes", "[I", true)
  | 6 => ("ClauseYardModel", "levels", "[I", true)
  | 7 => ("ClauseYardModel", "level", "I", false)
  | 8 => ("ClauseYardModel", "assumed", "[I", true)
  | 9 => ("ClauseYardModel", "assumptions", "I", false)
  | 10 => ("ClauseYardModel", "model", "I", false)
  | 11 => ("ClauseYardModel", "good", "[J", true)
  | _ => ("ClauseYardModel", "inWord", "[J", true)
def tyX1 : Nat → FieldType := fun k => match k with
  | 0 => .int
  | 1 => .array .int
  | 2 => .int
  | 3 => .int
  | 4 => .array .int
  | 5 => .array .int
  | 6 => .array .int
  | 7 => .int
  | 8 => .array .int
  | 9 => .int
  | 10 => .int
  | 11 => .array .long
  | _ => .array .long
theorem nX1 : ∀ a, a < 13 → ∀ b, b < 13 → a ≠ b → (TX1 a).2.1 ≠ (TX1 b).2.1 := by decide +kernel
theorem tyX1_ok : ∀ k, k < 13 → parseFieldDescriptor (TX1 k).2.2.1 = some (tyX1 k) := by decide +kernel
theorem inX1 : ∀ w ∈ u_ws RX1 TX1 13, w ∈ wsA := fun w h => y_inT ((by decide +kernel : ∀ w ∈ u_ws RX1 TX1 13, w ∈ tables_1) w h) ((by decide +kernel : ∀ w ∈ u_ws RX1 TX1 13, goodWord w = true) w h)
def RX2 : String := "ClauseYard$Search"
def TX2 : u_T := fun k => match k with
  | 0 => ("ClauseYard$Search", "highYes", "[I", true)
  | 1 => ("ClauseYard$Search", "highNo", "[I", true)
  | 2 => ("ClauseYard$Search", "low", "[J", true)
  | 3 => ("ClauseYard$Search", "reasonYes", "[I", true)
  | 4 => ("ClauseYard$Search", "reasonNo", "[I", true)
  | 5 => ("ClauseYard$Search", "blamedYes", "I", false)
  | 6 => ("ClauseYard$Search", "blamedNo", "I", false)
  | _ => ("ClauseYard$Search", "found", "J", false)
def tyX2 : Nat → FieldType := fun k => match k with
  | 0 => .array .int
  | 1 => .array .int
  | 2 => .array .long
  | 3 => .array .int
  | 4 => .array .int
  | 5 => .int
  | 6 => .int
  | _ => .long
theorem nX2 : ∀ a, a < 8 → ∀ b, b < 8 → a ≠ b → (TX2 a).2.1 ≠ (TX2 b).2.1 := by decide +kernel
theorem tyX2_ok : ∀ k, k < 8 → parseFieldDescriptor (TX2 k).2.2.1 = some (tyX2 k) := by decide +kernel
theorem inX2 : ∀ w ∈ u_ws RX2 TX2 8, w ∈ wsA := fun w h => y_inT ((by decide +kernel : ∀ w ∈ u_ws RX2 TX2 8, w ∈ tables_1) w h) ((by decide +kernel : ∀ w ∈ u_ws RX2 TX2 8, goodWord w = true) w h)
def RL : String := "ClauseYardLaw"
def RJL : String := "java/lang/Long"
def RJI : String := "java/lang/Integer"
abbrev vwCl : List vw_C := [(RX0, TX0, 10), (RX1, TX1, 13), (RX2, TX2, 8)]
abbrev cX0_init : ByteArray := prog_1_method_1_code
def yX0_init : MethodName := ⟨RX0, "<init>", "()V"⟩
def wsX0_init : List Cond := .code yX0_init cX0_init 1 none :: wsA
set_option maxRecDepth 100000 in
theorem kX0_init : ∀ w ∈ wsX0_init, w ∈ wsA := y_gM (y_inT (List.mem_of_getElem? (i := 17) rfl) rfl)
abbrev cX2_init : ByteArray := prog_2_method_1_code
def yX2_init : MethodName := ⟨RX2, "<init>", "()V"⟩
def wsX2_init : List Cond := .code yX2_init cX2_init 1 none :: wsA
set_option maxRecDepth 100000 in
theorem kX2_init : ∀ w ∈ wsX2_init, w ∈ wsA := y_gM (y_inT (List.mem_of_getElem? (i := 25) rfl) rfl)
abbrev cX0_free : ByteArray := prog_1_method_7_code
def yX0_free : MethodName := ⟨RX0, "free", "()I"⟩
def wsX0_free : List Cond := .code yX0_free cX0_free 2 (some .int) :: wsA
set_option maxRecDepth 100000 in
theorem kX0_free : ∀ w ∈ wsX0_free, w ∈ wsA := y_gM (y_inT (List.mem_of_getElem? (i := 88) rfl) rfl)
abbrev cX0_least : ByteArray := prog_1_method_8_code
def yX0_least : MethodName := ⟨RX0, "least", "()I"⟩
def wsX0_least : List Cond := .code yX0_least cX0_least 1 (some .int) :: wsA
set_option maxRecDepth 100000 in
theorem kX0_least : ∀ w ∈ wsX0_least, w ∈ wsA := y_gM (y_inT (List.mem_of_getElem? (i := 92) rfl) rfl)
abbrev cX0_writeAssumptions : ByteArray := prog_1_method_19_code
def yX0_writeAssumptions : MethodName := ⟨RX0, "writeAssumptions", "(I)I"⟩
def wsX0_writeAssumptions : List Cond := .code yX0_writeAssumptions cX0_writeAssumptions 4 (some .int) :: wsA
set_option maxRecDepth 100000 in
theorem kX0_writeAssumptions : ∀ w ∈ wsX0_writeAssumptions, w ∈ wsA := y_gM (y_inT (List.mem_of_getElem? (i := 96) rfl) rfl)
abbrev cX0_yesMask : ByteArray := prog_1_method_17_code
def yX0_yesMask : MethodName := ⟨RX0, "yesMask", "(I)I"⟩
def wsX0_yesMask : List Cond := .code yX0_yesMask cX0_yesMask 1 (some .int) :: wsA
set_option maxRecDepth 100000 in
theorem kX0_yesMask : ∀ w ∈ wsX0_yesMask, w ∈ wsA := y_gM (y_inT (List.mem_of_getElem? (i := 99) rfl) rfl)
abbrev cX0_noMask : ByteArray := prog_1_method_18_code
def yX0_noMask : MethodName := ⟨RX0, "noMask", "(I)I"⟩
def wsX0_noMask : List Cond := .code yX0_noMask cX0_noMask 1 (some .int) :: wsA
set_option maxRecDepth 100000 in
theorem kX0_noMask : ∀ w ∈ wsX0_noMask, w ∈ wsA := y_gM (y_inT (List.mem_of_getElem? (i := 102) rfl) rfl)
abbrev cX2_write : ByteArray := prog_2_method_2_code
def yX2_write : MethodName := ⟨RX2, "write", "(III)V"⟩
def wsX2_write : List Cond := .code yX2_write cX2_write 4 none :: wsA
set_option maxRecDepth 100000 in
theorem kX2_write : ∀ w ∈ wsX2_write, w ∈ wsA := y_gM (y_inT (List.mem_of_getElem? (i := 106) rfl) rfl)
abbrev cX2_whereTrue : ByteArray := prog_2_method_7_code
def yX2_whereTrue : MethodName := ⟨RX2, "whereTrue", "(II)J"⟩
def wsX2_whereTrue : List Cond := .code yX2_whereTrue cX2_whereTrue 5 (some .long) :: wsA
set_option maxRecDepth 100000 in
theorem kX2_whereTrue : ∀ w ∈ wsX2_whereTrue, w ∈ wsA := y_gM (y_inT (List.mem_of_getElem? (i := 110) rfl) rfl)
abbrev cX2_writeParts : ByteArray := prog_2_method_6_code
def yX2_writeParts : MethodName := ⟨RX2, "writeParts", "(IIIJ)V"⟩
def wsX2_writeParts : List Cond := .code yX2_writeParts cX2_writeParts 6 none :: wsA
set_option maxRecDepth 100000 in
theorem kX2_writeParts : ∀ w ∈ wsX2_writeParts, w ∈ wsA := y_gM (y_inT (List.mem_of_getElem? (i := 117) rfl) rfl)
abbrev cX2_leastFrom : ByteArray := prog_2_method_3_code
def yX2_leastFrom : MethodName := ⟨RX2, "leastFrom", "(II)I"⟩
def wsX2_leastFrom : List Cond := .code yX2_leastFrom cX2_leastFrom 7 (some .int) :: wsA
set_option maxRecDepth 100000 in
theorem kX2_leastFrom : ∀ w ∈ wsX2_leastFrom, w ∈ wsA := y_gM (y_inT (List.mem_of_getElem? (i := 121) rfl) rfl)
abbrev cX2_giveReasonsOfStart : ByteArray := prog_2_method_8_code
def yX2_giveReasonsOfStart : MethodName := ⟨RX2, "giveReasonsOfStart", "(I)V"⟩
def wsX2_giveReasonsOfStart : List Cond := .code yX2_giveReasonsOfStart cX2_giveReasonsOfStart 3 none :: wsA
set_option maxRecDepth 100000 in
theorem kX2_giveReasonsOfStart : ∀ w ∈ wsX2_giveReasonsOfStart, w ∈ wsA := y_gM (y_inT (List.mem_of_getElem? (i := 126) rfl) rfl)
abbrev cX2_goodByLowAlone : ByteArray := prog_2_method_9_code
def yX2_goodByLowAlone : MethodName := ⟨RX2, "goodByLowAlone", "(I)J"⟩
def wsX2_goodByLowAlone : List Cond := .code yX2_goodByLowAlone cX2_goodByLowAlone 5 (some .long) :: wsA
set_option maxRecDepth 100000 in
theorem kX2_goodByLowAlone : ∀ w ∈ wsX2_goodByLowAlone, w ∈ wsA := y_gM (y_inT (List.mem_of_getElem? (i := 130) rfl) rfl)
abbrev cX2_goodInBlock : ByteArray := prog_2_method_10_code
def yX2_goodInBlock : MethodName := ⟨RX2, "goodInBlock", "(IJI)J"⟩
def wsX2_goodInBlock : List Cond := .code yX2_goodInBlock cX2_goodInBlock 9 (some .long) :: wsA
set_option maxRecDepth 100000 in
theorem kX2_goodInBlock : ∀ w ∈ wsX2_goodInBlock, w ∈ wsA := y_gM (y_inT (List.mem_of_getElem? (i := 134) rfl) rfl)
abbrev cJL_numberOfTrailingZeros : ByteArray := prog_9_method_49_code
def yJL_numberOfTrailingZeros : MethodName := ⟨RJL, "numberOfTrailingZeros", "(J)I"⟩
def wsJL_numberOfTrailingZeros : List Cond := .code yJL_numberOfTrailingZeros cJL_numberOfTrailingZeros 3 (some .int) :: wsA
set_option maxRecDepth 100000 in
theorem kJL_numberOfTrailingZeros : ∀ w ∈ wsJL_numberOfTrailingZeros, w ∈ wsA := y_gM (y_inT (List.mem_of_getElem? (i := 137) rfl) rfl)
abbrev cJI_numberOfTrailingZeros : ByteArray := prog_8_method_48_code
def yJI_numberOfTrailingZeros : MethodName := ⟨RJI, "numberOfTrailingZeros", "(I)I"⟩
def wsJI_numberOfTrailingZeros : List Cond := .code yJI_numberOfTrailingZeros cJI_numberOfTrailingZeros 2 (some .int) :: wsA
set_option maxRecDepth 100000 in
theorem kJI_numberOfTrailingZeros : ∀ w ∈ wsJI_numberOfTrailingZeros, w ∈ wsA := y_gM (y_inT (List.mem_of_getElem? (i := 140) rfl) rfl)
abbrev cX2_leap : ByteArray := prog_2_method_11_code
def yX2_leap : MethodName := ⟨RX2, "leap", "(I)I"⟩
def wsX2_leap : List Cond := .code yX2_leap cX2_leap 6 (some .int) :: wsA
set_option maxRecDepth 100000 in
theorem kX2_leap : ∀ w ∈ wsX2_leap, w ∈ wsA := y_gM (y_inT (List.mem_of_getElem? (i := 145) rfl) rfl)
abbrev cX2_setByReasons : ByteArray := prog_2_method_12_code
def yX2_setByReasons : MethodName := ⟨RX2, "setByReasons", "(I)I"⟩
def wsX2_setByReasons : List Cond := .code yX2_setByReasons cX2_setByReasons 5 (some .int) :: wsA
set_option maxRecDepth 100000 in
theorem kX2_setByReasons : ∀ w ∈ wsX2_setByReasons, w ∈ wsA := y_gM (y_inT (List.mem_of_getElem? (i := 149) rfl) rfl)
abbrev cX0_can : ByteArray := prog_1_method_10_code
def yX0_can : MethodName := ⟨RX0, "can", "()Z"⟩
def wsX0_can : List Cond := .code yX0_can cX0_can 1 (some .boolean) :: wsA
set_option maxRecDepth 100000 in
theorem kX0_can : ∀ w ∈ wsX0_can, w ∈ wsA := y_gM (y_inT (List.mem_of_getElem? (i := 153) rfl) rfl)
abbrev cX0_isSatisfied : ByteArray := prog_1_method_20_code
def yX0_isSatisfied : MethodName := ⟨RX0, "isSatisfied", "(I)Z"⟩
def wsX0_isSatisfied : List Cond := .code yX0_isSatisfied cX0_isSatisfied 2 (some .boolean) :: wsA
set_option maxRecDepth 100000 in
theorem kX0_isSatisfied : ∀ w ∈ wsX0_isSatisfied, w ∈ wsA := y_gM (y_inT (List.mem_of_getElem? (i := 157) rfl) rfl)
abbrev cL_put : ByteArray := method_3_code
def yL_put : MethodName := ⟨RL, "put", "(LClauseYard;I[J)I"⟩
def wsL_put : List Cond := .codeWith yL_put cL_put 4 (some .int) [(0, 9, 12, 13), (0, 9, 15, 15)] :: wsA
set_option maxRecDepth 100000 in
theorem kL_put : ∀ w ∈ wsL_put, w ∈ wsA := y_gM (y_inT (List.mem_of_getElem? (i := 160) rfl) rfl)
abbrev cX0_put : ByteArray := prog_1_method_2_code
def yX0_put : MethodName := ⟨RX0, "put", "(I)I"⟩
def wsX0_put : List Cond := .code yX0_put cX0_put 2 (some .int) :: wsA
set_option maxRecDepth 100000 in
theorem kX0_put : ∀ w ∈ wsX0_put, w ∈ wsA := y_gM (y_inT (List.mem_of_getElem? (i := 166) rfl) rfl)
abbrev cX0_isLiteral : ByteArray := prog_1_method_16_code
def yX0_isLiteral : MethodName := ⟨RX0, "isLiteral", "(I)Z"⟩
def wsX0_isLiteral : List Cond := .code yX0_isLiteral cX0_isLiteral 1 (some .boolean) :: wsA
set_option maxRecDepth 100000 in
theorem kX0_isLiteral : ∀ w ∈ wsX0_isLiteral, w ∈ wsA := y_gM (y_inT (List.mem_of_getElem? (i := 169) rfl) rfl)
abbrev cL_add : ByteArray := method_4_code
def yL_add : MethodName := ⟨RL, "add", "(LClauseYard;[J)I"⟩
def wsL_add : List Cond := .codeWith yL_add cL_add 3 (some .int) [(0, 8, 11, 15)] :: wsA
set_option maxRecDepth 100000 in
theorem kL_add : ∀ w ∈ wsL_add, w ∈ wsA := y_gM (y_inT (List.mem_of_getElem? (i := 256) rfl) rfl)
abbrev cX0_add : ByteArray := prog_1_method_3_code
def yX0_add : MethodName := ⟨RX0, "add", "()I"⟩
def wsX0_add : List Cond := .code yX0_add cX0_add 1 (some .int) :: wsA
set_option maxRecDepth 100000 in
theorem kX0_add : ∀ w ∈ wsX0_add, w ∈ wsA := y_gM (y_inT (List.mem_of_getElem? (i := 260) rfl) rfl)
abbrev cL_open : ByteArray := method_5_code
def yL_open : MethodName := ⟨RL, "open", "(LClauseYard;[J)I"⟩
def wsL_open : List Cond := .codeWith yL_open cL_open 3 (some .int) [(0, 8, 11, 15)] :: wsA
set_option maxRecDepth 100000 in
theorem kL_open : ∀ w ∈ wsL_open, w ∈ wsA := y_gM (y_inT (List.mem_of_getElem? (i := 264) rfl) rfl)
abbrev cX0_open : ByteArray := prog_1_method_4_code
def yX0_open : MethodName := ⟨RX0, "open", "()I"⟩
def wsX0_open : List Cond := .code yX0_open cX0_open 1 (some .int) :: wsA
set_option maxRecDepth 100000 in
theorem kX0_open : ∀ w ∈ wsX0_open, w ∈ wsA := y_gM (y_inT (List.mem_of_getElem? (i := 268) rfl) rfl)
abbrev cL_close : ByteArray := method_6_code
def yL_close : MethodName := ⟨RL, "close", "(LClauseYard;[J)I"⟩
def wsL_close : List Cond := .codeWith yL_close cL_close 3 (some .int) [(0, 8, 11, 15)] :: wsA
set_option maxRecDepth 100000 in
theorem kL_close : ∀ w ∈ wsL_close, w ∈ wsA := y_gM (y_inT (List.mem_of_getElem? (i := 272) rfl) rfl)
abbrev cX0_close : ByteArray := prog_1_method_5_code
def yX0_close : MethodName := ⟨RX0, "close", "()I"⟩
def wsX0_close : List Cond := .code yX0_close cX0_close 2 (some .int) :: wsA
set_option maxRecDepth 100000 in
theorem kX0_close : ∀ w ∈ wsX0_close, w ∈ wsA := y_gM (y_inT (List.mem_of_getElem? (i := 276) rfl) rfl)
abbrev cL_assume : ByteArray := method_7_code
def yL_assume : MethodName := ⟨RL, "assume", "(LClauseYard;I[J)I"⟩
def wsL_assume : List Cond := .codeWith yL_assume cL_assume 4 (some .int) [(0, 9, 12, 13), (0, 9, 15, 15)] :: wsA
set_option maxRecDepth 100000 in
theorem kL_assume : ∀ w ∈ wsL_assume, w ∈ wsA := y_gM (y_inT (List.mem_of_getElem? (i := 280) rfl) rfl)
abbrev cX0_assume : ByteArray := prog_1_method_6_code
def yX0_assume : MethodName := ⟨RX0, "assume", "(I)I"⟩
def wsX0_assume : List Cond := .code yX0_assume cX0_assume 2 (some .int) :: wsA
set_option maxRecDepth 100000 in
theorem kX0_assume : ∀ w ∈ wsX0_assume, w ∈ wsA := y_gM (y_inT (List.mem_of_getElem? (i := 284) rfl) rfl)
abbrev cL_next : ByteArray := method_8_code
def yL_next : MethodName := ⟨RL, "next", "(LClauseYard;[J)I"⟩
def wsL_next : List Cond := .codeWith yL_next cL_next 3 (some .int) [(0, 8, 11, 15)] :: wsA
set_option maxRecDepth 100000 in
theorem kL_next : ∀ w ∈ wsL_next, w ∈ wsA := y_gM (y_inT (List.mem_of_getElem? (i := 288) rfl) rfl)
abbrev cX0_next : ByteArray := prog_1_method_9_code
def yX0_next : MethodName := ⟨RX0, "next", "()I"⟩
def wsX0_next : List Cond := .code yX0_next cX0_next 1 (some .int) :: wsA
set_option maxRecDepth 100000 in
theorem kX0_next : ∀ w ∈ wsX0_next, w ∈ wsA := y_gM (y_inT (List.mem_of_getElem? (i := 292) rfl) rfl)
abbrev cL_forced : ByteArray := method_9_code
def yL_forced : MethodName := ⟨RL, "forced", "(LClauseYard;I[J)I"⟩
def wsL_forced : List Cond := .codeWith yL_forced cL_forced 4 (some .int) [(0, 16, 19, 13)] :: wsA
set_option maxRecDepth 100000 in
theorem kL_forced : ∀ w ∈ wsL_forced, w ∈ wsA := y_gM (y_inT (List.mem_of_getElem? (i := 296) rfl) rfl)
abbrev cX0_forced : ByteArray := prog_1_method_11_code
def yX0_forced : MethodName := ⟨RX0, "forced", "(I)Z"⟩
def wsX0_forced : List Cond := .code yX0_forced cX0_forced 3 (some .boolean) :: wsA
set_option maxRecDepth 100000 in
theorem kX0_forced : ∀ w ∈ wsX0_forced, w ∈ wsA := y_gM (y_inT (List.mem_of_getElem? (i := 300) rfl) rfl)
abbrev cL_blames : ByteArray := method_10_code
def yL_blames : MethodName := ⟨RL, "blames", "(LClauseYard;I[J)I"⟩
def wsL_blames : List Cond := .codeWith yL_blames cL_blames 4 (some .int) [(0, 16, 19, 40)] :: wsA
set_option maxRecDepth 100000 in
theorem kL_blames : ∀ w ∈ wsL_blames, w ∈ wsA := y_gM (y_inT (List.mem_of_getElem? (i := 303) rfl) rfl)
abbrev cX0_blames : ByteArray := prog_1_method_12_code
def yX0_blames : MethodName := ⟨RX0, "blames", "(I)Z"⟩
def wsX0_blames : List Cond := .code yX0_blames cX0_blames 2 (some .boolean) :: wsA
set_option maxRecDepth 100000 in
theorem kX0_blames : ∀ w ∈ wsX0_blames, w ∈ wsA := y_gM (y_inT (List.mem_of_getElem? (i := 308) rfl) rfl)
abbrev cL_count : ByteArray := method_11_code
def yL_count : MethodName := ⟨RL, "count", "(LClauseYard;I[J)I"⟩
def wsL_count : List Cond := .codeWith yL_count cL_count 4 (some .int) [(0, 9, 12, 13)] :: wsA
set_option maxRecDepth 100000 in
theorem kL_count : ∀ w ∈ wsL_count, w ∈ wsA := y_gM (y_inT (List.mem_of_getElem? (i := 327) rfl) rfl)
abbrev cX0_count : ByteArray := prog_1_method_13_code
def yX0_count : MethodName := ⟨RX0, "count", "(I)I"⟩
def wsX0_count : List Cond := .code yX0_count cX0_count 7 (some .int) :: wsA
set_option maxRecDepth 100000 in
theorem kX0_count : ∀ w ∈ wsX0_count, w ∈ wsA := y_gM (y_inT (List.mem_of_getElem? (i := 331) rfl) rfl)
abbrev cX2_foundInBlock : ByteArray := prog_2_method_4_code
def yX2_foundInBlock : MethodName := ⟨RX2, "foundInBlock", "()I"⟩
def wsX2_foundInBlock : List Cond := .code yX2_foundInBlock cX2_foundInBlock 1 (some .int) :: wsA
set_option maxRecDepth 100000 in
theorem kX2_foundInBlock : ∀ w ∈ wsX2_foundInBlock, w ∈ wsA := y_gM (y_inT (List.mem_of_getElem? (i := 336) rfl) rfl)
abbrev cJL_bitCount : ByteArray := prog_9_method_50_code
def yJL_bitCount : MethodName := ⟨RJL, "bitCount", "(J)I"⟩
def wsJL_bitCount : List Cond := .code yJL_bitCount cJL_bitCount 2 (some .int) :: wsA
set_option maxRecDepth 100000 in
theorem kJL_bitCount : ∀ w ∈ wsJL_bitCount, w ∈ wsA := y_gM (y_inT (List.mem_of_getElem? (i := 339) rfl) rfl)
abbrev cX2_nextBlock : ByteArray := prog_2_method_5_code
def yX2_nextBlock : MethodName := ⟨RX2, "nextBlock", "(I)I"⟩
def wsX2_nextBlock : List Cond := .code yX2_nextBlock cX2_nextBlock 1 (some .int) :: wsA
set_option maxRecDepth 100000 in
theorem kX2_nextBlock : ∀ w ∈ wsX2_nextBlock, w ∈ wsA := y_gM (y_inT (List.mem_of_getElem? (i := 345) rfl) rfl)
abbrev cL_value : ByteArray := method_12_code
def yL_value : MethodName := ⟨RL, "value", "(LClauseYard;I[J)I"⟩
def wsL_value : List Cond := .codeWith yL_value cL_value 4 (some .int) [(0, 9, 12, 13), (0, 9, 15, 15)] :: wsA
set_option maxRecDepth 100000 in
theorem kL_value : ∀ w ∈ wsL_value, w ∈ wsA := y_gM (y_inT (List.mem_of_getElem? (i := 351) rfl) rfl)
abbrev cX0_value : ByteArray := prog_1_method_14_code
def yX0_value : MethodName := ⟨RX0, "value", "(I)I"⟩
def wsX0_value : List Cond := .code yX0_value cX0_value 2 (some .int) :: wsA
set_option maxRecDepth 100000 in
theorem kX0_value : ∀ w ∈ wsX0_value, w ∈ wsA := y_gM (y_inT (List.mem_of_getElem? (i := 355) rfl) rfl)
abbrev cL_look : ByteArray := method_13_code
def yL_look : MethodName := ⟨RL, "look", "(LClauseYard;I[J)I"⟩
def wsL_look : List Cond := .codeWith yL_look cL_look 4 (some .int) [(0, 9, 12, 13)] :: wsA
set_option maxRecDepth 100000 in
theorem kL_look : ∀ w ∈ wsL_look, w ∈ wsA := y_gM (y_inT (List.mem_of_getElem? (i := 359) rfl) rfl)
abbrev cX0_look : ByteArray := prog_1_method_15_code
def yX0_look : MethodName := ⟨RX0, "look", "(I)I"⟩
def wsX0_look : List Cond := .code yX0_look cX0_look 2 (some .int) :: wsA
set_option maxRecDepth 100000 in
theorem kX0_look : ∀ w ∈ wsX0_look, w ∈ wsA := y_gM (y_inT (List.mem_of_getElem? (i := 363) rfl) rfl)
abbrev cX1_init : ByteArray := prog_4_method_1_code
def yX1_init : MethodName := ⟨RX1, "<init>", "()V"⟩
def wsX1_init : List Cond := .code yX1_init cX1_init 1 none :: wsA
set_option maxRecDepth 100000 in
theorem kX1_init : ∀ w ∈ wsX1_init, w ∈ wsA := y_gM (y_inT (List.mem_of_getElem? (i := 369) rfl) rfl)
abbrev cX1_renew : ByteArray := prog_4_method_7_code
def yX1_renew : MethodName := ⟨RX1, "renew", "()V"⟩
def wsX1_renew : List Cond := .code yX1_renew cX1_renew 2 none :: wsA
set_option maxRecDepth 100000 in
theorem kX1_renew : ∀ w ∈ wsX1_renew, w ∈ wsA := y_gM (y_inT (List.mem_of_getElem? (i := 380) rfl) rfl)
abbrev cX1_apply : ByteArray := prog_4_method_6_code
def yX1_apply : MethodName := ⟨RX1, "apply", "(I)V"⟩
def wsX1_apply : List Cond := .code yX1_apply cX1_apply 6 none :: wsA
set_option maxRecDepth 100000 in
theorem kX1_apply : ∀ w ∈ wsX1_apply, w ∈ wsA := y_gM (y_inT (List.mem_of_getElem? (i := 385) rfl) rfl)
abbrev cX1_truth : ByteArray := prog_4_method_5_code
def yX1_truth : MethodName := ⟨RX1, "truth", "(II)J"⟩
def wsX1_truth : List Cond := .code yX1_truth cX1_truth 6 (some .long) :: wsA
set_option maxRecDepth 100000 in
theorem kX1_truth : ∀ w ∈ wsX1_truth, w ∈ wsA := y_gM (y_inT (List.mem_of_getElem? (i := 389) rfl) rfl)
abbrev cX1_thrown : ByteArray := prog_4_method_2_code
def yX1_thrown : MethodName := ⟨RX1, "thrown", "()I"⟩
def wsX1_thrown : List Cond := .code yX1_thrown cX1_thrown 1 (some .int) :: wsA
set_option maxRecDepth 100000 in
theorem kX1_thrown : ∀ w ∈ wsX1_thrown, w ∈ wsA := y_gM (y_inT (List.mem_of_getElem? (i := 433) rfl) rfl)
abbrev cX1_put : ByteArray := prog_4_method_11_code
def yX1_put : MethodName := ⟨RX1, "put", "(I)I"⟩
def wsX1_put : List Cond := .code yX1_put cX1_put 2 (some .int) :: wsA
set_option maxRecDepth 100000 in
theorem kX1_put : ∀ w ∈ wsX1_put, w ∈ wsA := y_gM (y_inT (List.mem_of_getElem? (i := 437) rfl) rfl)
abbrev cX1_isLiteral : ByteArray := prog_4_method_4_code
def yX1_isLiteral : MethodName := ⟨RX1, "isLiteral", "(I)Z"⟩
def wsX1_isLiteral : List Cond := .code yX1_isLiteral cX1_isLiteral 1 (some .boolean) :: wsA
set_option maxRecDepth 100000 in
theorem kX1_isLiteral : ∀ w ∈ wsX1_isLiteral, w ∈ wsA := y_gM (y_inT (List.mem_of_getElem? (i := 440) rfl) rfl)
abbrev cX1_throwing : ByteArray := prog_4_method_3_code
def yX1_throwing : MethodName := ⟨RX1, "throwing", "(ZZ)Z"⟩
def wsX1_throwing : List Cond := .code yX1_throwing cX1_throwing 3 (some .boolean) :: wsA
set_option maxRecDepth 100000 in
theorem kX1_throwing : ∀ w ∈ wsX1_throwing, w ∈ wsA := y_gM (y_inT (List.mem_of_getElem? (i := 444) rfl) rfl)
abbrev cX1_add : ByteArray := prog_4_method_12_code
def yX1_add : MethodName := ⟨RX1, "add", "()I"⟩
def wsX1_add : List Cond := .code yX1_add cX1_add 2 (some .int) :: wsA
set_option maxRecDepth 100000 in
theorem kX1_add : ∀ w ∈ wsX1_add, w ∈ wsA := y_gM (y_inT (List.mem_of_getElem? (i := 448) rfl) rfl)
abbrev cX1_open : ByteArray := prog_4_method_13_code
def yX1_open : MethodName := ⟨RX1, "open", "()I"⟩
def wsX1_open : List Cond := .code yX1_open cX1_open 1 (some .int) :: wsA
set_option maxRecDepth 100000 in
theorem kX1_open : ∀ w ∈ wsX1_open, w ∈ wsA := y_gM (y_inT (List.mem_of_getElem? (i := 452) rfl) rfl)
abbrev cX1_close : ByteArray := prog_4_method_14_code
def yX1_close : MethodName := ⟨RX1, "close", "()I"⟩
def wsX1_close : List Cond := .code yX1_close cX1_close 2 (some .int) :: wsA
set_option maxRecDepth 100000 in
theorem kX1_close : ∀ w ∈ wsX1_close, w ∈ wsA := y_gM (y_inT (List.mem_of_getElem? (i := 456) rfl) rfl)
abbrev cX1_assume : ByteArray := prog_4_method_15_code
def yX1_assume : MethodName := ⟨RX1, "assume", "(I)I"⟩
def wsX1_assume : List Cond := .code yX1_assume cX1_assume 2 (some .int) :: wsA
set_option maxRecDepth 100000 in
theorem kX1_assume : ∀ w ∈ wsX1_assume, w ∈ wsA := y_gM (y_inT (List.mem_of_getElem? (i := 460) rfl) rfl)
abbrev cX1_free : ByteArray := prog_4_method_16_code
def yX1_free : MethodName := ⟨RX1, "free", "()I"⟩
def wsX1_free : List Cond := .code yX1_free cX1_free 2 (some .int) :: wsA
set_option maxRecDepth 100000 in
theorem kX1_free : ∀ w ∈ wsX1_free, w ∈ wsA := y_gM (y_inT (List.mem_of_getElem? (i := 464) rfl) rfl)
abbrev cX1_least : ByteArray := prog_4_method_17_code
def yX1_least : MethodName := ⟨RX1, "least", "()I"⟩
def wsX1_least : List Cond := .code yX1_least cX1_least 1 (some .int) :: wsA
set_option maxRecDepth 100000 in
theorem kX1_least : ∀ w ∈ wsX1_least, w ∈ wsA := y_gM (y_inT (List.mem_of_getElem? (i := 468) rfl) rfl)
abbrev cX1_from : ByteArray := prog_4_method_10_code
def yX1_from : MethodName := ⟨RX1, "from", "(I)I"⟩
def wsX1_from : List Cond := .code yX1_from cX1_from 6 (some .int) :: wsA
set_option maxRecDepth 100000 in
theorem kX1_from : ∀ w ∈ wsX1_from, w ∈ wsA := y_gM (y_inT (List.mem_of_getElem? (i := 472) rfl) rfl)
abbrev cX1_word : ByteArray := prog_4_method_8_code
def yX1_word : MethodName := ⟨RX1, "word", "(II)J"⟩
def wsX1_word : List Cond := .code yX1_word cX1_word 6 (some .long) :: wsA
set_option maxRecDepth 100000 in
theorem kX1_word : ∀ w ∈ wsX1_word, w ∈ wsA := y_gM (y_inT (List.mem_of_getElem? (i := 476) rfl) rfl)
abbrev cX1_next : ByteArray := prog_4_method_18_code
def yX1_next : MethodName := ⟨RX1, "next", "()I"⟩
def wsX1_next : List Cond := .code yX1_next cX1_next 1 (some .int) :: wsA
set_option maxRecDepth 100000 in
theorem kX1_next : ∀ w ∈ wsX1_next, w ∈ wsA := y_gM (y_inT (List.mem_of_getElem? (i := 480) rfl) rfl)
abbrev cX1_can : ByteArray := prog_4_method_19_code
def yX1_can : MethodName := ⟨RX1, "can", "()Z"⟩
def wsX1_can : List Cond := .code yX1_can cX1_can 1 (some .boolean) :: wsA
set_option maxRecDepth 100000 in
theorem kX1_can : ∀ w ∈ wsX1_can, w ∈ wsA := y_gM (y_inT (List.mem_of_getElem? (i := 484) rfl) rfl)
abbrev cX1_some : ByteArray := prog_4_method_9_code
def yX1_some : MethodName := ⟨RX1, "some", "(I)Z"⟩
def wsX1_some : List Cond := .code yX1_some cX1_some 4 (some .boolean) :: wsA
set_option maxRecDepth 100000 in
theorem kX1_some : ∀ w ∈ wsX1_some, w ∈ wsA := y_gM (y_inT (List.mem_of_getElem? (i := 488) rfl) rfl)
abbrev cX1_forced : ByteArray := prog_4_method_20_code
def yX1_forced : MethodName := ⟨RX1, "forced", "(I)Z"⟩
def wsX1_forced : List Cond := .code yX1_forced cX1_forced 4 (some .boolean) :: wsA
set_option maxRecDepth 100000 in
theorem kX1_forced : ∀ w ∈ wsX1_forced, w ∈ wsA := y_gM (y_inT (List.mem_of_getElem? (i := 492) rfl) rfl)
abbrev cX1_blames : ByteArray := prog_4_method_21_code
def yX1_blames : MethodName := ⟨RX1, "blames", "(I)Z"⟩
def wsX1_blames : List Cond := .code yX1_blames cX1_blames 2 (some .boolean) :: wsA
set_option maxRecDepth 100000 in
theorem kX1_blames : ∀ w ∈ wsX1_blames, w ∈ wsA := y_gM (y_inT (List.mem_of_getElem? (i := 496) rfl) rfl)
abbrev cX1_count : ByteArray := prog_4_method_22_code
def yX1_count : MethodName := ⟨RX1, "count", "(I)I"⟩
def wsX1_count : List Cond := .code yX1_count cX1_count 7 (some .int) :: wsA
set_option maxRecDepth 100000 in
theorem kX1_count : ∀ w ∈ wsX1_count, w ∈ wsA := y_gM (y_inT (List.mem_of_getElem? (i := 500) rfl) rfl)
abbrev cX1_value : ByteArray := prog_4_method_23_code
def yX1_value : MethodName := ⟨RX1, "value", "(I)I"⟩
def wsX1_value : List Cond := .code yX1_value cX1_value 2 (some .int) :: wsA
set_option maxRecDepth 100000 in
theorem kX1_value : ∀ w ∈ wsX1_value, w ∈ wsA := y_gM (y_inT (List.mem_of_getElem? (i := 504) rfl) rfl)
abbrev cX1_look : ByteArray := prog_4_method_24_code
def yX1_look : MethodName := ⟨RX1, "look", "(I)I"⟩
def wsX1_look : List Cond := .code yX1_look cX1_look 2 (some .int) :: wsA
set_option maxRecDepth 100000 in
theorem kX1_look : ∀ w ∈ wsX1_look, w ∈ wsA := y_gM (y_inT (List.mem_of_getElem? (i := 508) rfl) rfl)
abbrev cL_law : ByteArray := code
theorem ini_ClauseYardLaw : Cond.initialized RL ∈ wsA := y_inT (List.mem_of_getElem? (i := 0) (by decide +kernel)) rfl
theorem ini_ClauseYard : Cond.initialized RX0 ∈ wsA := y_inT (List.mem_of_getElem? (i := 1) (by decide +kernel)) rfl
theorem ini_ClauseYard_Search : Cond.initialized RX2 ∈ wsA := y_inT (List.mem_of_getElem? (i := 2) (by decide +kernel)) rfl
theorem ini_ClauseYardModel : Cond.initialized RX1 ∈ wsA := y_inT (List.mem_of_getElem? (i := 3) (by decide +kernel)) rfl
theorem ini_Throwable : Cond.initialized "java/lang/Throwable" ∈ wsA := y_inT (List.mem_of_getElem? (i := 4) (by decide +kernel)) rfl
theorem ini_Exception : Cond.initialized "java/lang/Exception" ∈ wsA := y_inT (List.mem_of_getElem? (i := 5) (by decide +kernel)) rfl
theorem ini_RuntimeException : Cond.initialized "java/lang/RuntimeException" ∈ wsA := y_inT (List.mem_of_getElem? (i := 6) (by decide +kernel)) rfl
theorem ini_IllegalArgumentException : Cond.initialized "java/lang/IllegalArgumentException" ∈ wsA := y_inT (List.mem_of_getElem? (i := 7) (by decide +kernel)) rfl
theorem ini_IllegalStateException : Cond.initialized "java/lang/IllegalStateException" ∈ wsA := y_inT (List.mem_of_getElem? (i := 8) (by decide +kernel)) rfl
theorem ini_Long : Cond.initialized RJL ∈ wsA := y_inT (List.mem_of_getElem? (i := 9) (by decide +kernel)) rfl
theorem ini_Integer : Cond.initialized RJI ∈ wsA := y_inT (List.mem_of_getElem? (i := 10) (by decide +kernel)) rfl
theorem ini_NoSuchElementException : Cond.initialized "java/util/NoSuchElementException" ∈ wsA := y_inT (List.mem_of_getElem? (i := 11) (by decide +kernel)) rfl
theorem ini_Math : Cond.initialized "java/lang/Math" ∈ wsA := y_inT (List.mem_of_getElem? (i := 12) (by decide +kernel)) rfl
theorem lkL_8 : Cond.classLink RL 8 RX0 ∈ wsA := y_inT (List.mem_of_getElem? (i := 13) (by decide +kernel)) rfl
theorem ist_ClauseYard : Cond.instantiable RX0 10 ∈ wsA := y_inT (List.mem_of_getElem? (i := 14) (by decide +kernel)) rfl
theorem lkL_51 : Cond.methodLink RL 51 yX0_init ∈ wsA := y_inT (List.mem_of_getElem? (i := 15) (by decide +kernel)) rfl
theorem im_X0_init : Cond.instanceMethod yX0_init ∈ wsA := y_inT (List.mem_of_getElem? (i := 16) (by decide +kernel)) rfl
theorem gL_51 : GoodIn wsA wsX0_init := y_gA kX0_init
theorem lkX0_3 : Cond.methodLink RX0 3 objectInit ∈ wsA := y_inT (List.mem_of_getElem? (i := 18) (by decide +kernel)) rfl
theorem lkX0_9 : Cond.classLink RX0 9 RX2 ∈ wsA := y_inT (List.mem_of_getElem? (i := 21) (by decide +kernel)) rfl
theorem ist_ClauseYard_Search : Cond.instantiable RX2 8 ∈ wsA := y_inT (List.mem_of_getElem? (i := 22) (by decide +kernel)) rfl
theorem lkX2_5 : Cond.methodLink RX2 5 objectInit ∈ wsA := y_inT (List.mem_of_getElem? (i := 26) (by decide +kernel)) rfl
theorem lkX2_11 : Cond.fieldLink RX2 11 "ClauseYard$Search" "highYes" "[I" ∈ wsA := y_inT (List.mem_of_getElem? (i := 27) (by decide +kernel)) rfl
theorem lkX2_15 : Cond.fieldLink RX2 15 "ClauseYard$Search" "highNo" "[I" ∈ wsA := y_inT (List.mem_of_getElem? (i := 28) (by decide +kernel)) rfl
theorem lkX2_18 : Cond.fieldLink RX2 18 "ClauseYard$Search" "low" "[J" ∈ wsA := y_inT (List.mem_of_getElem? (i := 29) (by decide +kernel)) rfl
theorem lkX2_22 : Cond.fieldLink RX2 22 "ClauseYard$Search" "reasonYes" "[I" ∈ wsA := y_inT (List.mem_of_getElem? (i := 30) (by decide +kernel)) rfl
theorem lkX2_25 : Cond.fieldLink RX2 25 "ClauseYard$Search" "reasonNo" "[I" ∈ wsA := y_inT (List.mem_of_getElem? (i := 31) (by decide +kernel)) rfl
theorem lkX2_75 : Cond.fieldLink RX2 75 "ClauseYard$Search" "blamedYes" "I" ∈ wsA := y_inT (List.mem_of_getElem? (i := 32) (by decide +kernel)) rfl
theorem lkX2_79 : Cond.fieldLink RX2 79 "ClauseYard$Search" "blamedNo" "I" ∈ wsA := y_inT (List.mem_of_getElem? (i := 33) (by decide +kernel)) rfl
theorem lkX2_52 : Cond.fieldLink RX2 52 "ClauseYard$Search" "found" "J" ∈ wsA := y_inT (List.mem_of_getElem? (i := 34) (by decide +kernel)) rfl
theorem ac_int : Cond.arrayClass .int ∈ wsA := y_inT (List.mem_of_getElem? (i := 52) (by decide +kernel)) rfl
theorem ac_long : Cond.arrayClass .long ∈ wsA := y_inT (List.mem_of_getElem? (i := 53) (by decide +kernel)) rfl
theorem lkX0_12 : Cond.fieldLink RX0 12 "ClauseYard" "search" "LClauseYard$Search;" ∈ wsA := y_inT (List.mem_of_getElem? (i := 54) (by decide +kernel)) rfl
theorem lkX0_16 : Cond.fieldLink RX0 16 "ClauseYard" "clausesBelow" "[I" ∈ wsA := y_inT (List.mem_of_getElem? (i := 55) (by decide +kernel)) rfl
theorem lkX0_20 : Cond.fieldLink RX0 20 "ClauseYard" "assumptions" "[I" ∈ wsA := y_inT (List.mem_of_getElem? (i := 56) (by decide +kernel)) rfl
theorem lkX0_59 : Cond.fieldLink RX0 59 "ClauseYard" "clauseCount" "I" ∈ wsA := y_inT (List.mem_of_getElem? (i := 57) (by decide +kernel)) rfl
theorem lkX0_68 : Cond.fieldLink RX0 68 "ClauseYard" "level" "I" ∈ wsA := y_inT (List.mem_of_getElem? (i := 58) (by decide +kernel)) rfl
theorem lkX0_75 : Cond.fieldLink RX0 75 "ClauseYard" "assumptionCount" "I" ∈ wsA := y_inT (List.mem_of_getElem? (i := 59) (by decide +kernel)) rfl
theorem lkX0_38 : Cond.fieldLink RX0 38 "ClauseYard" "tapeCount" "I" ∈ wsA := y_inT (List.mem_of_getElem? (i := 60) (by decide +kernel)) rfl
theorem lkX0_46 : Cond.fieldLink RX0 46 "ClauseYard" "tapeYes" "I" ∈ wsA := y_inT (List.mem_of_getElem? (i := 61) (by decide +kernel)) rfl
theorem lkX0_53 : Cond.fieldLink RX0 53 "ClauseYard" "tapeNo" "I" ∈ wsA := y_inT (List.mem_of_getElem? (i := 62) (by decide +kernel)) rfl
theorem lkX0_23 : Cond.fieldLink RX0 23 "ClauseYard" "model" "I" ∈ wsA := y_inT (List.mem_of_getElem? (i := 63) (by decide +kernel)) rfl
theorem lkL_77 : Cond.methodLink RL 77 yX0_free ∈ wsA := y_inT (List.mem_of_getElem? (i := 85) (by decide +kernel)) rfl
theorem gL_77 : GoodIn wsA (wsV RL 77 RX0 yX0_free wsX0_free) := y_gV lkL_77 (y_inT (List.mem_of_getElem? (i := 86) (by decide +kernel)) rfl) (y_inT (List.mem_of_getElem? (i := 87) (by decide +kernel)) rfl) ini_ClauseYard kX0_free
theorem lkL_81 : Cond.methodLink RL 81 yX0_least ∈ wsA := y_inT (List.mem_of_getElem? (i := 89) (by decide +kernel)) rfl
theorem gL_81 : GoodIn wsA (wsV RL 81 RX0 yX0_least wsX0_least) := y_gV lkL_81 (y_inT (List.mem_of_getElem? (i := 90) (by decide +kernel)) rfl) (y_inT (List.mem_of_getElem? (i := 91) (by decide +kernel)) rfl) ini_ClauseYard kX0_least
theorem lkX0_80 : Cond.methodLink RX0 80 yX0_writeAssumptions ∈ wsA := y_inT (List.mem_of_getElem? (i := 93) (by decide +kernel)) rfl
theorem gX0_80 : GoodIn wsA (wsV RX0 80 RX0 yX0_writeAssumptions wsX0_writeAssumptions) := y_gV lkX0_80 (y_inT (List.mem_of_getElem? (i := 95) (by decide +kernel)) rfl) (y_inA (by decide +kernel) rfl) ini_ClauseYard kX0_writeAssumptions
theorem lkX0_49 : Cond.methodLink RX0 49 yX0_yesMask ∈ wsA := y_inT (List.mem_of_getElem? (i := 97) (by decide +kernel)) rfl
theorem gX0_49 : GoodIn wsA (va_wsS RX0 49 yX0_yesMask wsX0_yesMask) := y_gS lkX0_49 (y_inT (List.mem_of_getElem? (i := 98) (by decide +kernel)) rfl) ini_ClauseYard kX0_yesMask
theorem lkX0_56 : Cond.methodLink RX0 56 yX0_noMask ∈ wsA := y_inT (List.mem_of_getElem? (i := 100) (by decide +kernel)) rfl
theorem gX0_56 : GoodIn wsA (va_wsS RX0 56 yX0_noMask wsX0_noMask) := y_gS lkX0_56 (y_inT (List.mem_of_getElem? (i := 101) (by decide +kernel)) rfl) ini_ClauseYard kX0_noMask
theorem lkX0_64 : Cond.methodLink RX0 64 yX2_write ∈ wsA := y_inT (List.mem_of_getElem? (i := 103) (by decide +kernel)) rfl
theorem gX0_64 : GoodIn wsA (wsV RX0 64 RX2 yX2_write wsX2_write) := y_gV lkX0_64 (y_inT (List.mem_of_getElem? (i := 104) (by decide +kernel)) rfl) (y_inT (List.mem_of_getElem? (i := 105) (by decide +kernel)) rfl) ini_ClauseYard_Search kX2_write
theorem lkX2_28 : Cond.constant RX2 28 (262080 : Int32) ∈ wsA := y_inT (List.mem_of_getElem? (i := 107) (by decide +kernel)) rfl
theorem lkX2_29 : Cond.methodLink RX2 29 yX2_whereTrue ∈ wsA := y_inT (List.mem_of_getElem? (i := 108) (by decide +kernel)) rfl
theorem gX2_29 : GoodIn wsA (va_wsS RX2 29 yX2_whereTrue wsX2_whereTrue) := y_gS lkX2_29 (y_inT (List.mem_of_getElem? (i := 109) (by decide +kernel)) rfl) ini_ClauseYard_Search kX2_whereTrue
theorem lkX2_72 : Cond.fieldLink RX2 72 "ClauseYard$Search" "WHERE_ONE" "[J" ∈ wsA := y_inT (List.mem_of_getElem? (i := 111) (by decide +kernel)) rfl
theorem lkX2_42 : Cond.constantLong RX2 42 (-1 : Int64) ∈ wsA := y_inT (List.mem_of_getElem? (i := 113) (by decide +kernel)) rfl
theorem lkX2_33 : Cond.methodLink RX2 33 yX2_writeParts ∈ wsA := y_inT (List.mem_of_getElem? (i := 114) (by decide +kernel)) rfl
theorem gX2_33 : GoodIn wsA (wsV RX2 33 RX2 yX2_writeParts wsX2_writeParts) := y_gV lkX2_33 (y_inT (List.mem_of_getElem? (i := 116) (by decide +kernel)) rfl) (y_inA (by decide +kernel) rfl) ini_ClauseYard_Search kX2_writeParts
theorem lkX0_83 : Cond.methodLink RX0 83 yX2_leastFrom ∈ wsA := y_inT (List.mem_of_getElem? (i := 118) (by decide +kernel)) rfl
theorem gX0_83 : GoodIn wsA (wsV RX0 83 RX2 yX2_leastFrom wsX2_leastFrom) := y_gV lkX0_83 (y_inT (List.mem_of_getElem? (i := 119) (by decide +kernel)) rfl) (y_inT (List.mem_of_getElem? (i := 120) (by decide +kernel)) rfl) ini_ClauseYard_Search kX2_leastFrom
theorem lkX2_37 : Cond.constant RX2 37 (262143 : Int32) ∈ wsA := y_inT (List.mem_of_getElem? (i := 122) (by decide +kernel)) rfl
theorem lkX2_38 : Cond.methodLink RX2 38 yX2_giveReasonsOfStart ∈ wsA := y_inT (List.mem_of_getElem? (i := 123) (by decide +kernel)) rfl
theorem gX2_38 : GoodIn wsA (wsV RX2 38 RX2 yX2_giveReasonsOfStart wsX2_giveReasonsOfStart) := y_gV lkX2_38 (y_inT (List.mem_of_getElem? (i := 125) (by decide +kernel)) rfl) (y_inA (by decide +kernel) rfl) ini_ClauseYard_Search kX2_giveReasonsOfStart
theorem lkX2_44 : Cond.methodLink RX2 44 yX2_goodByLowAlone ∈ wsA := y_inT (List.mem_of_getElem? (i := 127) (by decide +kernel)) rfl
theorem gX2_44 : GoodIn wsA (wsV RX2 44 RX2 yX2_goodByLowAlone wsX2_goodByLowAlone) := y_gV lkX2_44 (y_inT (List.mem_of_getElem? (i := 129) (by decide +kernel)) rfl) (y_inA (by decide +kernel) rfl) ini_ClauseYard_Search kX2_goodByLowAlone
theorem lkX2_48 : Cond.methodLink RX2 48 yX2_goodInBlock ∈ wsA := y_inT (List.mem_of_getElem? (i := 131) (by decide +kernel)) rfl
theorem gX2_48 : GoodIn wsA (wsV RX2 48 RX2 yX2_goodInBlock wsX2_goodInBlock) := y_gV lkX2_48 (y_inT (List.mem_of_getElem? (i := 133) (by decide +kernel)) rfl) (y_inA (by decide +kernel) rfl) ini_ClauseYard_Search kX2_goodInBlock
theorem lkX2_56 : Cond.methodLink RX2 56 yJL_numberOfTrailingZeros ∈ wsA := y_inT (List.mem_of_getElem? (i := 135) (by decide +kernel)) rfl
theorem gX2_56 : GoodIn wsA (va_wsS RX2 56 yJL_numberOfTrailingZeros wsJL_numberOfTrailingZeros) := y_gS lkX2_56 (y_inT (List.mem_of_getElem? (i := 136) (by decide +kernel)) rfl) ini_Long kJL_numberOfTrailingZeros
theorem lkJL_311 : Cond.methodLink RJL 311 yJI_numberOfTrailingZeros ∈ wsA := y_inT (List.mem_of_getElem? (i := 138) (by decide +kernel)) rfl
theorem gJL_311 : GoodIn wsA (va_wsS RJL 311 yJI_numberOfTrailingZeros wsJI_numberOfTrailingZeros) := y_gS lkJL_311 (y_inT (List.mem_of_getElem? (i := 139) (by decide +kernel)) rfl) ini_Integer kJI_numberOfTrailingZeros
theorem lkJI_264 : Cond.constant RJI 264 (65536 : Int32) ∈ wsA := y_inT (List.mem_of_getElem? (i := 141) (by decide +kernel)) rfl
theorem lkX2_62 : Cond.methodLink RX2 62 yX2_leap ∈ wsA := y_inT (List.mem_of_getElem? (i := 142) (by decide +kernel)) rfl
theorem gX2_62 : GoodIn wsA (wsV RX2 62 RX2 yX2_leap wsX2_leap) := y_gV lkX2_62 (y_inT (List.mem_of_getElem? (i := 144) (by decide +kernel)) rfl) (y_inA (by decide +kernel) rfl) ini_ClauseYard_Search kX2_leap
theorem lkX2_66 : Cond.methodLink RX2 66 yX2_setByReasons ∈ wsA := y_inT (List.mem_of_getElem? (i := 146) (by decide +kernel)) rfl
theorem gX2_66 : GoodIn wsA (wsV RX2 66 RX2 yX2_setByReasons wsX2_setByReasons) := y_gV lkX2_66 (y_inT (List.mem_of_getElem? (i := 148) (by decide +kernel)) rfl) (y_inA (by decide +kernel) rfl) ini_ClauseYard_Search kX2_setByReasons
theorem lkL_88 : Cond.methodLink RL 88 yX0_can ∈ wsA := y_inT (List.mem_of_getElem? (i := 150) (by decide +kernel)) rfl
theorem gL_88 : GoodIn wsA (wsV RL 88 RX0 yX0_can wsX0_can) := y_gV lkL_88 (y_inT (List.mem_of_getElem? (i := 151) (by decide +kernel)) rfl) (y_inT (List.mem_of_getElem? (i := 152) (by decide +kernel)) rfl) ini_ClauseYard kX0_can
theorem lkX0_89 : Cond.methodLink RX0 89 yX0_isSatisfied ∈ wsA := y_inT (List.mem_of_getElem? (i := 154) (by decide +kernel)) rfl
theorem gX0_89 : GoodIn wsA (wsV RX0 89 RX0 yX0_isSatisfied wsX0_isSatisfied) := y_gV lkX0_89 (y_inT (List.mem_of_getElem? (i := 156) (by decide +kernel)) rfl) (y_inA (by decide +kernel) rfl) ini_ClauseYard kX0_isSatisfied
theorem lkL_55 : Cond.methodLink RL 55 yL_put ∈ wsA := y_inT (List.mem_of_getElem? (i := 158) (by decide +kernel)) rfl
theorem gL_55 : GoodIn wsA (va_wsS RL 55 yL_put wsL_put) := y_gS lkL_55 (y_inT (List.mem_of_getElem? (i := 159) (by decide +kernel)) rfl) ini_ClauseYardLaw kL_put
theorem lkL_13 : Cond.classLink RL 13 "java/lang/IllegalArgumentException" ∈ wsA := y_inT (List.mem_of_getElem? (i := 161) (by decide +kernel)) rfl
theorem lkL_15 : Cond.classLink RL 15 "java/lang/IllegalStateException" ∈ wsA := y_inT (List.mem_of_getElem? (i := 162) (by decide +kernel)) rfl
theorem lkL_7 : Cond.methodLink RL 7 yX0_put ∈ wsA := y_inT (List.mem_of_getElem? (i := 163) (by decide +kernel)) rfl
theorem gL_7 : GoodIn wsA (wsV RL 7 RX0 yX0_put wsX0_put) := y_gV lkL_7 (y_inT (List.mem_of_getElem? (i := 164) (by decide +kernel)) rfl) (y_inT (List.mem_of_getElem? (i := 165) (by decide +kernel)) rfl) ini_ClauseYard kX0_put
theorem lkX0_27 : Cond.methodLink RX0 27 yX0_isLiteral ∈ wsA := y_inT (List.mem_of_getElem? (i := 167) (by decide +kernel)) rfl
theorem gX0_27 : GoodIn wsA (va_wsS RX0 27 yX0_isLiteral wsX0_isLiteral) := y_gS lkX0_27 (y_inT (List.mem_of_getElem? (i := 168) (by decide +kernel)) rfl) ini_ClauseYard kX0_isLiteral
theorem lkX0_31 : Cond.classLink RX0 31 "java/lang/IllegalArgumentException" ∈ wsA := y_inT (List.mem_of_getElem? (i := 170) (by decide +kernel)) rfl
theorem ist_IllegalArgumentException : Cond.instantiable "java/lang/IllegalArgumentException" 6 ∈ wsA := y_inT (List.mem_of_getElem? (i := 171) (by decide +kernel)) rfl
theorem ist_Throwable : Cond.instantiable "java/lang/Throwable" 6 ∈ wsA := y_inT (List.mem_of_getElem? (i := 209) (by decide +kernel)) rfl
theorem ac_byte : Cond.arrayClass .byte ∈ wsA := y_inT (List.mem_of_getElem? (i := 237) (by decide +kernel)) rfl
theorem lkX0_41 : Cond.classLink RX0 41 "java/lang/IllegalStateException" ∈ wsA := y_inT (List.mem_of_getElem? (i := 238) (by decide +kernel)) rfl
theorem ist_IllegalStateException : Cond.instantiable "java/lang/IllegalStateException" 6 ∈ wsA := y_inT (List.mem_of_getElem? (i := 239) (by decide +kernel)) rfl
theorem lkL_64 : Cond.methodLink RL 64 yL_add ∈ wsA := y_inT (List.mem_of_getElem? (i := 254) (by decide +kernel)) rfl
theorem gL_64 : GoodIn wsA (va_wsS RL 64 yL_add wsL_add) := y_gS lkL_64 (y_inT (List.mem_of_getElem? (i := 255) (by decide +kernel)) rfl) ini_ClauseYardLaw kL_add
theorem lkL_17 : Cond.methodLink RL 17 yX0_add ∈ wsA := y_inT (List.mem_of_getElem? (i := 257) (by decide +kernel)) rfl
theorem gL_17 : GoodIn wsA (wsV RL 17 RX0 yX0_add wsX0_add) := y_gV lkL_17 (y_inT (List.mem_of_getElem? (i := 258) (by decide +kernel)) rfl) (y_inT (List.mem_of_getElem? (i := 259) (by decide +kernel)) rfl) ini_ClauseYard kX0_add
theorem lkL_68 : Cond.methodLink RL 68 yL_open ∈ wsA := y_inT (List.mem_of_getElem? (i := 262) (by decide +kernel)) rfl
theorem gL_68 : GoodIn wsA (va_wsS RL 68 yL_open wsL_open) := y_gS lkL_68 (y_inT (List.mem_of_getElem? (i := 263) (by decide +kernel)) rfl) ini_ClauseYardLaw kL_open
theorem lkL_21 : Cond.methodLink RL 21 yX0_open ∈ wsA := y_inT (List.mem_of_getElem? (i := 265) (by decide +kernel)) rfl
theorem gL_21 : GoodIn wsA (wsV RL 21 RX0 yX0_open wsX0_open) := y_gV lkL_21 (y_inT (List.mem_of_getElem? (i := 266) (by decide +kernel)) rfl) (y_inT (List.mem_of_getElem? (i := 267) (by decide +kernel)) rfl) ini_ClauseYard kX0_open
theorem lkL_71 : Cond.methodLink RL 71 yL_close ∈ wsA := y_inT (List.mem_of_getElem? (i := 270) (by decide +kernel)) rfl
theorem gL_71 : GoodIn wsA (va_wsS RL 71 yL_close wsL_close) := y_gS lkL_71 (y_inT (List.mem_of_getElem? (i := 271) (by decide +kernel)) rfl) ini_ClauseYardLaw kL_close
theorem lkL_24 : Cond.methodLink RL 24 yX0_close ∈ wsA := y_inT (List.mem_of_getElem? (i := 273) (by decide +kernel)) rfl
theorem gL_24 : GoodIn wsA (wsV RL 24 RX0 yX0_close wsX0_close) := y_gV lkL_24 (y_inT (List.mem_of_getElem? (i := 274) (by decide +kernel)) rfl) (y_inT (List.mem_of_getElem? (i := 275) (by decide +kernel)) rfl) ini_ClauseYard kX0_close
theorem lkL_74 : Cond.methodLink RL 74 yL_assume ∈ wsA := y_inT (List.mem_of_getElem? (i := 278) (by decide +kernel)) rfl
theorem gL_74 : GoodIn wsA (va_wsS RL 74 yL_assume wsL_assume) := y_gS lkL_74 (y_inT (List.mem_of_getElem? (i := 279) (by decide +kernel)) rfl) ini_ClauseYardLaw kL_assume
theorem lkL_27 : Cond.methodLink RL 27 yX0_assume ∈ wsA := y_inT (List.mem_of_getElem? (i := 281) (by decide +kernel)) rfl
theorem gL_27 : GoodIn wsA (wsV RL 27 RX0 yX0_assume wsX0_assume) := y_gV lkL_27 (y_inT (List.mem_of_getElem? (i := 282) (by decide +kernel)) rfl) (y_inT (List.mem_of_getElem? (i := 283) (by decide +kernel)) rfl) ini_ClauseYard kX0_assume
theorem lkL_85 : Cond.methodLink RL 85 yL_next ∈ wsA := y_inT (List.mem_of_getElem? (i := 286) (by decide +kernel)) rfl
theorem gL_85 : GoodIn wsA (va_wsS RL 85 yL_next wsL_next) := y_gS lkL_85 (y_inT (List.mem_of_getElem? (i := 287) (by decide +kernel)) rfl) ini_ClauseYardLaw kL_next
theorem lkL_30 : Cond.methodLink RL 30 yX0_next ∈ wsA := y_inT (List.mem_of_getElem? (i := 289) (by decide +kernel)) rfl
theorem gL_30 : GoodIn wsA (wsV RL 30 RX0 yX0_next wsX0_next) := y_gV lkL_30 (y_inT (List.mem_of_getElem? (i := 290) (by decide +kernel)) rfl) (y_inT (List.mem_of_getElem? (i := 291) (by decide +kernel)) rfl) ini_ClauseYard kX0_next
theorem lkL_93 : Cond.methodLink RL 93 yL_forced ∈ wsA := y_inT (List.mem_of_getElem? (i := 294) (by decide +kernel)) rfl
theorem gL_93 : GoodIn wsA (va_wsS RL 93 yL_forced wsL_forced) := y_gS lkL_93 (y_inT (List.mem_of_getElem? (i := 295) (by decide +kernel)) rfl) ini_ClauseYardLaw kL_forced
theorem lkL_33 : Cond.methodLink RL 33 yX0_forced ∈ wsA := y_inT (List.mem_of_getElem? (i := 297) (by decide +kernel)) rfl
theorem gL_33 : GoodIn wsA (wsV RL 33 RX0 yX0_forced wsX0_forced) := y_gV lkL_33 (y_inT (List.mem_of_getElem? (i := 298) (by decide +kernel)) rfl) (y_inT (List.mem_of_getElem? (i := 299) (by decide +kernel)) rfl) ini_ClauseYard kX0_forced
theorem lkL_96 : Cond.methodLink RL 96 yL_blames ∈ wsA := y_inT (List.mem_of_getElem? (i := 301) (by decide +kernel)) rfl
theorem gL_96 : GoodIn wsA (va_wsS RL 96 yL_blames wsL_blames) := y_gS lkL_96 (y_inT (List.mem_of_getElem? (i := 302) (by decide +kernel)) rfl) ini_ClauseYardLaw kL_blames
theorem lkL_40 : Cond.classLink RL 40 "java/util/NoSuchElementException" ∈ wsA := y_inT (List.mem_of_getElem? (i := 304) (by decide +kernel)) rfl
theorem lkL_37 : Cond.methodLink RL 37 yX0_blames ∈ wsA := y_inT (List.mem_of_getElem? (i := 305) (by decide +kernel)) rfl
theorem gL_37 : GoodIn wsA (wsV RL 37 RX0 yX0_blames wsX0_blames) := y_gV lkL_37 (y_inT (List.mem_of_getElem? (i := 306) (by decide +kernel)) rfl) (y_inT (List.mem_of_getElem? (i := 307) (by decide +kernel)) rfl) ini_ClauseYard kX0_blames
theorem lkX0_92 : Cond.classLink RX0 92 "java/util/NoSuchElementException" ∈ wsA := y_inT (List.mem_of_getElem? (i := 309) (by decide +kernel)) rfl
theorem ist_NoSuchElementException : Cond.instantiable "java/util/NoSuchElementException" 6 ∈ wsA := y_inT (List.mem_of_getElem? (i := 310) (by decide +kernel)) rfl
theorem lkL_99 : Cond.methodLink RL 99 yL_count ∈ wsA := y_inT (List.mem_of_getElem? (i := 325) (by decide +kernel)) rfl
theorem gL_99 : GoodIn wsA (va_wsS RL 99 yL_count wsL_count) := y_gS lkL_99 (y_inT (List.mem_of_getElem? (i := 326) (by decide +kernel)) rfl) ini_ClauseYardLaw kL_count
theorem lkL_42 : Cond.methodLink RL 42 yX0_count ∈ wsA := y_inT (List.mem_of_getElem? (i := 328) (by decide +kernel)) rfl
theorem gL_42 : GoodIn wsA (wsV RL 42 RX0 yX0_count wsX0_count) := y_gV lkL_42 (y_inT (List.mem_of_getElem? (i := 329) (by decide +kernel)) rfl) (y_inT (List.mem_of_getElem? (i := 330) (by decide +kernel)) rfl) ini_ClauseYard kX0_count
theorem lkX0_99 : Cond.methodLink RX0 99 yX2_foundInBlock ∈ wsA := y_inT (List.mem_of_getElem? (i := 333) (by decide +kernel)) rfl
theorem gX0_99 : GoodIn wsA (wsV RX0 99 RX2 yX2_foundInBlock wsX2_foundInBlock) := y_gV lkX0_99 (y_inT (List.mem_of_getElem? (i := 334) (by decide +kernel)) rfl) (y_inT (List.mem_of_getElem? (i := 335) (by decide +kernel)) rfl) ini_ClauseYard_Search kX2_foundInBlock
theorem lkX2_69 : Cond.methodLink RX2 69 yJL_bitCount ∈ wsA := y_inT (List.mem_of_getElem? (i := 337) (by decide +kernel)) rfl
theorem gX2_69 : GoodIn wsA (va_wsS RX2 69 yJL_bitCount wsJL_bitCount) := y_gS lkX2_69 (y_inT (List.mem_of_getElem? (i := 338) (by decide +kernel)) rfl) ini_Long kJL_bitCount
theorem lkJL_314 : Cond.constantLong RJL 314 (6148914691236517205 : Int64) ∈ wsA := y_inT (List.mem_of_getElem? (i := 340) (by decide +kernel)) rfl
theorem lkJL_316 : Cond.constantLong RJL 316 (3689348814741910323 : Int64) ∈ wsA := y_inT (List.mem_of_getElem? (i := 341) (by decide +kernel)) rfl
theorem lkJL_318 : Cond.constantLong RJL 318 (1085102592571150095 : Int64) ∈ wsA := y_inT (List.mem_of_getElem? (i := 342) (by decide +kernel)) rfl
theorem lkX0_103 : Cond.methodLink RX0 103 yX2_nextBlock ∈ wsA := y_inT (List.mem_of_getElem? (i := 343) (by decide +kernel)) rfl
theorem gX0_103 : GoodIn wsA (va_wsS RX0 103 yX2_nextBlock wsX2_nextBlock) := y_gS lkX0_103 (y_inT (List.mem_of_getElem? (i := 344) (by decide +kernel)) rfl) ini_ClauseYard_Search kX2_nextBlock
theorem lkX0_106 : Cond.methodLink RX0 106 Lib.Math.min.name ∈ wsA := y_inT (List.mem_of_getElem? (i := 346) (by decide +kernel)) rfl
theorem st_min : Cond.static Lib.Math.min.name ∈ wsA := y_inT (List.mem_of_getElem? (i := 347) (by decide +kernel)) rfl
theorem co_min : Cond.code Lib.Math.min.name Lib.Math.min.code 2 (some .int) ∈ wsA := y_inT (List.mem_of_getElem? (i := 348) (by decide +kernel)) rfl
theorem lkL_102 : Cond.methodLink RL 102 yL_value ∈ wsA := y_inT (List.mem_of_getElem? (i := 349) (by decide +kernel)) rfl
theorem gL_102 : GoodIn wsA (va_wsS RL 102 yL_value wsL_value) := y_gS lkL_102 (y_inT (List.mem_of_getElem? (i := 350) (by decide +kernel)) rfl) ini_ClauseYardLaw kL_value
theorem lkL_45 : Cond.methodLink RL 45 yX0_value ∈ wsA := y_inT (List.mem_of_getElem? (i := 352) (by decide +kernel)) rfl
theorem gL_45 : GoodIn wsA (wsV RL 45 RX0 yX0_value wsX0_value) := y_gV lkL_45 (y_inT (List.mem_of_getElem? (i := 353) (by decide +kernel)) rfl) (y_inT (List.mem_of_getElem? (i := 354) (by decide +kernel)) rfl) ini_ClauseYard kX0_value
theorem lkL_105 : Cond.methodLink RL 105 yL_look ∈ wsA := y_inT (List.mem_of_getElem? (i := 357) (by decide +kernel)) rfl
theorem gL_105 : GoodIn wsA (va_wsS RL 105 yL_look wsL_look) := y_gS lkL_105 (y_inT (List.mem_of_getElem? (i := 358) (by decide +kernel)) rfl) ini_ClauseYardLaw kL_look
theorem lkL_48 : Cond.methodLink RL 48 yX0_look ∈ wsA := y_inT (List.mem_of_getElem? (i := 360) (by decide +kernel)) rfl
theorem gL_48 : GoodIn wsA (wsV RL 48 RX0 yX0_look wsX0_look) := y_gV lkL_48 (y_inT (List.mem_of_getElem? (i := 361) (by decide +kernel)) rfl) (y_inT (List.mem_of_getElem? (i := 362) (by decide +kernel)) rfl) ini_ClauseYard kX0_look
theorem lkL_52 : Cond.classLink RL 52 RX1 ∈ wsA := y_inT (List.mem_of_getElem? (i := 365) (by decide +kernel)) rfl
theorem ist_ClauseYardModel : Cond.instantiable RX1 13 ∈ wsA := y_inT (List.mem_of_getElem? (i := 366) (by decide +kernel)) rfl
theorem lkL_54 : Cond.methodLink RL 54 yX1_init ∈ wsA := y_inT (List.mem_of_getElem? (i := 367) (by decide +kernel)) rfl
theorem im_X1_init : Cond.instanceMethod yX1_init ∈ wsA := y_inT (List.mem_of_getElem? (i := 368) (by decide +kernel)) rfl
theorem gL_54 : GoodIn wsA wsX1_init := y_gA kX1_init
theorem lkX1_1 : Cond.methodLink RX1 1 objectInit ∈ wsA := y_inT (List.mem_of_getElem? (i := 370) (by decide +kernel)) rfl
theorem lkX1_33 : Cond.constantLong RX1 33 (-6148914691236517206 : Int64) ∈ wsA := y_inT (List.mem_of_getElem? (i := 371) (by decide +kernel)) rfl
theorem lkX1_35 : Cond.constantLong RX1 35 (-3689348814741910324 : Int64) ∈ wsA := y_inT (List.mem_of_getElem? (i := 372) (by decide +kernel)) rfl
theorem lkX1_37 : Cond.constantLong RX1 37 (-1085102592571150096 : Int64) ∈ wsA := y_inT (List.mem_of_getElem? (i := 373) (by decide +kernel)) rfl
theorem lkX1_39 : Cond.constantLong RX1 39 (-71777214294589696 : Int64) ∈ wsA := y_inT (List.mem_of_getElem? (i := 374) (by decide +kernel)) rfl
theorem lkX1_41 : Cond.constantLong RX1 41 (-281470681808896 : Int64) ∈ wsA := y_inT (List.mem_of_getElem? (i := 375) (by decide +kernel)) rfl
theorem lkX1_43 : Cond.constantLong RX1 43 (-4294967296 : Int64) ∈ wsA := y_inT (List.mem_of_getElem? (i := 376) (by decide +kernel)) rfl
theorem lkX1_48 : Cond.methodLink RX1 48 yX1_renew ∈ wsA := y_inT (List.mem_of_getElem? (i := 377) (by decide +kernel)) rfl
theorem gX1_48 : GoodIn wsA (wsV RX1 48 RX1 yX1_renew wsX1_renew) := y_gV lkX1_48 (y_inT (List.mem_of_getElem? (i := 379) (by decide +kernel)) rfl) (y_inA (by decide +kernel) rfl) ini_ClauseYardModel kX1_renew
theorem lkX1_54 : Cond.constantLong RX1 54 (-1 : Int64) ∈ wsA := y_inT (List.mem_of_getElem? (i := 381) (by decide +kernel)) rfl
theorem lkX1_63 : Cond.methodLink RX1 63 yX1_apply ∈ wsA := y_inT (List.mem_of_getElem? (i := 382) (by decide +kernel)) rfl
theorem gX1_63 : GoodIn wsA (wsV RX1 63 RX1 yX1_apply wsX1_apply) := y_gV lkX1_63 (y_inT (List.mem_of_getElem? (i := 384) (by decide +kernel)) rfl) (y_inA (by decide +kernel) rfl) ini_ClauseYardModel kX1_apply
theorem lkX1_56 : Cond.methodLink RX1 56 yX1_truth ∈ wsA := y_inT (List.mem_of_getElem? (i := 386) (by decide +kernel)) rfl
theorem gX1_56 : GoodIn wsA (wsV RX1 56 RX1 yX1_truth wsX1_truth) := y_gV lkX1_56 (y_inT (List.mem_of_getElem? (i := 388) (by decide +kernel)) rfl) (y_inA (by decide +kernel) rfl) ini_ClauseYardModel kX1_truth
theorem lkX1_51 : Cond.fieldLink RX1 51 "ClauseYardModel" "thrown" "I" ∈ wsA := y_inT (List.mem_of_getElem? (i := 390) (by decide +kernel)) rfl
theorem lkX1_7 : Cond.fieldLink RX1 7 "ClauseYardModel" "tape" "[I" ∈ wsA := y_inT (List.mem_of_getElem? (i := 391) (by decide +kernel)) rfl
theorem lkX1_77 : Cond.fieldLink RX1 77 "ClauseYardModel" "tapeSize" "I" ∈ wsA := y_inT (List.mem_of_getElem? (i := 392) (by decide +kernel)) rfl
theorem lkX1_60 : Cond.fieldLink RX1 60 "ClauseYardModel" "clauses" "I" ∈ wsA := y_inT (List.mem_of_getElem? (i := 393) (by decide +kernel)) rfl
theorem lkX1_13 : Cond.fieldLink RX1 13 "ClauseYardModel" "literals" "[I" ∈ wsA := y_inT (List.mem_of_getElem? (i := 394) (by decide +kernel)) rfl
theorem lkX1_16 : Cond.fieldLink RX1 16 "ClauseYardModel" "sizes" "[I" ∈ wsA := y_inT (List.mem_of_getElem? (i := 395) (by decide +kernel)) rfl
theorem lkX1_19 : Cond.fieldLink RX1 19 "ClauseYardModel" "levels" "[I" ∈ wsA := y_inT (List.mem_of_getElem? (i := 396) (by decide +kernel)) rfl
theorem lkX1_84 : Cond.fieldLink RX1 84 "ClauseYardModel" "level" "I" ∈ wsA := y_inT (List.mem_of_getElem? (i := 397) (by decide +kernel)) rfl
theorem lkX1_22 : Cond.fieldLink RX1 22 "ClauseYardModel" "assumed" "[I" ∈ wsA := y_inT (List.mem_of_getElem? (i := 398) (by decide +kernel)) rfl
theorem lkX1_67 : Cond.fieldLink RX1 67 "ClauseYardModel" "assumptions" "I" ∈ wsA := y_inT (List.mem_of_getElem? (i := 399) (by decide +kernel)) rfl
theorem lkX1_25 : Cond.fieldLink RX1 25 "ClauseYardModel" "model" "I" ∈ wsA := y_inT (List.mem_of_getElem? (i := 400) (by decide +kernel)) rfl
theorem lkX1_29 : Cond.fieldLink RX1 29 "ClauseYardModel" "good" "[J" ∈ wsA := y_inT (List.mem_of_getElem? (i := 401) (by decide +kernel)) rfl
theorem lkX1_45 : Cond.fieldLink RX1 45 "ClauseYardModel" "inWord" "[J" ∈ wsA := y_inT (List.mem_of_getElem? (i := 402) (by decide +kernel)) rfl
theorem lkL_61 : Cond.methodLink RL 61 yX1_thrown ∈ wsA := y_inT (List.mem_of_getElem? (i := 430) (by decide +kernel)) rfl
theorem gL_61 : GoodIn wsA (wsV RL 61 RX1 yX1_thrown wsX1_thrown) := y_gV lkL_61 (y_inT (List.mem_of_getElem? (i := 431) (by decide +kernel)) rfl) (y_inT (List.mem_of_getElem? (i := 432) (by decide +kernel)) rfl) ini_ClauseYardModel kX1_thrown
theorem lkL_60 : Cond.methodLink RL 60 yX1_put ∈ wsA := y_inT (List.mem_of_getElem? (i := 434) (by decide +kernel)) rfl
theorem gL_60 : GoodIn wsA (wsV RL 60 RX1 yX1_put wsX1_put) := y_gV lkL_60 (y_inT (List.mem_of_getElem? (i := 435) (by decide +kernel)) rfl) (y_inT (List.mem_of_getElem? (i := 436) (by decide +kernel)) rfl) ini_ClauseYardModel kX1_put
theorem lkX1_73 : Cond.methodLink RX1 73 yX1_isLiteral ∈ wsA := y_inT (List.mem_of_getElem? (i := 438) (by decide +kernel)) rfl
theorem gX1_73 : GoodIn wsA (va_wsS RX1 73 yX1_isLiteral wsX1_isLiteral) := y_gS lkX1_73 (y_inT (List.mem_of_getElem? (i := 439) (by decide +kernel)) rfl) ini_ClauseYardModel kX1_isLiteral
theorem lkX1_80 : Cond.methodLink RX1 80 yX1_throwing ∈ wsA := y_inT (List.mem_of_getElem? (i := 441) (by decide +kernel)) rfl
theorem gX1_80 : GoodIn wsA (wsV RX1 80 RX1 yX1_throwing wsX1_throwing) := y_gV lkX1_80 (y_inT (List.mem_of_getElem? (i := 443) (by decide +kernel)) rfl) (y_inA (by decide +kernel) rfl) ini_ClauseYardModel kX1_throwing
theorem lkL_67 : Cond.methodLink RL 67 yX1_add ∈ wsA := y_inT (List.mem_of_getElem? (i := 445) (by decide +kernel)) rfl
theorem gL_67 : GoodIn wsA (wsV RL 67 RX1 yX1_add wsX1_add) := y_gV lkL_67 (y_inT (List.mem_of_getElem? (i := 446) (by decide +kernel)) rfl) (y_inT (List.mem_of_getElem? (i := 447) (by decide +kernel)) rfl) ini_ClauseYardModel kX1_add
theorem lkL_70 : Cond.methodLink RL 70 yX1_open ∈ wsA := y_inT (List.mem_of_getElem? (i := 449) (by decide +kernel)) rfl
theorem gL_70 : GoodIn wsA (wsV RL 70 RX1 yX1_open wsX1_open) := y_gV lkL_70 (y_inT (List.mem_of_getElem? (i := 450) (by decide +kernel)) rfl) (y_inT (List.mem_of_getElem? (i := 451) (by decide +kernel)) rfl) ini_ClauseYardModel kX1_open
theorem lkL_73 : Cond.methodLink RL 73 yX1_close ∈ wsA := y_inT (List.mem_of_getElem? (i := 453) (by decide +kernel)) rfl
theorem gL_73 : GoodIn wsA (wsV RL 73 RX1 yX1_close wsX1_close) := y_gV lkL_73 (y_inT (List.mem_of_getElem? (i := 454) (by decide +kernel)) rfl) (y_inT (List.mem_of_getElem? (i := 455) (by decide +kernel)) rfl) ini_ClauseYardModel kX1_close
theorem lkL_76 : Cond.methodLink RL 76 yX1_assume ∈ wsA := y_inT (List.mem_of_getElem? (i := 457) (by decide +kernel)) rfl
theorem gL_76 : GoodIn wsA (wsV RL 76 RX1 yX1_assume wsX1_assume) := y_gV lkL_76 (y_inT (List.mem_of_getElem? (i := 458) (by decide +kernel)) rfl) (y_inT (List.mem_of_getElem? (i := 459) (by decide +kernel)) rfl) ini_ClauseYardModel kX1_assume
theorem lkL_80 : Cond.methodLink RL 80 yX1_free ∈ wsA := y_inT (List.mem_of_getElem? (i := 461) (by decide +kernel)) rfl
theorem gL_80 : GoodIn wsA (wsV RL 80 RX1 yX1_free wsX1_free) := y_gV lkL_80 (y_inT (List.mem_of_getElem? (i := 462) (by decide +kernel)) rfl) (y_inT (List.mem_of_getElem? (i := 463) (by decide +kernel)) rfl) ini_ClauseYardModel kX1_free
theorem lkL_84 : Cond.methodLink RL 84 yX1_least ∈ wsA := y_inT (List.mem_of_getElem? (i := 465) (by decide +kernel)) rfl
theorem gL_84 : GoodIn wsA (wsV RL 84 RX1 yX1_least wsX1_least) := y_gV lkL_84 (y_inT (List.mem_of_getElem? (i := 466) (by decide +kernel)) rfl) (y_inT (List.mem_of_getElem? (i := 467) (by decide +kernel)) rfl) ini_ClauseYardModel kX1_least
theorem lkX1_87 : Cond.methodLink RX1 87 yX1_from ∈ wsA := y_inT (List.mem_of_getElem? (i := 469) (by decide +kernel)) rfl
theorem gX1_87 : GoodIn wsA (wsV RX1 87 RX1 yX1_from wsX1_from) := y_gV lkX1_87 (y_inT (List.mem_of_getElem? (i := 471) (by decide +kernel)) rfl) (y_inA (by decide +kernel) rfl) ini_ClauseYardModel kX1_from
theorem lkX1_70 : Cond.methodLink RX1 70 yX1_word ∈ wsA := y_inT (List.mem_of_getElem? (i := 473) (by decide +kernel)) rfl
theorem gX1_70 : GoodIn wsA (wsV RX1 70 RX1 yX1_word wsX1_word) := y_gV lkX1_70 (y_inT (List.mem_of_getElem? (i := 475) (by decide +kernel)) rfl) (y_inA (by decide +kernel) rfl) ini_ClauseYardModel kX1_word
theorem lkL_87 : Cond.methodLink RL 87 yX1_next ∈ wsA := y_inT (List.mem_of_getElem? (i := 477) (by decide +kernel)) rfl
theorem gL_87 : GoodIn wsA (wsV RL 87 RX1 yX1_next wsX1_next) := y_gV lkL_87 (y_inT (List.mem_of_getElem? (i := 478) (by decide +kernel)) rfl) (y_inT (List.mem_of_getElem? (i := 479) (by decide +kernel)) rfl) ini_ClauseYardModel kX1_next
theorem lkL_92 : Cond.methodLink RL 92 yX1_can ∈ wsA := y_inT (List.mem_of_getElem? (i := 481) (by decide +kernel)) rfl
theorem gL_92 : GoodIn wsA (wsV RL 92 RX1 yX1_can wsX1_can) := y_gV lkL_92 (y_inT (List.mem_of_getElem? (i := 482) (by decide +kernel)) rfl) (y_inT (List.mem_of_getElem? (i := 483) (by decide +kernel)) rfl) ini_ClauseYardModel kX1_can
theorem lkX1_91 : Cond.methodLink RX1 91 yX1_some ∈ wsA := y_inT (List.mem_of_getElem? (i := 485) (by decide +kernel)) rfl
theorem gX1_91 : GoodIn wsA (wsV RX1 91 RX1 yX1_some wsX1_some) := y_gV lkX1_91 (y_inT (List.mem_of_getElem? (i := 487) (by decide +kernel)) rfl) (y_inA (by decide +kernel) rfl) ini_ClauseYardModel kX1_some
theorem lkL_95 : Cond.methodLink RL 95 yX1_forced ∈ wsA := y_inT (List.mem_of_getElem? (i := 489) (by decide +kernel)) rfl
theorem gL_95 : GoodIn wsA (wsV RL 95 RX1 yX1_forced wsX1_forced) := y_gV lkL_95 (y_inT (List.mem_of_getElem? (i := 490) (by decide +kernel)) rfl) (y_inT (List.mem_of_getElem? (i := 491) (by decide +kernel)) rfl) ini_ClauseYardModel kX1_forced
theorem lkL_98 : Cond.methodLink RL 98 yX1_blames ∈ wsA := y_inT (List.mem_of_getElem? (i := 493) (by decide +kernel)) rfl
theorem gL_98 : GoodIn wsA (wsV RL 98 RX1 yX1_blames wsX1_blames) := y_gV lkL_98 (y_inT (List.mem_of_getElem? (i := 494) (by decide +kernel)) rfl) (y_inT (List.mem_of_getElem? (i := 495) (by decide +kernel)) rfl) ini_ClauseYardModel kX1_blames
theorem lkL_101 : Cond.methodLink RL 101 yX1_count ∈ wsA := y_inT (List.mem_of_getElem? (i := 497) (by decide +kernel)) rfl
theorem gL_101 : GoodIn wsA (wsV RL 101 RX1 yX1_count wsX1_count) := y_gV lkL_101 (y_inT (List.mem_of_getElem? (i := 498) (by decide +kernel)) rfl) (y_inT (List.mem_of_getElem? (i := 499) (by decide +kernel)) rfl) ini_ClauseYardModel kX1_count
theorem lkL_104 : Cond.methodLink RL 104 yX1_value ∈ wsA := y_inT (List.mem_of_getElem? (i := 501) (by decide +kernel)) rfl
theorem gL_104 : GoodIn wsA (wsV RL 104 RX1 yX1_value wsX1_value) := y_gV lkL_104 (y_inT (List.mem_of_getElem? (i := 502) (by decide +kernel)) rfl) (y_inT (List.mem_of_getElem? (i := 503) (by decide +kernel)) rfl) ini_ClauseYardModel kX1_value
theorem lkL_107 : Cond.methodLink RL 107 yX1_look ∈ wsA := y_inT (List.mem_of_getElem? (i := 505) (by decide +kernel)) rfl
theorem gL_107 : GoodIn wsA (wsV RL 107 RX1 yX1_look wsX1_look) := y_gV lkL_107 (y_inT (List.mem_of_getElem? (i := 506) (by decide +kernel)) rfl) (y_inT (List.mem_of_getElem? (i := 507) (by decide +kernel)) rfl) ini_ClauseYardModel kX1_look
theorem im_obj : Cond.instanceMethod objectInit ∈ wsA := y_inT (List.mem_of_getElem? (i := 19) (by decide +kernel)) rfl
theorem co_obj : Cond.code objectInit ⟨#[0xb1]⟩ 1 none ∈ wsA := y_inT (List.mem_of_getElem? (i := 20) rfl) rfl
theorem at_IAE : ∀ w ∈ (vx_atS RX0 35 "java/lang/IllegalArgumentException" ["java/lang/RuntimeException", "java/lang/Exception"]).filter goodWord, w ∈ wsA := fun w h => y_inA ((by decide +kernel : ∀ w ∈ (vx_atS RX0 35 "java/lang/IllegalArgumentException" ["java/lang/RuntimeException", "java/lang/Exception"]).filter goodWord, w ∈ lw_tbl) w h) (List.mem_filter.mp h).2
theorem at_ISE : ∀ w ∈ (vx_atS RX0 45 "java/lang/IllegalStateException" ["java/lang/RuntimeException", "java/lang/Exception"]).filter goodWord, w ∈ wsA := fun w h => y_inA ((by decide +kernel : ∀ w ∈ (vx_atS RX0 45 "java/lang/IllegalStateException" ["java/lang/RuntimeException", "java/lang/Exception"]).filter goodWord, w ∈ lw_tbl) w h) (List.mem_filter.mp h).2
theorem im_X2_init : Cond.instanceMethod yX2_init ∈ wsA := y_inT (List.mem_of_getElem? (i := 24) (by decide +kernel)) rfl
theorem gN_init : GoodIn wsA wsX2_init := y_gA kX2_init
