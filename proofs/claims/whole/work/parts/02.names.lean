def RX0 : String := "SignRow$Deeds"
def TX0 : u_T := fun k => match k with
  | 0 => ("SignRow$Deeds", "owner", "[I", true)
  | 1 => ("SignRow$Deeds", "number", "[I", true)
  | 2 => ("SignRow$Deeds", "time", "[I", true)
  | 3 => ("SignRow$Deeds", "sort", "[I", true)
  | 4 => ("SignRow$Deeds", "value", "[I", true)
  | 5 => ("SignRow$Deeds", "from", "[I", true)
  | 6 => ("SignRow$Deeds", "to", "[I", true)
  | 7 => ("SignRow$Deeds", "mayUndo", "[Z", true)
  | 8 => ("SignRow$Deeds", "marks", "[I", true)
  | 9 => ("SignRow$Deeds", "markTotal", "I", false)
  | _ => ("SignRow$Deeds", "total", "I", false)
def tyX0 : Nat → FieldType := fun k => match k with
  | 0 => .array .int
  | 1 => .array .int
  | 2 => .array .int
  | 3 => .array .int
  | 4 => .array .int
  | 5 => .array .int
  | 6 => .array .int
  | 7 => .array .boolean
  | 8 => .array .int
  | 9 => .int
  | _ => .int
theorem nmX0 : ∀ a, a < 11 → ∀ b, b < 11 → a ≠ b → (TX0 a).2.1 ≠ (TX0 b).2.1 := by decide +kernel
theorem tyX0_ok : ∀ k, k < 11 → parseFieldDescriptor (TX0 k).2.2.1 = some (tyX0 k) := by decide +kernel
theorem uwX0 : ∀ w ∈ u_ws RX0 TX0 11, w ∈ zt := fun w h => List.mem_filter.mpr ⟨(by decide +kernel : ∀ w ∈ u_ws RX0 TX0 11, w ∈ lw_tbl) w h, List.all_eq_true.mp (by decide +kernel : (u_ws RX0 TX0 11).all goodWord = true) w h⟩
theorem iniX0 : Cond.initialized RX0 ∈ zt := zt_of (i := 35) (by decide +kernel) (by decide +kernel)
theorem insX0 : Cond.instantiable RX0 11 ∈ zt := zt_of (i := 54) (by decide +kernel) (by decide +kernel)
def RX1 : String := "SignRow$Paths"
def TX1 : u_T := fun k => match k with
  | 0 => ("SignRow$Paths", "levels", "[I", true)
  | 1 => ("SignRow$Paths", "depth", "[I", true)
  | 2 => ("SignRow$Paths", "order", "[I", true)
  | 3 => ("SignRow$Paths", "rank", "[I", true)
  | _ => ("SignRow$Paths", "total", "I", false)
def tyX1 : Nat → FieldType := fun k => match k with
  | 0 => .array .int
  | 1 => .array .int
  | 2 => .array .int
  | 3 => .array .int
  | _ => .int
theorem nmX1 : ∀ a, a < 5 → ∀ b, b < 5 → a ≠ b → (TX1 a).2.1 ≠ (TX1 b).2.1 := by decide +kernel
theorem tyX1_ok : ∀ k, k < 5 → parseFieldDescriptor (TX1 k).2.2.1 = some (tyX1 k) := by decide +kernel
theorem uwX1 : ∀ w ∈ u_ws RX1 TX1 5, w ∈ zt := fun w h => List.mem_filter.mpr ⟨(by decide +kernel : ∀ w ∈ u_ws RX1 TX1 5, w ∈ lw_tbl) w h, List.all_eq_true.mp (by decide +kernel : (u_ws RX1 TX1 5).all goodWord = true) w h⟩
theorem iniX1 : Cond.initialized RX1 ∈ zt := zt_of (i := 36) (by decide +kernel) (by decide +kernel)
theorem insX1 : Cond.instantiable RX1 5 ∈ zt := zt_of (i := 114) (by decide +kernel) (by decide +kernel)
def RX2 : String := "SignRow$Replica"
def TX2 : u_T := fun k => match k with
  | 0 => ("SignRow$Replica", "site", "I", true)
  | 1 => ("SignRow$Replica", "deeds", "LSignRow$Deeds;", true)
  | 2 => ("SignRow$Replica", "paths", "LSignRow$Paths;", true)
  | 3 => ("SignRow$Replica", "stream", "I", false)
  | 4 => ("SignRow$Replica", "time", "I", false)
  | 5 => ("SignRow$Replica", "signs", "I", false)
  | 6 => ("SignRow$Replica", "waiting", "I", false)
  | 7 => ("SignRow$Replica", "doneOf", "[I", true)
  | 8 => ("SignRow$Replica", "waits", "[Z", true)
  | 9 => ("SignRow$Replica", "fate", "[I", true)
  | 10 => ("SignRow$Replica", "cursors", "[I", true)
  | _ => ("SignRow$Replica", "latestMark", "[I", true)
def tyX2 : Nat → FieldType := fun k => match k with
  | 0 => .int
  | 1 => .object "SignRow$Deeds"
  | 2 => .object "SignRow$Paths"
  | 3 => .int
  | 4 => .int
  | 5 => .int
  | 6 => .int
  | 7 => .array .int
  | 8 => .array .boolean
  | 9 => .array .int
  | 10 => .array .int
  | _ => .array .int
theorem nmX2 : ∀ a, a < 12 → ∀ b, b < 12 → a ≠ b → (TX2 a).2.1 ≠ (TX2 b).2.1 := by decide +kernel
theorem tyX2_ok : ∀ k, k < 12 → parseFieldDescriptor (TX2 k).2.2.1 = some (tyX2 k) := by decide +kernel
theorem uwX2 : ∀ w ∈ u_ws RX2 TX2 12, w ∈ zt := fun w h => List.mem_filter.mpr ⟨(by decide +kernel : ∀ w ∈ u_ws RX2 TX2 12, w ∈ lw_tbl) w h, List.all_eq_true.mp (by decide +kernel : (u_ws RX2 TX2 12).all goodWord = true) w h⟩
theorem iniX2 : Cond.initialized RX2 ∈ zt := zt_of (i := 38) (by decide +kernel) (by decide +kernel)
theorem insX2 : Cond.instantiable RX2 12 ∈ zt := zt_of (i := 166) (by decide +kernel) (by decide +kernel)
def RX3 : String := "SignRow$Way"
def TX3 : u_T := fun k => match k with
  | 0 => ("SignRow$Way", "what", "[I", true)
  | 1 => ("SignRow$Way", "toWhom", "[I", true)
  | 2 => ("SignRow$Way", "total", "I", false)
  | _ => ("SignRow$Way", "lost", "I", false)
def tyX3 : Nat → FieldType := fun k => match k with
  | 0 => .array .int
  | 1 => .array .int
  | 2 => .int
  | _ => .int
theorem nmX3 : ∀ a, a < 4 → ∀ b, b < 4 → a ≠ b → (TX3 a).2.1 ≠ (TX3 b).2.1 := by decide +kernel
theorem tyX3_ok : ∀ k, k < 4 → parseFieldDescriptor (TX3 k).2.2.1 = some (tyX3 k) := by decide +kernel
theorem uwX3 : ∀ w ∈ u_ws RX3 TX3 4, w ∈ zt := fun w h => List.mem_filter.mpr ⟨(by decide +kernel : ∀ w ∈ u_ws RX3 TX3 4, w ∈ lw_tbl) w h, List.all_eq_true.mp (by decide +kernel : (u_ws RX3 TX3 4).all goodWord = true) w h⟩
theorem iniX3 : Cond.initialized RX3 ∈ zt := zt_of (i := 37) (by decide +kernel) (by decide +kernel)
theorem insX3 : Cond.instantiable RX3 4 ∈ zt := zt_of (i := 142) (by decide +kernel) (by decide +kernel)
def RX4 : String := "SignRow"
def TX4 : u_T := fun k => match k with
  | 0 => ("SignRow", "deeds", "LSignRow$Deeds;", true)
  | 1 => ("SignRow", "paths", "LSignRow$Paths;", true)
  | 2 => ("SignRow", "way", "LSignRow$Way;", true)
  | _ => ("SignRow", "replicas", "[LSignRow$Replica;", true)
def tyX4 : Nat → FieldType := fun k => match k with
  | 0 => .object "SignRow$Deeds"
  | 1 => .object "SignRow$Paths"
  | 2 => .object "SignRow$Way"
  | _ => .array (.object "SignRow$Replica")
theorem nmX4 : ∀ a, a < 4 → ∀ b, b < 4 → a ≠ b → (TX4 a).2.1 ≠ (TX4 b).2.1 := by decide +kernel
theorem tyX4_ok : ∀ k, k < 4 → parseFieldDescriptor (TX4 k).2.2.1 = some (tyX4 k) := by decide +kernel
theorem uwX4 : ∀ w ∈ u_ws RX4 TX4 4, w ∈ zt := fun w h => List.mem_filter.mpr ⟨(by decide +kernel : ∀ w ∈ u_ws RX4 TX4 4, w ∈ lw_tbl) w h, List.all_eq_true.mp (by decide +kernel : (u_ws RX4 TX4 4).all goodWord = true) w h⟩
theorem iniX4 : Cond.initialized RX4 ∈ zt := zt_of (i := 34) (by decide +kernel) (by decide +kernel)
theorem insX4 : Cond.instantiable RX4 4 ∈ zt := zt_of (i := 46) (by decide +kernel) (by decide +kernel)
def RX5 : String := "SignRowModel"
def TX5 : u_T := fun k => match k with
  | 0 => ("SignRowModel", "thrown", "I", false)
  | 1 => ("SignRowModel", "deeds", "I", false)
  | 2 => ("SignRowModel", "whose", "[I", true)
  | 3 => ("SignRowModel", "number", "[I", true)
  | 4 => ("SignRowModel", "time", "[I", true)
  | 5 => ("SignRowModel", "sort", "[I", true)
  | 6 => ("SignRowModel", "told", "[I", true)
  | 7 => ("SignRowModel", "one", "[I", true)
  | 8 => ("SignRowModel", "two", "[I", true)
  | 9 => ("SignRowModel", "undone", "[Z", true)
  | 10 => ("SignRowModel", "undoes", "[Z", true)
  | 11 => ("SignRowModel", "levels", "[I", true)
  | 12 => ("SignRowModel", "digits", "[I", true)
  | 13 => ("SignRowModel", "sites", "[I", true)
  | 14 => ("SignRowModel", "counts", "[I", true)
  | 15 => ("SignRowModel", "typed", "I", false)
  | 16 => ("SignRowModel", "sorted", "[I", true)
  | 17 => ("SignRowModel", "rank", "[I", true)
  | 18 => ("SignRowModel", "done", "[Z", true)
  | 19 => ("SignRowModel", "waits", "[Z", true)
  | 20 => ("SignRowModel", "latest", "[I", true)
  | 21 => ("SignRowModel", "doneOf", "[I", true)
  | 22 => ("SignRowModel", "greatest", "[I", true)
  | 23 => ("SignRowModel", "streams", "[I", true)
  | 24 => ("SignRowModel", "cursors", "[I", true)
  | 25 => ("SignRowModel", "ways", "I", false)
  | 26 => ("SignRowModel", "wayDeed", "[I", true)
  | 27 => ("SignRowModel", "wayTo", "[I", true)
  | 28 => ("SignRowModel", "gone", "I", false)
  | 29 => ("SignRowModel", "digit", "[I", true)
  | 30 => ("SignRowModel", "site", "[I", true)
  | 31 => ("SignRowModel", "count", "[I", true)
  | _ => ("SignRowModel", "deep", "I", false)
def tyX5 : Nat → FieldType := fun k => match k with
  | 0 => .int
  | 1 => .int
  | 2 => .array .int
  | 3 => .array .int
  | 4 => .array .int
  | 5 => .array .int
  | 6 => .array .int
  | 7 => .array .int
  | 8 => .array .int
  | 9 => .array .boolean
  | 10 => .array .boolean
  | 11 => .array .int
  | 12 => .array .int
  | 13 => .array .int
  | 14 => .array .int
  | 15 => .int
  | 16 => .array .int
  | 17 => .array .int
  | 18 => .array .boolean
  | 19 => .array .boolean
  | 20 => .array .int
  | 21 => .array .int
  | 22 => .array .int
  | 23 => .array .int
  | 24 => .array .int
  | 25 => .int
  | 26 => .array .int
  | 27 => .array .int
  | 28 => .int
  | 29 => .array .int
  | 30 => .array .int
  | 31 => .array .int
  | _ => .int
theorem nmX5 : ∀ a, a < 33 → ∀ b, b < 33 → a ≠ b → (TX5 a).2.1 ≠ (TX5 b).2.1 := by decide +kernel
theorem tyX5_ok : ∀ k, k < 33 → parseFieldDescriptor (TX5 k).2.2.1 = some (tyX5 k) := by decide +kernel
theorem uwX5 : ∀ w ∈ u_ws RX5 TX5 33, w ∈ zt := fun w h => List.mem_filter.mpr ⟨(by decide +kernel : ∀ w ∈ u_ws RX5 TX5 33, w ∈ lw_tbl) w h, List.all_eq_true.mp (by decide +kernel : (u_ws RX5 TX5 33).all goodWord = true) w h⟩
theorem iniX5 : Cond.initialized RX5 ∈ zt := zt_of (i := 39) (by decide +kernel) (by decide +kernel)
theorem insX5 : Cond.instantiable RX5 33 ∈ zt := zt_of (i := 585) (by decide +kernel) (by decide +kernel)
def RL : String := "SignRowLaw"
theorem iniL : Cond.initialized RL ∈ zt := zt_of (i := 33) (by decide +kernel) (by decide +kernel)
abbrev vwCl : List vw_C := [(RX0, TX0, 11), (RX1, TX1, 5), (RX2, TX2, 12), (RX3, TX3, 4), (RX4, TX4, 4), (RX5, TX5, 33)]
abbrev cX4_init : ByteArray := prog_1_method_1_code
def yX4_init : MethodName := ⟨RX4, "<init>", "()V"⟩
abbrev wsX4_init : List Cond := Cond.code yX4_init cX4_init 2 (none) :: zt
theorem cdX4_init : Cond.code yX4_init cX4_init 2 (none) ∈ zt := zt_of (i := 49) (by decide +kernel) (by decide +kernel)
theorem imX4_init : Cond.instanceMethod yX4_init ∈ zt := zt_of (i := 48) (by decide +kernel) (by decide +kernel)
abbrev cX0_init : ByteArray := prog_2_method_1_code
def yX0_init : MethodName := ⟨RX0, "<init>", "()V"⟩
abbrev wsX0_init : List Cond := Cond.code yX0_init cX0_init 1 (none) :: zt
theorem cdX0_init : Cond.code yX0_init cX0_init 1 (none) ∈ zt := zt_of (i := 57) (by decide +kernel) (by decide +kernel)
theorem imX0_init : Cond.instanceMethod yX0_init ∈ zt := zt_of (i := 56) (by decide +kernel) (by decide +kernel)
abbrev cX1_init : ByteArray := prog_3_method_1_code
def yX1_init : MethodName := ⟨RX1, "<init>", "()V"⟩
abbrev wsX1_init : List Cond := Cond.code yX1_init cX1_init 1 (none) :: zt
theorem cdX1_init : Cond.code yX1_init cX1_init 1 (none) ∈ zt := zt_of (i := 117) (by decide +kernel) (by decide +kernel)
theorem imX1_init : Cond.instanceMethod yX1_init ∈ zt := zt_of (i := 116) (by decide +kernel) (by decide +kernel)
abbrev cX3_init : ByteArray := prog_5_method_1_code
def yX3_init : MethodName := ⟨RX3, "<init>", "()V"⟩
abbrev wsX3_init : List Cond := Cond.code yX3_init cX3_init 1 (none) :: zt
theorem cdX3_init : Cond.code yX3_init cX3_init 1 (none) ∈ zt := zt_of (i := 145) (by decide +kernel) (by decide +kernel)
theorem imX3_init : Cond.instanceMethod yX3_init ∈ zt := zt_of (i := 144) (by decide +kernel) (by decide +kernel)
abbrev cX2_init : ByteArray := prog_4_method_1_code
def yX2_init : MethodName := ⟨RX2, "<init>", "(ILSignRow$Deeds;LSignRow$Paths;)V"⟩
abbrev wsX2_init : List Cond := Cond.code yX2_init cX2_init 5 (none) :: zt
theorem cdX2_init : Cond.code yX2_init cX2_init 5 (none) ∈ zt := zt_of (i := 169) (by decide +kernel) (by decide +kernel)
theorem imX2_init : Cond.instanceMethod yX2_init ∈ zt := zt_of (i := 168) (by decide +kernel) (by decide +kernel)
abbrev cX4_stream : ByteArray := prog_1_method_2_code
def yX4_stream : MethodName := ⟨RX4, "stream", "(II)I"⟩
abbrev wsX4_stream : List Cond := Cond.code yX4_stream cX4_stream 4 (some .int) :: zt
theorem cdX4_stream : Cond.code yX4_stream cX4_stream 4 (some .int) ∈ zt := zt_of (i := 232) (by decide +kernel) (by decide +kernel)
theorem imX4_stream : Cond.instanceMethod yX4_stream ∈ zt := zt_of (i := 230) (by decide +kernel) (by decide +kernel)
theorem slX4_stream : Cond.selects RX4 yX4_stream yX4_stream ∈ zt := zt_of (i := 231) (by decide +kernel) (by decide +kernel)
abbrev cX4_isReplica : ByteArray := prog_1_method_23_code
def yX4_isReplica : MethodName := ⟨RX4, "isReplica", "(I)Z"⟩
abbrev wsX4_isReplica : List Cond := Cond.code yX4_isReplica cX4_isReplica 1 (some .boolean) :: zt
theorem cdX4_isReplica : Cond.code yX4_isReplica cX4_isReplica 1 (some .boolean) ∈ zt := zt_of (i := 235) (by decide +kernel) (by decide +kernel)
theorem stX4_isReplica : Cond.static yX4_isReplica ∈ zt := zt_of (i := 234) (by decide +kernel) (by decide +kernel)
abbrev cX4_type : ByteArray := prog_1_method_3_code
def yX4_type : MethodName := ⟨RX4, "type", "(III)I"⟩
abbrev wsX4_type : List Cond := Cond.code yX4_type cX4_type 4 (some .int) :: zt
theorem cdX4_type : Cond.code yX4_type cX4_type 4 (some .int) ∈ zt := zt_of (i := 239) (by decide +kernel) (by decide +kernel)
theorem imX4_type : Cond.instanceMethod yX4_type ∈ zt := zt_of (i := 237) (by decide +kernel) (by decide +kernel)
theorem slX4_type : Cond.selects RX4 yX4_type yX4_type ∈ zt := zt_of (i := 238) (by decide +kernel) (by decide +kernel)
abbrev cX2_hasGap : ByteArray := prog_4_method_14_code
def yX2_hasGap : MethodName := ⟨RX2, "hasGap", "(I)Z"⟩
abbrev wsX2_hasGap : List Cond := Cond.code yX2_hasGap cX2_hasGap 2 (some .boolean) :: zt
theorem cdX2_hasGap : Cond.code yX2_hasGap cX2_hasGap 2 (some .boolean) ∈ zt := zt_of (i := 243) (by decide +kernel) (by decide +kernel)
theorem imX2_hasGap : Cond.instanceMethod yX2_hasGap ∈ zt := zt_of (i := 241) (by decide +kernel) (by decide +kernel)
theorem slX2_hasGap : Cond.selects RX2 yX2_hasGap yX2_hasGap ∈ zt := zt_of (i := 242) (by decide +kernel) (by decide +kernel)
abbrev cX2_textLength : ByteArray := prog_4_method_13_code
def yX2_textLength : MethodName := ⟨RX2, "textLength", "()I"⟩
abbrev wsX2_textLength : List Cond := Cond.code yX2_textLength cX2_textLength 1 (some .int) :: zt
theorem cdX2_textLength : Cond.code yX2_textLength cX2_textLength 1 (some .int) ∈ zt := zt_of (i := 247) (by decide +kernel) (by decide +kernel)
theorem imX2_textLength : Cond.instanceMethod yX2_textLength ∈ zt := zt_of (i := 245) (by decide +kernel) (by decide +kernel)
theorem slX2_textLength : Cond.selects RX2 yX2_textLength yX2_textLength ∈ zt := zt_of (i := 246) (by decide +kernel) (by decide +kernel)
abbrev cX2_aliveAmongFirst : ByteArray := prog_4_method_12_code
def yX2_aliveAmongFirst : MethodName := ⟨RX2, "aliveAmongFirst", "(I)I"⟩
abbrev wsX2_aliveAmongFirst : List Cond := Cond.code yX2_aliveAmongFirst cX2_aliveAmongFirst 4 (some .int) :: zt
theorem cdX2_aliveAmongFirst : Cond.code yX2_aliveAmongFirst cX2_aliveAmongFirst 4 (some .int) ∈ zt := zt_of (i := 251) (by decide +kernel) (by decide +kernel)
theorem imX2_aliveAmongFirst : Cond.instanceMethod yX2_aliveAmongFirst ∈ zt := zt_of (i := 250) (by decide +kernel) (by decide +kernel)
theorem slX2_aliveAmongFirst : Cond.selects RX2 yX2_aliveAmongFirst yX2_aliveAmongFirst ∈ zt := zt_of (i := 0) (by decide +kernel) (by decide +kernel)
abbrev cX2_isAlive : ByteArray := prog_4_method_11_code
def yX2_isAlive : MethodName := ⟨RX2, "isAlive", "(I)Z"⟩
abbrev wsX2_isAlive : List Cond := Cond.code yX2_isAlive cX2_isAlive 2 (some .boolean) :: zt
theorem cdX2_isAlive : Cond.code yX2_isAlive cX2_isAlive 2 (some .boolean) ∈ zt := zt_of (i := 255) (by decide +kernel) (by decide +kernel)
theorem imX2_isAlive : Cond.instanceMethod yX2_isAlive ∈ zt := zt_of (i := 253) (by decide +kernel) (by decide +kernel)
theorem slX2_isAlive : Cond.selects RX2 yX2_isAlive yX2_isAlive ∈ zt := zt_of (i := 254) (by decide +kernel) (by decide +kernel)
abbrev cX2_didDeed : ByteArray := prog_4_method_5_code
def yX2_didDeed : MethodName := ⟨RX2, "didDeed", "(I)Z"⟩
abbrev wsX2_didDeed : List Cond := Cond.code yX2_didDeed cX2_didDeed 2 (some .boolean) :: zt
theorem cdX2_didDeed : Cond.code yX2_didDeed cX2_didDeed 2 (some .boolean) ∈ zt := zt_of (i := 259) (by decide +kernel) (by decide +kernel)
theorem imX2_didDeed : Cond.instanceMethod yX2_didDeed ∈ zt := zt_of (i := 257) (by decide +kernel) (by decide +kernel)
theorem slX2_didDeed : Cond.selects RX2 yX2_didDeed yX2_didDeed ∈ zt := zt_of (i := 258) (by decide +kernel) (by decide +kernel)
abbrev cX4_isByte : ByteArray := prog_1_method_25_code
def yX4_isByte : MethodName := ⟨RX4, "isByte", "(I)Z"⟩
abbrev wsX4_isByte : List Cond := Cond.code yX4_isByte cX4_isByte 1 (some .boolean) :: zt
theorem cdX4_isByte : Cond.code yX4_isByte cX4_isByte 1 (some .boolean) ∈ zt := zt_of (i := 262) (by decide +kernel) (by decide +kernel)
theorem stX4_isByte : Cond.static yX4_isByte ∈ zt := zt_of (i := 261) (by decide +kernel) (by decide +kernel)
abbrev cX4_putSign : ByteArray := prog_1_method_27_code
def yX4_putSign : MethodName := ⟨RX4, "putSign", "(LSignRow$Replica;II)I"⟩
abbrev wsX4_putSign : List Cond := Cond.code yX4_putSign cX4_putSign 6 (some .int) :: zt
theorem cdX4_putSign : Cond.code yX4_putSign cX4_putSign 6 (some .int) ∈ zt := zt_of (i := 266) (by decide +kernel) (by decide +kernel)
theorem imX4_putSign : Cond.instanceMethod yX4_putSign ∈ zt := zt_of (i := 265) (by decide +kernel) (by decide +kernel)
theorem slX4_putSign : Cond.selects RX4 yX4_putSign yX4_putSign ∈ zt := zt_of (i := 1) (by decide +kernel) (by decide +kernel)
abbrev cX0_isFull : ByteArray := prog_2_method_2_code
def yX0_isFull : MethodName := ⟨RX0, "isFull", "()Z"⟩
abbrev wsX0_isFull : List Cond := Cond.code yX0_isFull cX0_isFull 1 (some .boolean) :: zt
theorem cdX0_isFull : Cond.code yX0_isFull cX0_isFull 1 (some .boolean) ∈ zt := zt_of (i := 270) (by decide +kernel) (by decide +kernel)
theorem imX0_isFull : Cond.instanceMethod yX0_isFull ∈ zt := zt_of (i := 268) (by decide +kernel) (by decide +kernel)
theorem slX0_isFull : Cond.selects RX0 yX0_isFull yX0_isFull ∈ zt := zt_of (i := 269) (by decide +kernel) (by decide +kernel)
abbrev cX2_signBefore : ByteArray := prog_4_method_16_code
def yX2_signBefore : MethodName := ⟨RX2, "signBefore", "(I)I"⟩
abbrev wsX2_signBefore : List Cond := Cond.code yX2_signBefore cX2_signBefore 2 (some .int) :: zt
theorem cdX2_signBefore : Cond.code yX2_signBefore cX2_signBefore 2 (some .int) ∈ zt := zt_of (i := 274) (by decide +kernel) (by decide +kernel)
theorem imX2_signBefore : Cond.instanceMethod yX2_signBefore ∈ zt := zt_of (i := 272) (by decide +kernel) (by decide +kernel)
theorem slX2_signBefore : Cond.selects RX2 yX2_signBefore yX2_signBefore ∈ zt := zt_of (i := 273) (by decide +kernel) (by decide +kernel)
abbrev cX2_signAt : ByteArray := prog_4_method_15_code
def yX2_signAt : MethodName := ⟨RX2, "signAt", "(I)I"⟩
abbrev wsX2_signAt : List Cond := Cond.code yX2_signAt cX2_signAt 4 (some .int) :: zt
theorem cdX2_signAt : Cond.code yX2_signAt cX2_signAt 4 (some .int) ∈ zt := zt_of (i := 278) (by decide +kernel) (by decide +kernel)
theorem imX2_signAt : Cond.instanceMethod yX2_signAt ∈ zt := zt_of (i := 276) (by decide +kernel) (by decide +kernel)
theorem slX2_signAt : Cond.selects RX2 yX2_signAt yX2_signAt ∈ zt := zt_of (i := 277) (by decide +kernel) (by decide +kernel)
abbrev cX2_nextBehind : ByteArray := prog_4_method_17_code
def yX2_nextBehind : MethodName := ⟨RX2, "nextBehind", "(I)I"⟩
abbrev wsX2_nextBehind : List Cond := Cond.code yX2_nextBehind cX2_nextBehind 3 (some .int) :: zt
theorem cdX2_nextBehind : Cond.code yX2_nextBehind cX2_nextBehind 3 (some .int) ∈ zt := zt_of (i := 282) (by decide +kernel) (by decide +kernel)
theorem imX2_nextBehind : Cond.instanceMethod yX2_nextBehind ∈ zt := zt_of (i := 280) (by decide +kernel) (by decide +kernel)
theorem slX2_nextBehind : Cond.selects RX2 yX2_nextBehind yX2_nextBehind ∈ zt := zt_of (i := 281) (by decide +kernel) (by decide +kernel)
abbrev cX1_findNew : ByteArray := prog_3_method_8_code
def yX1_findNew : MethodName := ⟨RX1, "findNew", "(IIILSignRow$Replica;)Z"⟩
abbrev wsX1_findNew : List Cond := Cond.code yX1_findNew cX1_findNew 11 (some .boolean) :: zt
theorem cdX1_findNew : Cond.code yX1_findNew cX1_findNew 11 (some .boolean) ∈ zt := zt_of (i := 286) (by decide +kernel) (by decide +kernel)
theorem imX1_findNew : Cond.instanceMethod yX1_findNew ∈ zt := zt_of (i := 284) (by decide +kernel) (by decide +kernel)
theorem slX1_findNew : Cond.selects RX1 yX1_findNew yX1_findNew ∈ zt := zt_of (i := 285) (by decide +kernel) (by decide +kernel)
abbrev cX1_levelOf : ByteArray := prog_3_method_7_code
def yX1_levelOf : MethodName := ⟨RX1, "levelOf", "(II)I"⟩
abbrev wsX1_levelOf : List Cond := Cond.code yX1_levelOf cX1_levelOf 3 (some .int) :: zt
theorem cdX1_levelOf : Cond.code yX1_levelOf cX1_levelOf 3 (some .int) ∈ zt := zt_of (i := 290) (by decide +kernel) (by decide +kernel)
theorem imX1_levelOf : Cond.instanceMethod yX1_levelOf ∈ zt := zt_of (i := 288) (by decide +kernel) (by decide +kernel)
theorem slX1_levelOf : Cond.selects RX1 yX1_levelOf yX1_levelOf ∈ zt := zt_of (i := 289) (by decide +kernel) (by decide +kernel)
abbrev cX1_digitOf : ByteArray := prog_3_method_2_code
def yX1_digitOf : MethodName := ⟨RX1, "digitOf", "(I)I"⟩
abbrev wsX1_digitOf : List Cond := Cond.code yX1_digitOf cX1_digitOf 1 (some .int) :: zt
theorem cdX1_digitOf : Cond.code yX1_digitOf cX1_digitOf 1 (some .int) ∈ zt := zt_of (i := 293) (by decide +kernel) (by decide +kernel)
theorem stX1_digitOf : Cond.static yX1_digitOf ∈ zt := zt_of (i := 292) (by decide +kernel) (by decide +kernel)
abbrev cX1_baseOf : ByteArray := prog_3_method_6_code
def yX1_baseOf : MethodName := ⟨RX1, "baseOf", "(I)I"⟩
abbrev wsX1_baseOf : List Cond := Cond.code yX1_baseOf cX1_baseOf 1 (some .int) :: zt
theorem cdX1_baseOf : Cond.code yX1_baseOf cX1_baseOf 1 (some .int) ∈ zt := zt_of (i := 296) (by decide +kernel) (by decide +kernel)
theorem stX1_baseOf : Cond.static yX1_baseOf ∈ zt := zt_of (i := 295) (by decide +kernel) (by decide +kernel)
abbrev cX2_throwCoin : ByteArray := prog_4_method_2_code
def yX2_throwCoin : MethodName := ⟨RX2, "throwCoin", "()I"⟩
abbrev wsX2_throwCoin : List Cond := Cond.code yX2_throwCoin cX2_throwCoin 1 (some .int) :: zt
theorem cdX2_throwCoin : Cond.code yX2_throwCoin cX2_throwCoin 1 (some .int) ∈ zt := zt_of (i := 303) (by decide +kernel) (by decide +kernel)
theorem imX2_throwCoin : Cond.instanceMethod yX2_throwCoin ∈ zt := zt_of (i := 301) (by decide +kernel) (by decide +kernel)
theorem slX2_throwCoin : Cond.selects RX2 yX2_throwCoin yX2_throwCoin ∈ zt := zt_of (i := 302) (by decide +kernel) (by decide +kernel)
abbrev cX1_lastDigit : ByteArray := prog_3_method_9_code
def yX1_lastDigit : MethodName := ⟨RX1, "lastDigit", "(IIII)I"⟩
abbrev wsX1_lastDigit : List Cond := Cond.code yX1_lastDigit cX1_lastDigit 5 (some .int) :: zt
theorem cdX1_lastDigit : Cond.code yX1_lastDigit cX1_lastDigit 5 (some .int) ∈ zt := zt_of (i := 308) (by decide +kernel) (by decide +kernel)
theorem stX1_lastDigit : Cond.static yX1_lastDigit ∈ zt := zt_of (i := 307) (by decide +kernel) (by decide +kernel)
abbrev cX2_nextNumber : ByteArray := prog_4_method_3_code
def yX2_nextNumber : MethodName := ⟨RX2, "nextNumber", "()I"⟩
abbrev wsX2_nextNumber : List Cond := Cond.code yX2_nextNumber cX2_nextNumber 1 (some .int) :: zt
theorem cdX2_nextNumber : Cond.code yX2_nextNumber cX2_nextNumber 1 (some .int) ∈ zt := zt_of (i := 312) (by decide +kernel) (by decide +kernel)
theorem imX2_nextNumber : Cond.instanceMethod yX2_nextNumber ∈ zt := zt_of (i := 310) (by decide +kernel) (by decide +kernel)
theorem slX2_nextNumber : Cond.selects RX2 yX2_nextNumber yX2_nextNumber ∈ zt := zt_of (i := 311) (by decide +kernel) (by decide +kernel)
abbrev cX1_makeLevel : ByteArray := prog_3_method_5_code
def yX1_makeLevel : MethodName := ⟨RX1, "makeLevel", "(III)I"⟩
abbrev wsX1_makeLevel : List Cond := Cond.code yX1_makeLevel cX1_makeLevel 3 (some .int) :: zt
theorem cdX1_makeLevel : Cond.code yX1_makeLevel cX1_makeLevel 3 (some .int) ∈ zt := zt_of (i := 315) (by decide +kernel) (by decide +kernel)
theorem stX1_makeLevel : Cond.static yX1_makeLevel ∈ zt := zt_of (i := 314) (by decide +kernel) (by decide +kernel)
abbrev cX1_innerLevel : ByteArray := prog_3_method_10_code
def yX1_innerLevel : MethodName := ⟨RX1, "innerLevel", "(IILSignRow$Replica;)I"⟩
abbrev wsX1_innerLevel : List Cond := Cond.code yX1_innerLevel cX1_innerLevel 3 (some .int) :: zt
theorem cdX1_innerLevel : Cond.code yX1_innerLevel cX1_innerLevel 3 (some .int) ∈ zt := zt_of (i := 318) (by decide +kernel) (by decide +kernel)
theorem stX1_innerLevel : Cond.static yX1_innerLevel ∈ zt := zt_of (i := 317) (by decide +kernel) (by decide +kernel)
abbrev cX1_insert : ByteArray := prog_3_method_12_code
def yX1_insert : MethodName := ⟨RX1, "insert", "(II)V"⟩
abbrev wsX1_insert : List Cond := Cond.code yX1_insert cX1_insert 5 (none) :: zt
theorem cdX1_insert : Cond.code yX1_insert cX1_insert 5 (none) ∈ zt := zt_of (i := 322) (by decide +kernel) (by decide +kernel)
theorem imX1_insert : Cond.instanceMethod yX1_insert ∈ zt := zt_of (i := 320) (by decide +kernel) (by decide +kernel)
theorem slX1_insert : Cond.selects RX1 yX1_insert yX1_insert ∈ zt := zt_of (i := 321) (by decide +kernel) (by decide +kernel)
abbrev cX1_isBefore : ByteArray := prog_3_method_11_code
def yX1_isBefore : MethodName := ⟨RX1, "isBefore", "(II)Z"⟩
abbrev wsX1_isBefore : List Cond := Cond.code yX1_isBefore cX1_isBefore 6 (some .boolean) :: zt
theorem cdX1_isBefore : Cond.code yX1_isBefore cX1_isBefore 6 (some .boolean) ∈ zt := zt_of (i := 326) (by decide +kernel) (by decide +kernel)
theorem imX1_isBefore : Cond.instanceMethod yX1_isBefore ∈ zt := zt_of (i := 325) (by decide +kernel) (by decide +kernel)
theorem slX1_isBefore : Cond.selects RX1 yX1_isBefore yX1_isBefore ∈ zt := zt_of (i := 2) (by decide +kernel) (by decide +kernel)
abbrev cX4_perform : ByteArray := prog_1_method_28_code
def yX4_perform : MethodName := ⟨RX4, "perform", "(LSignRow$Replica;IIII)I"⟩
abbrev wsX4_perform : List Cond := Cond.code yX4_perform cX4_perform 8 (some .int) :: zt
theorem cdX4_perform : Cond.code yX4_perform cX4_perform 8 (some .int) ∈ zt := zt_of (i := 330) (by decide +kernel) (by decide +kernel)
theorem imX4_perform : Cond.instanceMethod yX4_perform ∈ zt := zt_of (i := 329) (by decide +kernel) (by decide +kernel)
theorem slX4_perform : Cond.selects RX4 yX4_perform yX4_perform ∈ zt := zt_of (i := 3) (by decide +kernel) (by decide +kernel)
abbrev cX0_add : ByteArray := prog_2_method_3_code
def yX0_add : MethodName := ⟨RX0, "add", "(IIIIIII)I"⟩
abbrev wsX0_add : List Cond := Cond.code yX0_add cX0_add 9 (some .int) :: zt
theorem cdX0_add : Cond.code yX0_add cX0_add 9 (some .int) ∈ zt := zt_of (i := 335) (by decide +kernel) (by decide +kernel)
theorem imX0_add : Cond.instanceMethod yX0_add ∈ zt := zt_of (i := 333) (by decide +kernel) (by decide +kernel)
theorem slX0_add : Cond.selects RX0 yX0_add yX0_add ∈ zt := zt_of (i := 334) (by decide +kernel) (by decide +kernel)
abbrev cX2_carryOut : ByteArray := prog_4_method_10_code
def yX2_carryOut : MethodName := ⟨RX2, "carryOut", "(I)V"⟩
abbrev wsX2_carryOut : List Cond := Cond.code yX2_carryOut cX2_carryOut 4 (none) :: zt
theorem cdX2_carryOut : Cond.code yX2_carryOut cX2_carryOut 4 (none) ∈ zt := zt_of (i := 339) (by decide +kernel) (by decide +kernel)
theorem imX2_carryOut : Cond.instanceMethod yX2_carryOut ∈ zt := zt_of (i := 337) (by decide +kernel) (by decide +kernel)
theorem slX2_carryOut : Cond.selects RX2 yX2_carryOut yX2_carryOut ∈ zt := zt_of (i := 338) (by decide +kernel) (by decide +kernel)
abbrev cX0_isLater : ByteArray := prog_2_method_4_code
def yX0_isLater : MethodName := ⟨RX0, "isLater", "(II)Z"⟩
abbrev wsX0_isLater : List Cond := Cond.code yX0_isLater cX0_isLater 3 (some .boolean) :: zt
theorem cdX0_isLater : Cond.code yX0_isLater cX0_isLater 3 (some .boolean) ∈ zt := zt_of (i := 346) (by decide +kernel) (by decide +kernel)
theorem imX0_isLater : Cond.instanceMethod yX0_isLater ∈ zt := zt_of (i := 344) (by decide +kernel) (by decide +kernel)
theorem slX0_isLater : Cond.selects RX0 yX0_isLater yX0_isLater ∈ zt := zt_of (i := 345) (by decide +kernel) (by decide +kernel)
abbrev cX3_send : ByteArray := prog_5_method_4_code
def yX3_send : MethodName := ⟨RX3, "send", "(II)V"⟩
abbrev wsX3_send : List Cond := Cond.code yX3_send cX3_send 3 (none) :: zt
theorem cdX3_send : Cond.code yX3_send cX3_send 3 (none) ∈ zt := zt_of (i := 350) (by decide +kernel) (by decide +kernel)
theorem imX3_send : Cond.instanceMethod yX3_send ∈ zt := zt_of (i := 348) (by decide +kernel) (by decide +kernel)
theorem slX3_send : Cond.selects RX3 yX3_send yX3_send ∈ zt := zt_of (i := 349) (by decide +kernel) (by decide +kernel)
abbrev cX3_isFull : ByteArray := prog_5_method_3_code
def yX3_isFull : MethodName := ⟨RX3, "isFull", "()Z"⟩
abbrev wsX3_isFull : List Cond := Cond.code yX3_isFull cX3_isFull 1 (some .boolean) :: zt
theorem cdX3_isFull : Cond.code yX3_isFull cX3_isFull 1 (some .boolean) ∈ zt := zt_of (i := 354) (by decide +kernel) (by decide +kernel)
theorem imX3_isFull : Cond.instanceMethod yX3_isFull ∈ zt := zt_of (i := 352) (by decide +kernel) (by decide +kernel)
theorem slX3_isFull : Cond.selects RX3 yX3_isFull yX3_isFull ∈ zt := zt_of (i := 353) (by decide +kernel) (by decide +kernel)
abbrev cX4_paste : ByteArray := prog_1_method_4_code
def yX4_paste : MethodName := ⟨RX4, "paste", "(IIII)I"⟩
abbrev wsX4_paste : List Cond := Cond.code yX4_paste cX4_paste 7 (some .int) :: zt
theorem cdX4_paste : Cond.code yX4_paste cX4_paste 7 (some .int) ∈ zt := zt_of (i := 358) (by decide +kernel) (by decide +kernel)
theorem imX4_paste : Cond.instanceMethod yX4_paste ∈ zt := zt_of (i := 356) (by decide +kernel) (by decide +kernel)
theorem slX4_paste : Cond.selects RX4 yX4_paste yX4_paste ∈ zt := zt_of (i := 357) (by decide +kernel) (by decide +kernel)
abbrev cX4_erase : ByteArray := prog_1_method_5_code
def yX4_erase : MethodName := ⟨RX4, "erase", "(II)I"⟩
abbrev wsX4_erase : List Cond := Cond.code yX4_erase cX4_erase 4 (some .int) :: zt
theorem cdX4_erase : Cond.code yX4_erase cX4_erase 4 (some .int) ∈ zt := zt_of (i := 362) (by decide +kernel) (by decide +kernel)
theorem imX4_erase : Cond.instanceMethod yX4_erase ∈ zt := zt_of (i := 360) (by decide +kernel) (by decide +kernel)
theorem slX4_erase : Cond.selects RX4 yX4_erase yX4_erase ∈ zt := zt_of (i := 361) (by decide +kernel) (by decide +kernel)
abbrev cX4_undo : ByteArray := prog_1_method_6_code
def yX4_undo : MethodName := ⟨RX4, "undo", "(I)I"⟩
abbrev wsX4_undo : List Cond := Cond.code yX4_undo cX4_undo 5 (some .int) :: zt
theorem cdX4_undo : Cond.code yX4_undo cX4_undo 5 (some .int) ∈ zt := zt_of (i := 367) (by decide +kernel) (by decide +kernel)
theorem imX4_undo : Cond.instanceMethod yX4_undo ∈ zt := zt_of (i := 365) (by decide +kernel) (by decide +kernel)
theorem slX4_undo : Cond.selects RX4 yX4_undo yX4_undo ∈ zt := zt_of (i := 366) (by decide +kernel) (by decide +kernel)
abbrev cX0_lastToUndo : ByteArray := prog_2_method_5_code
def yX0_lastToUndo : MethodName := ⟨RX0, "lastToUndo", "(I)I"⟩
abbrev wsX0_lastToUndo : List Cond := Cond.code yX0_lastToUndo cX0_lastToUndo 3 (some .int) :: zt
theorem cdX0_lastToUndo : Cond.code yX0_lastToUndo cX0_lastToUndo 3 (some .int) ∈ zt := zt_of (i := 371) (by decide +kernel) (by decide +kernel)
theorem imX0_lastToUndo : Cond.instanceMethod yX0_lastToUndo ∈ zt := zt_of (i := 369) (by decide +kernel) (by decide +kernel)
theorem slX0_lastToUndo : Cond.selects RX0 yX0_lastToUndo yX0_lastToUndo ∈ zt := zt_of (i := 370) (by decide +kernel) (by decide +kernel)
abbrev cX4_mark : ByteArray := prog_1_method_7_code
def yX4_mark : MethodName := ⟨RX4, "mark", "(IIIIZ)I"⟩
abbrev wsX4_mark : List Cond := Cond.code yX4_mark cX4_mark 8 (some .int) :: zt
theorem cdX4_mark : Cond.code yX4_mark cX4_mark 8 (some .int) ∈ zt := zt_of (i := 375) (by decide +kernel) (by decide +kernel)
theorem imX4_mark : Cond.instanceMethod yX4_mark ∈ zt := zt_of (i := 373) (by decide +kernel) (by decide +kernel)
theorem slX4_mark : Cond.selects RX4 yX4_mark yX4_mark ∈ zt := zt_of (i := 374) (by decide +kernel) (by decide +kernel)
abbrev cX4_deliver : ByteArray := prog_1_method_8_code
def yX4_deliver : MethodName := ⟨RX4, "deliver", "(I)I"⟩
abbrev wsX4_deliver : List Cond := Cond.code yX4_deliver cX4_deliver 4 (some .int) :: zt
theorem cdX4_deliver : Cond.code yX4_deliver cX4_deliver 4 (some .int) ∈ zt := zt_of (i := 379) (by decide +kernel) (by decide +kernel)
theorem imX4_deliver : Cond.instanceMethod yX4_deliver ∈ zt := zt_of (i := 377) (by decide +kernel) (by decide +kernel)
theorem slX4_deliver : Cond.selects RX4 yX4_deliver yX4_deliver ∈ zt := zt_of (i := 378) (by decide +kernel) (by decide +kernel)
abbrev cX3_holds : ByteArray := prog_5_method_2_code
def yX3_holds : MethodName := ⟨RX3, "holds", "(I)Z"⟩
abbrev wsX3_holds : List Cond := Cond.code yX3_holds cX3_holds 2 (some .boolean) :: zt
theorem cdX3_holds : Cond.code yX3_holds cX3_holds 2 (some .boolean) ∈ zt := zt_of (i := 383) (by decide +kernel) (by decide +kernel)
theorem imX3_holds : Cond.instanceMethod yX3_holds ∈ zt := zt_of (i := 381) (by decide +kernel) (by decide +kernel)
theorem slX3_holds : Cond.selects RX3 yX3_holds yX3_holds ∈ zt := zt_of (i := 382) (by decide +kernel) (by decide +kernel)
abbrev cX3_drop : ByteArray := prog_5_method_5_code
def yX3_drop : MethodName := ⟨RX3, "drop", "(I)V"⟩
abbrev wsX3_drop : List Cond := Cond.code yX3_drop cX3_drop 3 (none) :: zt
theorem cdX3_drop : Cond.code yX3_drop cX3_drop 3 (none) ∈ zt := zt_of (i := 387) (by decide +kernel) (by decide +kernel)
theorem imX3_drop : Cond.instanceMethod yX3_drop ∈ zt := zt_of (i := 385) (by decide +kernel) (by decide +kernel)
theorem slX3_drop : Cond.selects RX3 yX3_drop yX3_drop ∈ zt := zt_of (i := 386) (by decide +kernel) (by decide +kernel)
abbrev cX2_receive : ByteArray := prog_4_method_7_code
def yX2_receive : MethodName := ⟨RX2, "receive", "(I)I"⟩
abbrev wsX2_receive : List Cond := Cond.code yX2_receive cX2_receive 2 (some .int) :: zt
theorem cdX2_receive : Cond.code yX2_receive cX2_receive 2 (some .int) ∈ zt := zt_of (i := 391) (by decide +kernel) (by decide +kernel)
theorem imX2_receive : Cond.instanceMethod yX2_receive ∈ zt := zt_of (i := 389) (by decide +kernel) (by decide +kernel)
theorem slX2_receive : Cond.selects RX2 yX2_receive yX2_receive ∈ zt := zt_of (i := 390) (by decide +kernel) (by decide +kernel)
abbrev cX2_isReady : ByteArray := prog_4_method_6_code
def yX2_isReady : MethodName := ⟨RX2, "isReady", "(I)Z"⟩
abbrev wsX2_isReady : List Cond := Cond.code yX2_isReady cX2_isReady 2 (some .boolean) :: zt
theorem cdX2_isReady : Cond.code yX2_isReady cX2_isReady 2 (some .boolean) ∈ zt := zt_of (i := 395) (by decide +kernel) (by decide +kernel)
theorem imX2_isReady : Cond.instanceMethod yX2_isReady ∈ zt := zt_of (i := 394) (by decide +kernel) (by decide +kernel)
theorem slX2_isReady : Cond.selects RX2 yX2_isReady yX2_isReady ∈ zt := zt_of (i := 4) (by decide +kernel) (by decide +kernel)
abbrev cX2_doWhatWaited : ByteArray := prog_4_method_8_code
def yX2_doWhatWaited : MethodName := ⟨RX2, "doWhatWaited", "()V"⟩
abbrev wsX2_doWhatWaited : List Cond := Cond.code yX2_doWhatWaited cX2_doWhatWaited 3 (none) :: zt
theorem cdX2_doWhatWaited : Cond.code yX2_doWhatWaited cX2_doWhatWaited 3 (none) ∈ zt := zt_of (i := 400) (by decide +kernel) (by decide +kernel)
theorem imX2_doWhatWaited : Cond.instanceMethod yX2_doWhatWaited ∈ zt := zt_of (i := 399) (by decide +kernel) (by decide +kernel)
theorem slX2_doWhatWaited : Cond.selects RX2 yX2_doWhatWaited yX2_doWhatWaited ∈ zt := zt_of (i := 5) (by decide +kernel) (by decide +kernel)
abbrev cX2_firstReady : ByteArray := prog_4_method_9_code
def yX2_firstReady : MethodName := ⟨RX2, "firstReady", "()I"⟩
abbrev wsX2_firstReady : List Cond := Cond.code yX2_firstReady cX2_firstReady 2 (some .int) :: zt
theorem cdX2_firstReady : Cond.code yX2_firstReady cX2_firstReady 2 (some .int) ∈ zt := zt_of (i := 404) (by decide +kernel) (by decide +kernel)
theorem imX2_firstReady : Cond.instanceMethod yX2_firstReady ∈ zt := zt_of (i := 403) (by decide +kernel) (by decide +kernel)
theorem slX2_firstReady : Cond.selects RX2 yX2_firstReady yX2_firstReady ∈ zt := zt_of (i := 6) (by decide +kernel) (by decide +kernel)
abbrev cX4_lose : ByteArray := prog_1_method_9_code
def yX4_lose : MethodName := ⟨RX4, "lose", "(I)I"⟩
abbrev wsX4_lose : List Cond := Cond.code yX4_lose cX4_lose 2 (some .int) :: zt
theorem cdX4_lose : Cond.code yX4_lose cX4_lose 2 (some .int) ∈ zt := zt_of (i := 408) (by decide +kernel) (by decide +kernel)
theorem imX4_lose : Cond.instanceMethod yX4_lose ∈ zt := zt_of (i := 406) (by decide +kernel) (by decide +kernel)
theorem slX4_lose : Cond.selects RX4 yX4_lose yX4_lose ∈ zt := zt_of (i := 407) (by decide +kernel) (by decide +kernel)
abbrev cX4_repeat : ByteArray := prog_1_method_10_code
def yX4_repeat : MethodName := ⟨RX4, "repeat", "(I)I"⟩
abbrev wsX4_repeat : List Cond := Cond.code yX4_repeat cX4_repeat 2 (some .int) :: zt
theorem cdX4_repeat : Cond.code yX4_repeat cX4_repeat 2 (some .int) ∈ zt := zt_of (i := 412) (by decide +kernel) (by decide +kernel)
theorem imX4_repeat : Cond.instanceMethod yX4_repeat ∈ zt := zt_of (i := 410) (by decide +kernel) (by decide +kernel)
theorem slX4_repeat : Cond.selects RX4 yX4_repeat yX4_repeat ∈ zt := zt_of (i := 411) (by decide +kernel) (by decide +kernel)
abbrev cX4_sync : ByteArray := prog_1_method_11_code
def yX4_sync : MethodName := ⟨RX4, "sync", "(II)I"⟩
abbrev wsX4_sync : List Cond := Cond.code yX4_sync cX4_sync 6 (some .int) :: zt
theorem cdX4_sync : Cond.code yX4_sync cX4_sync 6 (some .int) ∈ zt := zt_of (i := 417) (by decide +kernel) (by decide +kernel)
theorem imX4_sync : Cond.instanceMethod yX4_sync ∈ zt := zt_of (i := 415) (by decide +kernel) (by decide +kernel)
theorem slX4_sync : Cond.selects RX4 yX4_sync yX4_sync ∈ zt := zt_of (i := 416) (by decide +kernel) (by decide +kernel)
abbrev cX2_doneInAll : ByteArray := prog_4_method_4_code
def yX2_doneInAll : MethodName := ⟨RX2, "doneInAll", "()I"⟩
abbrev wsX2_doneInAll : List Cond := Cond.code yX2_doneInAll cX2_doneInAll 3 (some .int) :: zt
theorem cdX2_doneInAll : Cond.code yX2_doneInAll cX2_doneInAll 3 (some .int) ∈ zt := zt_of (i := 421) (by decide +kernel) (by decide +kernel)
theorem imX2_doneInAll : Cond.instanceMethod yX2_doneInAll ∈ zt := zt_of (i := 419) (by decide +kernel) (by decide +kernel)
theorem slX2_doneInAll : Cond.selects RX2 yX2_doneInAll yX2_doneInAll ∈ zt := zt_of (i := 420) (by decide +kernel) (by decide +kernel)
abbrev cX4_length : ByteArray := prog_1_method_12_code
def yX4_length : MethodName := ⟨RX4, "length", "(I)I"⟩
abbrev wsX4_length : List Cond := Cond.code yX4_length cX4_length 2 (some .int) :: zt
theorem cdX4_length : Cond.code yX4_length cX4_length 2 (some .int) ∈ zt := zt_of (i := 426) (by decide +kernel) (by decide +kernel)
theorem imX4_length : Cond.instanceMethod yX4_length ∈ zt := zt_of (i := 424) (by decide +kernel) (by decide +kernel)
theorem slX4_length : Cond.selects RX4 yX4_length yX4_length ∈ zt := zt_of (i := 425) (by decide +kernel) (by decide +kernel)
abbrev cX4_cursor : ByteArray := prog_1_method_16_code
def yX4_cursor : MethodName := ⟨RX4, "cursor", "(III)I"⟩
abbrev wsX4_cursor : List Cond := Cond.code yX4_cursor cX4_cursor 5 (some .int) :: zt
theorem cdX4_cursor : Cond.code yX4_cursor cX4_cursor 5 (some .int) ∈ zt := zt_of (i := 431) (by decide +kernel) (by decide +kernel)
theorem imX4_cursor : Cond.instanceMethod yX4_cursor ∈ zt := zt_of (i := 429) (by decide +kernel) (by decide +kernel)
theorem slX4_cursor : Cond.selects RX4 yX4_cursor yX4_cursor ∈ zt := zt_of (i := 430) (by decide +kernel) (by decide +kernel)
abbrev cX4_isCursor : ByteArray := prog_1_method_24_code
def yX4_isCursor : MethodName := ⟨RX4, "isCursor", "(I)Z"⟩
abbrev wsX4_isCursor : List Cond := Cond.code yX4_isCursor cX4_isCursor 1 (some .boolean) :: zt
theorem cdX4_isCursor : Cond.code yX4_isCursor cX4_isCursor 1 (some .boolean) ∈ zt := zt_of (i := 434) (by decide +kernel) (by decide +kernel)
theorem stX4_isCursor : Cond.static yX4_isCursor ∈ zt := zt_of (i := 433) (by decide +kernel) (by decide +kernel)
abbrev cX2_cursorPlace : ByteArray := prog_4_method_18_code
def yX2_cursorPlace : MethodName := ⟨RX2, "cursorPlace", "(I)I"⟩
abbrev wsX2_cursorPlace : List Cond := Cond.code yX2_cursorPlace cX2_cursorPlace 3 (some .int) :: zt
theorem cdX2_cursorPlace : Cond.code yX2_cursorPlace cX2_cursorPlace 3 (some .int) ∈ zt := zt_of (i := 438) (by decide +kernel) (by decide +kernel)
theorem imX2_cursorPlace : Cond.instanceMethod yX2_cursorPlace ∈ zt := zt_of (i := 436) (by decide +kernel) (by decide +kernel)
theorem slX2_cursorPlace : Cond.selects RX2 yX2_cursorPlace yX2_cursorPlace ∈ zt := zt_of (i := 437) (by decide +kernel) (by decide +kernel)
abbrev cX4_at : ByteArray := prog_1_method_17_code
def yX4_at : MethodName := ⟨RX4, "at", "(II)I"⟩
abbrev wsX4_at : List Cond := Cond.code yX4_at cX4_at 3 (some .int) :: zt
theorem cdX4_at : Cond.code yX4_at cX4_at 3 (some .int) ∈ zt := zt_of (i := 442) (by decide +kernel) (by decide +kernel)
theorem imX4_at : Cond.instanceMethod yX4_at ∈ zt := zt_of (i := 440) (by decide +kernel) (by decide +kernel)
theorem slX4_at : Cond.selects RX4 yX4_at yX4_at ∈ zt := zt_of (i := 441) (by decide +kernel) (by decide +kernel)
abbrev cX4_about : ByteArray := prog_1_method_18_code
def yX4_about : MethodName := ⟨RX4, "about", "(III)I"⟩
abbrev wsX4_about : List Cond := Cond.code yX4_about cX4_about 4 (some .int) :: zt
theorem cdX4_about : Cond.code yX4_about cX4_about 4 (some .int) ∈ zt := zt_of (i := 446) (by decide +kernel) (by decide +kernel)
theorem imX4_about : Cond.instanceMethod yX4_about ∈ zt := zt_of (i := 444) (by decide +kernel) (by decide +kernel)
theorem slX4_about : Cond.selects RX4 yX4_about yX4_about ∈ zt := zt_of (i := 445) (by decide +kernel) (by decide +kernel)
abbrev cX4_same : ByteArray := prog_1_method_19_code
def yX4_same : MethodName := ⟨RX4, "same", "(II)I"⟩
abbrev wsX4_same : List Cond := Cond.code yX4_same cX4_same 4 (some .int) :: zt
theorem cdX4_same : Cond.code yX4_same cX4_same 4 (some .int) ∈ zt := zt_of (i := 450) (by decide +kernel) (by decide +kernel)
theorem imX4_same : Cond.instanceMethod yX4_same ∈ zt := zt_of (i := 448) (by decide +kernel) (by decide +kernel)
theorem slX4_same : Cond.selects RX4 yX4_same yX4_same ∈ zt := zt_of (i := 449) (by decide +kernel) (by decide +kernel)
abbrev cX4_isAlike : ByteArray := prog_1_method_29_code
def yX4_isAlike : MethodName := ⟨RX4, "isAlike", "(LSignRow$Replica;LSignRow$Replica;I)Z"⟩
abbrev wsX4_isAlike : List Cond := Cond.code yX4_isAlike cX4_isAlike 4 (some .boolean) :: zt
theorem cdX4_isAlike : Cond.code yX4_isAlike cX4_isAlike 4 (some .boolean) ∈ zt := zt_of (i := 453) (by decide +kernel) (by decide +kernel)
theorem stX4_isAlike : Cond.static yX4_isAlike ∈ zt := zt_of (i := 452) (by decide +kernel) (by decide +kernel)
abbrev cX2_kindsOf : ByteArray := prog_4_method_19_code
def yX2_kindsOf : MethodName := ⟨RX2, "kindsOf", "(I)I"⟩
abbrev wsX2_kindsOf : List Cond := Cond.code yX2_kindsOf cX2_kindsOf 5 (some .int) :: zt
theorem cdX2_kindsOf : Cond.code yX2_kindsOf cX2_kindsOf 5 (some .int) ∈ zt := zt_of (i := 458) (by decide +kernel) (by decide +kernel)
theorem imX2_kindsOf : Cond.instanceMethod yX2_kindsOf ∈ zt := zt_of (i := 456) (by decide +kernel) (by decide +kernel)
theorem slX2_kindsOf : Cond.selects RX2 yX2_kindsOf yX2_kindsOf ∈ zt := zt_of (i := 457) (by decide +kernel) (by decide +kernel)
abbrev cX2_isMarkedBy : ByteArray := prog_4_method_20_code
def yX2_isMarkedBy : MethodName := ⟨RX2, "isMarkedBy", "(II)Z"⟩
abbrev wsX2_isMarkedBy : List Cond := Cond.code yX2_isMarkedBy cX2_isMarkedBy 4 (some .boolean) :: zt
theorem cdX2_isMarkedBy : Cond.code yX2_isMarkedBy cX2_isMarkedBy 4 (some .boolean) ∈ zt := zt_of (i := 462) (by decide +kernel) (by decide +kernel)
theorem imX2_isMarkedBy : Cond.instanceMethod yX2_isMarkedBy ∈ zt := zt_of (i := 461) (by decide +kernel) (by decide +kernel)
theorem slX2_isMarkedBy : Cond.selects RX2 yX2_isMarkedBy yX2_isMarkedBy ∈ zt := zt_of (i := 7) (by decide +kernel) (by decide +kernel)
abbrev cX2_bitsOfLatest : ByteArray := prog_4_method_21_code
def yX2_bitsOfLatest : MethodName := ⟨RX2, "bitsOfLatest", "()I"⟩
abbrev wsX2_bitsOfLatest : List Cond := Cond.code yX2_bitsOfLatest cX2_bitsOfLatest 4 (some .int) :: zt
theorem cdX2_bitsOfLatest : Cond.code yX2_bitsOfLatest cX2_bitsOfLatest 4 (some .int) ∈ zt := zt_of (i := 466) (by decide +kernel) (by decide +kernel)
theorem imX2_bitsOfLatest : Cond.instanceMethod yX2_bitsOfLatest ∈ zt := zt_of (i := 465) (by decide +kernel) (by decide +kernel)
theorem slX2_bitsOfLatest : Cond.selects RX2 yX2_bitsOfLatest yX2_bitsOfLatest ∈ zt := zt_of (i := 8) (by decide +kernel) (by decide +kernel)
abbrev cX4_deed : ByteArray := prog_1_method_20_code
def yX4_deed : MethodName := ⟨RX4, "deed", "(II)I"⟩
abbrev wsX4_deed : List Cond := Cond.code yX4_deed cX4_deed 3 (some .int) :: zt
theorem cdX4_deed : Cond.code yX4_deed cX4_deed 3 (some .int) ∈ zt := zt_of (i := 470) (by decide +kernel) (by decide +kernel)
theorem imX4_deed : Cond.instanceMethod yX4_deed ∈ zt := zt_of (i := 468) (by decide +kernel) (by decide +kernel)
theorem slX4_deed : Cond.selects RX4 yX4_deed yX4_deed ∈ zt := zt_of (i := 469) (by decide +kernel) (by decide +kernel)
abbrev cX4_message : ByteArray := prog_1_method_21_code
def yX4_message : MethodName := ⟨RX4, "message", "(II)I"⟩
abbrev wsX4_message : List Cond := Cond.code yX4_message cX4_message 3 (some .int) :: zt
theorem cdX4_message : Cond.code yX4_message cX4_message 3 (some .int) ∈ zt := zt_of (i := 474) (by decide +kernel) (by decide +kernel)
theorem imX4_message : Cond.instanceMethod yX4_message ∈ zt := zt_of (i := 472) (by decide +kernel) (by decide +kernel)
theorem slX4_message : Cond.selects RX4 yX4_message yX4_message ∈ zt := zt_of (i := 473) (by decide +kernel) (by decide +kernel)
abbrev cX4_count : ByteArray := prog_1_method_22_code
def yX4_count : MethodName := ⟨RX4, "count", "(I)I"⟩
abbrev wsX4_count : List Cond := Cond.code yX4_count cX4_count 2 (some .int) :: zt
theorem cdX4_count : Cond.code yX4_count cX4_count 2 (some .int) ∈ zt := zt_of (i := 478) (by decide +kernel) (by decide +kernel)
theorem imX4_count : Cond.instanceMethod yX4_count ∈ zt := zt_of (i := 476) (by decide +kernel) (by decide +kernel)
theorem slX4_count : Cond.selects RX4 yX4_count yX4_count ∈ zt := zt_of (i := 477) (by decide +kernel) (by decide +kernel)
abbrev cL_sign : ByteArray := method_3_code
def yL_sign : MethodName := ⟨RL, "sign", "(LSignRow;II[J)I"⟩
theorem stL_sign : Cond.static yL_sign ∈ zt := zt_of (i := 480) (by decide +kernel) (by decide +kernel)
abbrev cX4_sign : ByteArray := prog_1_method_13_code
def yX4_sign : MethodName := ⟨RX4, "sign", "(II)I"⟩
abbrev wsX4_sign : List Cond := Cond.code yX4_sign cX4_sign 3 (some .int) :: zt
theorem cdX4_sign : Cond.code yX4_sign cX4_sign 3 (some .int) ∈ zt := zt_of (i := 486) (by decide +kernel) (by decide +kernel)
theorem imX4_sign : Cond.instanceMethod yX4_sign ∈ zt := zt_of (i := 484) (by decide +kernel) (by decide +kernel)
theorem slX4_sign : Cond.selects RX4 yX4_sign yX4_sign ∈ zt := zt_of (i := 485) (by decide +kernel) (by decide +kernel)
abbrev cX4_livingSign : ByteArray := prog_1_method_26_code
def yX4_livingSign : MethodName := ⟨RX4, "livingSign", "(II)I"⟩
abbrev wsX4_livingSign : List Cond := Cond.code yX4_livingSign cX4_livingSign 4 (some .int) :: zt
theorem cdX4_livingSign : Cond.code yX4_livingSign cX4_livingSign 4 (some .int) ∈ zt := zt_of (i := 490) (by decide +kernel) (by decide +kernel)
theorem imX4_livingSign : Cond.instanceMethod yX4_livingSign ∈ zt := zt_of (i := 489) (by decide +kernel) (by decide +kernel)
theorem slX4_livingSign : Cond.selects RX4 yX4_livingSign yX4_livingSign ∈ zt := zt_of (i := 9) (by decide +kernel) (by decide +kernel)
abbrev cL_path : ByteArray := method_4_code
def yL_path : MethodName := ⟨RL, "path", "(LSignRow;IIII[J)I"⟩
theorem stL_path : Cond.static yL_path ∈ zt := zt_of (i := 558) (by decide +kernel) (by decide +kernel)
abbrev cX4_path : ByteArray := prog_1_method_14_code
def yX4_path : MethodName := ⟨RX4, "path", "(IIII)I"⟩
abbrev wsX4_path : List Cond := Cond.code yX4_path cX4_path 8 (some .int) :: zt
theorem cdX4_path : Cond.code yX4_path cX4_path 8 (some .int) ∈ zt := zt_of (i := 563) (by decide +kernel) (by decide +kernel)
theorem imX4_path : Cond.instanceMethod yX4_path ∈ zt := zt_of (i := 561) (by decide +kernel) (by decide +kernel)
theorem slX4_path : Cond.selects RX4 yX4_path yX4_path ∈ zt := zt_of (i := 562) (by decide +kernel) (by decide +kernel)
abbrev cX1_siteOf : ByteArray := prog_3_method_3_code
def yX1_siteOf : MethodName := ⟨RX1, "siteOf", "(I)I"⟩
abbrev wsX1_siteOf : List Cond := Cond.code yX1_siteOf cX1_siteOf 1 (some .int) :: zt
theorem cdX1_siteOf : Cond.code yX1_siteOf cX1_siteOf 1 (some .int) ∈ zt := zt_of (i := 569) (by decide +kernel) (by decide +kernel)
theorem stX1_siteOf : Cond.static yX1_siteOf ∈ zt := zt_of (i := 568) (by decide +kernel) (by decide +kernel)
abbrev cX1_countOf : ByteArray := prog_3_method_4_code
def yX1_countOf : MethodName := ⟨RX1, "countOf", "(I)I"⟩
abbrev wsX1_countOf : List Cond := Cond.code yX1_countOf cX1_countOf 1 (some .int) :: zt
theorem cdX1_countOf : Cond.code yX1_countOf cX1_countOf 1 (some .int) ∈ zt := zt_of (i := 572) (by decide +kernel) (by decide +kernel)
theorem stX1_countOf : Cond.static yX1_countOf ∈ zt := zt_of (i := 571) (by decide +kernel) (by decide +kernel)
abbrev cL_kinds : ByteArray := method_5_code
def yL_kinds : MethodName := ⟨RL, "kinds", "(LSignRow;II[J)I"⟩
theorem stL_kinds : Cond.static yL_kinds ∈ zt := zt_of (i := 574) (by decide +kernel) (by decide +kernel)
abbrev cX4_kinds : ByteArray := prog_1_method_15_code
def yX4_kinds : MethodName := ⟨RX4, "kinds", "(II)I"⟩
abbrev wsX4_kinds : List Cond := Cond.code yX4_kinds cX4_kinds 4 (some .int) :: zt
theorem cdX4_kinds : Cond.code yX4_kinds cX4_kinds 4 (some .int) ∈ zt := zt_of (i := 579) (by decide +kernel) (by decide +kernel)
theorem imX4_kinds : Cond.instanceMethod yX4_kinds ∈ zt := zt_of (i := 577) (by decide +kernel) (by decide +kernel)
theorem slX4_kinds : Cond.selects RX4 yX4_kinds yX4_kinds ∈ zt := zt_of (i := 578) (by decide +kernel) (by decide +kernel)
abbrev cX5_thrown : ByteArray := prog_7_method_1_code
def yX5_thrown : MethodName := ⟨RX5, "thrown", "()I"⟩
abbrev wsX5_thrown : List Cond := Cond.code yX5_thrown cX5_thrown 1 (some .int) :: zt
theorem cdX5_thrown : Cond.code yX5_thrown cX5_thrown 1 (some .int) ∈ zt := zt_of (i := 583) (by decide +kernel) (by decide +kernel)
theorem imX5_thrown : Cond.instanceMethod yX5_thrown ∈ zt := zt_of (i := 581) (by decide +kernel) (by decide +kernel)
theorem slX5_thrown : Cond.selects RX5 yX5_thrown yX5_thrown ∈ zt := zt_of (i := 582) (by decide +kernel) (by decide +kernel)
abbrev cX5_init : ByteArray := prog_7_method_2_code
def yX5_init : MethodName := ⟨RX5, "<init>", "()V"⟩
abbrev wsX5_init : List Cond := Cond.code yX5_init cX5_init 2 (none) :: zt
theorem cdX5_init : Cond.code yX5_init cX5_init 2 (none) ∈ zt := zt_of (i := 588) (by decide +kernel) (by decide +kernel)
theorem imX5_init : Cond.instanceMethod yX5_init ∈ zt := zt_of (i := 587) (by decide +kernel) (by decide +kernel)
abbrev cX5_stream : ByteArray := prog_7_method_5_code
def yX5_stream : MethodName := ⟨RX5, "stream", "(II)I"⟩
abbrev wsX5_stream : List Cond := Cond.code yX5_stream cX5_stream 4 (some .int) :: zt
theorem cdX5_stream : Cond.code yX5_stream cX5_stream 4 (some .int) ∈ zt := zt_of (i := 693) (by decide +kernel) (by decide +kernel)
theorem imX5_stream : Cond.instanceMethod yX5_stream ∈ zt := zt_of (i := 691) (by decide +kernel) (by decide +kernel)
theorem slX5_stream : Cond.selects RX5 yX5_stream yX5_stream ∈ zt := zt_of (i := 692) (by decide +kernel) (by decide +kernel)
abbrev cX5_isReplica : ByteArray := prog_7_method_4_code
def yX5_isReplica : MethodName := ⟨RX5, "isReplica", "(I)Z"⟩
abbrev wsX5_isReplica : List Cond := Cond.code yX5_isReplica cX5_isReplica 1 (some .boolean) :: zt
theorem cdX5_isReplica : Cond.code yX5_isReplica cX5_isReplica 1 (some .boolean) ∈ zt := zt_of (i := 696) (by decide +kernel) (by decide +kernel)
theorem stX5_isReplica : Cond.static yX5_isReplica ∈ zt := zt_of (i := 695) (by decide +kernel) (by decide +kernel)
abbrev cX5_in : ByteArray := prog_7_method_3_code
def yX5_in : MethodName := ⟨RX5, "in", "(JJJ)Z"⟩
abbrev wsX5_in : List Cond := Cond.code yX5_in cX5_in 6 (some .boolean) :: zt
theorem cdX5_in : Cond.code yX5_in cX5_in 6 (some .boolean) ∈ zt := zt_of (i := 700) (by decide +kernel) (by decide +kernel)
theorem stX5_in : Cond.static yX5_in ∈ zt := zt_of (i := 699) (by decide +kernel) (by decide +kernel)
abbrev cX5_type : ByteArray := prog_7_method_24_code
def yX5_type : MethodName := ⟨RX5, "type", "(III)I"⟩
abbrev wsX5_type : List Cond := Cond.code yX5_type cX5_type 4 (some .int) :: zt
theorem cdX5_type : Cond.code yX5_type cX5_type 4 (some .int) ∈ zt := zt_of (i := 704) (by decide +kernel) (by decide +kernel)
theorem imX5_type : Cond.instanceMethod yX5_type ∈ zt := zt_of (i := 702) (by decide +kernel) (by decide +kernel)
theorem slX5_type : Cond.selects RX5 yX5_type yX5_type ∈ zt := zt_of (i := 703) (by decide +kernel) (by decide +kernel)
abbrev cX5_sizeOf : ByteArray := prog_7_method_9_code
def yX5_sizeOf : MethodName := ⟨RX5, "sizeOf", "(I)I"⟩
abbrev wsX5_sizeOf : List Cond := Cond.code yX5_sizeOf cX5_sizeOf 4 (some .int) :: zt
theorem cdX5_sizeOf : Cond.code yX5_sizeOf cX5_sizeOf 4 (some .int) ∈ zt := zt_of (i := 708) (by decide +kernel) (by decide +kernel)
theorem imX5_sizeOf : Cond.instanceMethod yX5_sizeOf ∈ zt := zt_of (i := 707) (by decide +kernel) (by decide +kernel)
theorem slX5_sizeOf : Cond.selects RX5 yX5_sizeOf yX5_sizeOf ∈ zt := zt_of (i := 11) (by decide +kernel) (by decide +kernel)
abbrev cX5_lives : ByteArray := prog_7_method_7_code
def yX5_lives : MethodName := ⟨RX5, "lives", "(II)Z"⟩
abbrev wsX5_lives : List Cond := Cond.code yX5_lives cX5_lives 4 (some .boolean) :: zt
theorem cdX5_lives : Cond.code yX5_lives cX5_lives 4 (some .boolean) ∈ zt := zt_of (i := 712) (by decide +kernel) (by decide +kernel)
theorem imX5_lives : Cond.instanceMethod yX5_lives ∈ zt := zt_of (i := 711) (by decide +kernel) (by decide +kernel)
theorem slX5_lives : Cond.selects RX5 yX5_lives yX5_lives ∈ zt := zt_of (i := 12) (by decide +kernel) (by decide +kernel)
abbrev cX5_has : ByteArray := prog_7_method_6_code
def yX5_has : MethodName := ⟨RX5, "has", "(II)Z"⟩
abbrev wsX5_has : List Cond := Cond.code yX5_has cX5_has 3 (some .boolean) :: zt
theorem cdX5_has : Cond.code yX5_has cX5_has 3 (some .boolean) ∈ zt := zt_of (i := 716) (by decide +kernel) (by decide +kernel)
theorem imX5_has : Cond.instanceMethod yX5_has ∈ zt := zt_of (i := 715) (by decide +kernel) (by decide +kernel)
theorem slX5_has : Cond.selects RX5 yX5_has yX5_has ∈ zt := zt_of (i := 13) (by decide +kernel) (by decide +kernel)
abbrev cX5_typeOne : ByteArray := prog_7_method_23_code
def yX5_typeOne : MethodName := ⟨RX5, "typeOne", "(III)I"⟩
abbrev wsX5_typeOne : List Cond := Cond.code yX5_typeOne cX5_typeOne 5 (some .int) :: zt
theorem cdX5_typeOne : Cond.code yX5_typeOne cX5_typeOne 5 (some .int) ∈ zt := zt_of (i := 722) (by decide +kernel) (by decide +kernel)
theorem imX5_typeOne : Cond.instanceMethod yX5_typeOne ∈ zt := zt_of (i := 721) (by decide +kernel) (by decide +kernel)
theorem slX5_typeOne : Cond.selects RX5 yX5_typeOne yX5_typeOne ∈ zt := zt_of (i := 14) (by decide +kernel) (by decide +kernel)
abbrev cX5_signAt : ByteArray := prog_7_method_10_code
def yX5_signAt : MethodName := ⟨RX5, "signAt", "(II)I"⟩
abbrev wsX5_signAt : List Cond := Cond.code yX5_signAt cX5_signAt 5 (some .int) :: zt
theorem cdX5_signAt : Cond.code yX5_signAt cX5_signAt 5 (some .int) ∈ zt := zt_of (i := 726) (by decide +kernel) (by decide +kernel)
theorem imX5_signAt : Cond.instanceMethod yX5_signAt ∈ zt := zt_of (i := 725) (by decide +kernel) (by decide +kernel)
theorem slX5_signAt : Cond.selects RX5 yX5_signAt yX5_signAt ∈ zt := zt_of (i := 15) (by decide +kernel) (by decide +kernel)
abbrev cX5_nextOf : ByteArray := prog_7_method_11_code
def yX5_nextOf : MethodName := ⟨RX5, "nextOf", "(II)I"⟩
abbrev wsX5_nextOf : List Cond := Cond.code yX5_nextOf cX5_nextOf 4 (some .int) :: zt
theorem cdX5_nextOf : Cond.code yX5_nextOf cX5_nextOf 4 (some .int) ∈ zt := zt_of (i := 730) (by decide +kernel) (by decide +kernel)
theorem imX5_nextOf : Cond.instanceMethod yX5_nextOf ∈ zt := zt_of (i := 729) (by decide +kernel) (by decide +kernel)
theorem slX5_nextOf : Cond.selects RX5 yX5_nextOf yX5_nextOf ∈ zt := zt_of (i := 16) (by decide +kernel) (by decide +kernel)
abbrev cX5_findsPath : ByteArray := prog_7_method_14_code
def yX5_findsPath : MethodName := ⟨RX5, "findsPath", "(IIII)Z"⟩
abbrev wsX5_findsPath : List Cond := Cond.code yX5_findsPath cX5_findsPath 12 (some .boolean) :: zt
theorem cdX5_findsPath : Cond.code yX5_findsPath cX5_findsPath 12 (some .boolean) ∈ zt := zt_of (i := 734) (by decide +kernel) (by decide +kernel)
theorem imX5_findsPath : Cond.instanceMethod yX5_findsPath ∈ zt := zt_of (i := 733) (by decide +kernel) (by decide +kernel)
theorem slX5_findsPath : Cond.selects RX5 yX5_findsPath yX5_findsPath ∈ zt := zt_of (i := 17) (by decide +kernel) (by decide +kernel)
abbrev cX5_level : ByteArray := prog_7_method_12_code
def yX5_level : MethodName := ⟨RX5, "level", "(III)V"⟩
abbrev wsX5_level : List Cond := Cond.code yX5_level cX5_level 4 (none) :: zt
theorem cdX5_level : Cond.code yX5_level cX5_level 4 (none) ∈ zt := zt_of (i := 740) (by decide +kernel) (by decide +kernel)
theorem imX5_level : Cond.instanceMethod yX5_level ∈ zt := zt_of (i := 739) (by decide +kernel) (by decide +kernel)
theorem slX5_level : Cond.selects RX5 yX5_level yX5_level ∈ zt := zt_of (i := 18) (by decide +kernel) (by decide +kernel)
abbrev cX5_isLevel : ByteArray := prog_7_method_13_code
def yX5_isLevel : MethodName := ⟨RX5, "isLevel", "(III)Z"⟩
abbrev wsX5_isLevel : List Cond := Cond.code yX5_isLevel cX5_isLevel 6 (some .boolean) :: zt
theorem cdX5_isLevel : Cond.code yX5_isLevel cX5_isLevel 6 (some .boolean) ∈ zt := zt_of (i := 744) (by decide +kernel) (by decide +kernel)
theorem imX5_isLevel : Cond.instanceMethod yX5_isLevel ∈ zt := zt_of (i := 743) (by decide +kernel) (by decide +kernel)
theorem slX5_isLevel : Cond.selects RX5 yX5_isLevel yX5_isLevel ∈ zt := zt_of (i := 19) (by decide +kernel) (by decide +kernel)
abbrev cX5_made : ByteArray := prog_7_method_22_code
def yX5_made : MethodName := ⟨RX5, "made", "(IIIII)I"⟩
abbrev wsX5_made : List Cond := Cond.code yX5_made cX5_made 9 (some .int) :: zt
theorem cdX5_made : Cond.code yX5_made cX5_made 9 (some .int) ∈ zt := zt_of (i := 748) (by decide +kernel) (by decide +kernel)
theorem imX5_made : Cond.instanceMethod yX5_made ∈ zt := zt_of (i := 747) (by decide +kernel) (by decide +kernel)
theorem slX5_made : Cond.selects RX5 yX5_made yX5_made ∈ zt := zt_of (i := 20) (by decide +kernel) (by decide +kernel)
abbrev cX5_sortIn : ByteArray := prog_7_method_16_code
def yX5_sortIn : MethodName := ⟨RX5, "sortIn", "(I)V"⟩
abbrev wsX5_sortIn : List Cond := Cond.code yX5_sortIn cX5_sortIn 3 (none) :: zt
theorem cdX5_sortIn : Cond.code yX5_sortIn cX5_sortIn 3 (none) ∈ zt := zt_of (i := 752) (by decide +kernel) (by decide +kernel)
theorem imX5_sortIn : Cond.instanceMethod yX5_sortIn ∈ zt := zt_of (i := 751) (by decide +kernel) (by decide +kernel)
theorem slX5_sortIn : Cond.selects RX5 yX5_sortIn yX5_sortIn ∈ zt := zt_of (i := 21) (by decide +kernel) (by decide +kernel)
abbrev cX5_isBefore : ByteArray := prog_7_method_15_code
def yX5_isBefore : MethodName := ⟨RX5, "isBefore", "(II)Z"⟩
abbrev wsX5_isBefore : List Cond := Cond.code yX5_isBefore cX5_isBefore 6 (some .boolean) :: zt
theorem cdX5_isBefore : Cond.code yX5_isBefore cX5_isBefore 6 (some .boolean) ∈ zt := zt_of (i := 756) (by decide +kernel) (by decide +kernel)
theorem imX5_isBefore : Cond.instanceMethod yX5_isBefore ∈ zt := zt_of (i := 755) (by decide +kernel) (by decide +kernel)
theorem slX5_isBefore : Cond.selects RX5 yX5_isBefore yX5_isBefore ∈ zt := zt_of (i := 22) (by decide +kernel) (by decide +kernel)
abbrev cX5_isDone : ByteArray := prog_7_method_18_code
def yX5_isDone : MethodName := ⟨RX5, "isDone", "(II)V"⟩
abbrev wsX5_isDone : List Cond := Cond.code yX5_isDone cX5_isDone 4 (none) :: zt
theorem cdX5_isDone : Cond.code yX5_isDone cX5_isDone 4 (none) ∈ zt := zt_of (i := 760) (by decide +kernel) (by decide +kernel)
theorem imX5_isDone : Cond.instanceMethod yX5_isDone ∈ zt := zt_of (i := 759) (by decide +kernel) (by decide +kernel)
theorem slX5_isDone : Cond.selects RX5 yX5_isDone yX5_isDone ∈ zt := zt_of (i := 23) (by decide +kernel) (by decide +kernel)
abbrev cX5_isLater : ByteArray := prog_7_method_8_code
def yX5_isLater : MethodName := ⟨RX5, "isLater", "(II)Z"⟩
abbrev wsX5_isLater : List Cond := Cond.code yX5_isLater cX5_isLater 3 (some .boolean) :: zt
theorem cdX5_isLater : Cond.code yX5_isLater cX5_isLater 3 (some .boolean) ∈ zt := zt_of (i := 764) (by decide +kernel) (by decide +kernel)
theorem imX5_isLater : Cond.instanceMethod yX5_isLater ∈ zt := zt_of (i := 763) (by decide +kernel) (by decide +kernel)
theorem slX5_isLater : Cond.selects RX5 yX5_isLater yX5_isLater ∈ zt := zt_of (i := 24) (by decide +kernel) (by decide +kernel)
abbrev cX5_goOn : ByteArray := prog_7_method_19_code
def yX5_goOn : MethodName := ⟨RX5, "goOn", "(I)I"⟩
abbrev wsX5_goOn : List Cond := Cond.code yX5_goOn cX5_goOn 5 (some .int) :: zt
theorem cdX5_goOn : Cond.code yX5_goOn cX5_goOn 5 (some .int) ∈ zt := zt_of (i := 768) (by decide +kernel) (by decide +kernel)
theorem imX5_goOn : Cond.instanceMethod yX5_goOn ∈ zt := zt_of (i := 767) (by decide +kernel) (by decide +kernel)
theorem slX5_goOn : Cond.selects RX5 yX5_goOn yX5_goOn ∈ zt := zt_of (i := 25) (by decide +kernel) (by decide +kernel)
abbrev cX5_can : ByteArray := prog_7_method_17_code
def yX5_can : MethodName := ⟨RX5, "can", "(II)Z"⟩
abbrev wsX5_can : List Cond := Cond.code yX5_can cX5_can 5 (some .boolean) :: zt
theorem cdX5_can : Cond.code yX5_can cX5_can 5 (some .boolean) ∈ zt := zt_of (i := 772) (by decide +kernel) (by decide +kernel)
theorem imX5_can : Cond.instanceMethod yX5_can ∈ zt := zt_of (i := 771) (by decide +kernel) (by decide +kernel)
theorem slX5_can : Cond.selects RX5 yX5_can yX5_can ∈ zt := zt_of (i := 26) (by decide +kernel) (by decide +kernel)
abbrev cX5_send : ByteArray := prog_7_method_21_code
def yX5_send : MethodName := ⟨RX5, "send", "(II)V"⟩
abbrev wsX5_send : List Cond := Cond.code yX5_send cX5_send 3 (none) :: zt
theorem cdX5_send : Cond.code yX5_send cX5_send 3 (none) ∈ zt := zt_of (i := 776) (by decide +kernel) (by decide +kernel)
theorem imX5_send : Cond.instanceMethod yX5_send ∈ zt := zt_of (i := 775) (by decide +kernel) (by decide +kernel)
theorem slX5_send : Cond.selects RX5 yX5_send yX5_send ∈ zt := zt_of (i := 27) (by decide +kernel) (by decide +kernel)
abbrev cX5_paste : ByteArray := prog_7_method_25_code
def yX5_paste : MethodName := ⟨RX5, "paste", "(IIII)I"⟩
abbrev wsX5_paste : List Cond := Cond.code yX5_paste cX5_paste 6 (some .int) :: zt
theorem cdX5_paste : Cond.code yX5_paste cX5_paste 6 (some .int) ∈ zt := zt_of (i := 780) (by decide +kernel) (by decide +kernel)
theorem imX5_paste : Cond.instanceMethod yX5_paste ∈ zt := zt_of (i := 778) (by decide +kernel) (by decide +kernel)
theorem slX5_paste : Cond.selects RX5 yX5_paste yX5_paste ∈ zt := zt_of (i := 779) (by decide +kernel) (by decide +kernel)
abbrev cX5_erase : ByteArray := prog_7_method_26_code
def yX5_erase : MethodName := ⟨RX5, "erase", "(II)I"⟩
abbrev wsX5_erase : List Cond := Cond.code yX5_erase cX5_erase 3 (some .int) :: zt
theorem cdX5_erase : Cond.code yX5_erase cX5_erase 3 (some .int) ∈ zt := zt_of (i := 785) (by decide +kernel) (by decide +kernel)
theorem imX5_erase : Cond.instanceMethod yX5_erase ∈ zt := zt_of (i := 783) (by decide +kernel) (by decide +kernel)
theorem slX5_erase : Cond.selects RX5 yX5_erase yX5_erase ∈ zt := zt_of (i := 784) (by decide +kernel) (by decide +kernel)
abbrev cX5_undo : ByteArray := prog_7_method_27_code
def yX5_undo : MethodName := ⟨RX5, "undo", "(I)I"⟩
abbrev wsX5_undo : List Cond := Cond.code yX5_undo cX5_undo 4 (some .int) :: zt
theorem cdX5_undo : Cond.code yX5_undo cX5_undo 4 (some .int) ∈ zt := zt_of (i := 789) (by decide +kernel) (by decide +kernel)
theorem imX5_undo : Cond.instanceMethod yX5_undo ∈ zt := zt_of (i := 787) (by decide +kernel) (by decide +kernel)
theorem slX5_undo : Cond.selects RX5 yX5_undo yX5_undo ∈ zt := zt_of (i := 788) (by decide +kernel) (by decide +kernel)
abbrev cX5_mark : ByteArray := prog_7_method_28_code
def yX5_mark : MethodName := ⟨RX5, "mark", "(IIIIZ)I"⟩
abbrev wsX5_mark : List Cond := Cond.code yX5_mark cX5_mark 6 (some .int) :: zt
theorem cdX5_mark : Cond.code yX5_mark cX5_mark 6 (some .int) ∈ zt := zt_of (i := 793) (by decide +kernel) (by decide +kernel)
theorem imX5_mark : Cond.instanceMethod yX5_mark ∈ zt := zt_of (i := 791) (by decide +kernel) (by decide +kernel)
theorem slX5_mark : Cond.selects RX5 yX5_mark yX5_mark ∈ zt := zt_of (i := 792) (by decide +kernel) (by decide +kernel)
abbrev cX5_deliver : ByteArray := prog_7_method_30_code
def yX5_deliver : MethodName := ⟨RX5, "deliver", "(I)I"⟩
abbrev wsX5_deliver : List Cond := Cond.code yX5_deliver cX5_deliver 6 (some .int) :: zt
theorem cdX5_deliver : Cond.code yX5_deliver cX5_deliver 6 (some .int) ∈ zt := zt_of (i := 798) (by decide +kernel) (by decide +kernel)
theorem imX5_deliver : Cond.instanceMethod yX5_deliver ∈ zt := zt_of (i := 796) (by decide +kernel) (by decide +kernel)
theorem slX5_deliver : Cond.selects RX5 yX5_deliver yX5_deliver ∈ zt := zt_of (i := 797) (by decide +kernel) (by decide +kernel)
abbrev cX5_drop : ByteArray := prog_7_method_29_code
def yX5_drop : MethodName := ⟨RX5, "drop", "(I)V"⟩
abbrev wsX5_drop : List Cond := Cond.code yX5_drop cX5_drop 3 (none) :: zt
theorem cdX5_drop : Cond.code yX5_drop cX5_drop 3 (none) ∈ zt := zt_of (i := 802) (by decide +kernel) (by decide +kernel)
theorem imX5_drop : Cond.instanceMethod yX5_drop ∈ zt := zt_of (i := 801) (by decide +kernel) (by decide +kernel)
theorem slX5_drop : Cond.selects RX5 yX5_drop yX5_drop ∈ zt := zt_of (i := 28) (by decide +kernel) (by decide +kernel)
abbrev cX5_comes : ByteArray := prog_7_method_20_code
def yX5_comes : MethodName := ⟨RX5, "comes", "(II)I"⟩
abbrev wsX5_comes : List Cond := Cond.code yX5_comes cX5_comes 3 (some .int) :: zt
theorem cdX5_comes : Cond.code yX5_comes cX5_comes 3 (some .int) ∈ zt := zt_of (i := 806) (by decide +kernel) (by decide +kernel)
theorem imX5_comes : Cond.instanceMethod yX5_comes ∈ zt := zt_of (i := 805) (by decide +kernel) (by decide +kernel)
theorem slX5_comes : Cond.selects RX5 yX5_comes yX5_comes ∈ zt := zt_of (i := 29) (by decide +kernel) (by decide +kernel)
abbrev cX5_lose : ByteArray := prog_7_method_31_code
def yX5_lose : MethodName := ⟨RX5, "lose", "(I)I"⟩
abbrev wsX5_lose : List Cond := Cond.code yX5_lose cX5_lose 2 (some .int) :: zt
theorem cdX5_lose : Cond.code yX5_lose cX5_lose 2 (some .int) ∈ zt := zt_of (i := 810) (by decide +kernel) (by decide +kernel)
theorem imX5_lose : Cond.instanceMethod yX5_lose ∈ zt := zt_of (i := 808) (by decide +kernel) (by decide +kernel)
theorem slX5_lose : Cond.selects RX5 yX5_lose yX5_lose ∈ zt := zt_of (i := 809) (by decide +kernel) (by decide +kernel)
abbrev cX5_repeat : ByteArray := prog_7_method_32_code
def yX5_repeat : MethodName := ⟨RX5, "repeat", "(I)I"⟩
abbrev wsX5_repeat : List Cond := Cond.code yX5_repeat cX5_repeat 2 (some .int) :: zt
theorem cdX5_repeat : Cond.code yX5_repeat cX5_repeat 2 (some .int) ∈ zt := zt_of (i := 814) (by decide +kernel) (by decide +kernel)
theorem imX5_repeat : Cond.instanceMethod yX5_repeat ∈ zt := zt_of (i := 812) (by decide +kernel) (by decide +kernel)
theorem slX5_repeat : Cond.selects RX5 yX5_repeat yX5_repeat ∈ zt := zt_of (i := 813) (by decide +kernel) (by decide +kernel)
abbrev cX5_sync : ByteArray := prog_7_method_33_code
def yX5_sync : MethodName := ⟨RX5, "sync", "(II)I"⟩
abbrev wsX5_sync : List Cond := Cond.code yX5_sync cX5_sync 5 (some .int) :: zt
theorem cdX5_sync : Cond.code yX5_sync cX5_sync 5 (some .int) ∈ zt := zt_of (i := 818) (by decide +kernel) (by decide +kernel)
theorem imX5_sync : Cond.instanceMethod yX5_sync ∈ zt := zt_of (i := 816) (by decide +kernel) (by decide +kernel)
theorem slX5_sync : Cond.selects RX5 yX5_sync yX5_sync ∈ zt := zt_of (i := 817) (by decide +kernel) (by decide +kernel)
abbrev cX5_length : ByteArray := prog_7_method_34_code
def yX5_length : MethodName := ⟨RX5, "length", "(I)I"⟩
abbrev wsX5_length : List Cond := Cond.code yX5_length cX5_length 2 (some .int) :: zt
theorem cdX5_length : Cond.code yX5_length cX5_length 2 (some .int) ∈ zt := zt_of (i := 822) (by decide +kernel) (by decide +kernel)
theorem imX5_length : Cond.instanceMethod yX5_length ∈ zt := zt_of (i := 820) (by decide +kernel) (by decide +kernel)
theorem slX5_length : Cond.selects RX5 yX5_length yX5_length ∈ zt := zt_of (i := 821) (by decide +kernel) (by decide +kernel)
abbrev cX5_sign : ByteArray := prog_7_method_36_code
def yX5_sign : MethodName := ⟨RX5, "sign", "(II)I"⟩
abbrev wsX5_sign : List Cond := Cond.code yX5_sign cX5_sign 4 (some .int) :: zt
theorem cdX5_sign : Cond.code yX5_sign cX5_sign 4 (some .int) ∈ zt := zt_of (i := 826) (by decide +kernel) (by decide +kernel)
theorem imX5_sign : Cond.instanceMethod yX5_sign ∈ zt := zt_of (i := 824) (by decide +kernel) (by decide +kernel)
theorem slX5_sign : Cond.selects RX5 yX5_sign yX5_sign ∈ zt := zt_of (i := 825) (by decide +kernel) (by decide +kernel)
abbrev cX5_signOf : ByteArray := prog_7_method_35_code
def yX5_signOf : MethodName := ⟨RX5, "signOf", "(II)I"⟩
abbrev wsX5_signOf : List Cond := Cond.code yX5_signOf cX5_signOf 3 (some .int) :: zt
theorem cdX5_signOf : Cond.code yX5_signOf cX5_signOf 3 (some .int) ∈ zt := zt_of (i := 830) (by decide +kernel) (by decide +kernel)
theorem imX5_signOf : Cond.instanceMethod yX5_signOf ∈ zt := zt_of (i := 829) (by decide +kernel) (by decide +kernel)
theorem slX5_signOf : Cond.selects RX5 yX5_signOf yX5_signOf ∈ zt := zt_of (i := 30) (by decide +kernel) (by decide +kernel)
abbrev cX5_path : ByteArray := prog_7_method_37_code
def yX5_path : MethodName := ⟨RX5, "path", "(IIII)I"⟩
abbrev wsX5_path : List Cond := Cond.code yX5_path cX5_path 7 (some .int) :: zt
theorem cdX5_path : Cond.code yX5_path cX5_path 7 (some .int) ∈ zt := zt_of (i := 834) (by decide +kernel) (by decide +kernel)
theorem imX5_path : Cond.instanceMethod yX5_path ∈ zt := zt_of (i := 832) (by decide +kernel) (by decide +kernel)
theorem slX5_path : Cond.selects RX5 yX5_path yX5_path ∈ zt := zt_of (i := 833) (by decide +kernel) (by decide +kernel)
abbrev cX5_kinds : ByteArray := prog_7_method_39_code
def yX5_kinds : MethodName := ⟨RX5, "kinds", "(II)I"⟩
abbrev wsX5_kinds : List Cond := Cond.code yX5_kinds cX5_kinds 4 (some .int) :: zt
theorem cdX5_kinds : Cond.code yX5_kinds cX5_kinds 4 (some .int) ∈ zt := zt_of (i := 839) (by decide +kernel) (by decide +kernel)
theorem imX5_kinds : Cond.instanceMethod yX5_kinds ∈ zt := zt_of (i := 837) (by decide +kernel) (by decide +kernel)
theorem slX5_kinds : Cond.selects RX5 yX5_kinds yX5_kinds ∈ zt := zt_of (i := 838) (by decide +kernel) (by decide +kernel)
abbrev cX5_kindsOf : ByteArray := prog_7_method_38_code
def yX5_kindsOf : MethodName := ⟨RX5, "kindsOf", "(II)I"⟩
abbrev wsX5_kindsOf : List Cond := Cond.code yX5_kindsOf cX5_kindsOf 8 (some .int) :: zt
theorem cdX5_kindsOf : Cond.code yX5_kindsOf cX5_kindsOf 8 (some .int) ∈ zt := zt_of (i := 843) (by decide +kernel) (by decide +kernel)
theorem imX5_kindsOf : Cond.instanceMethod yX5_kindsOf ∈ zt := zt_of (i := 842) (by decide +kernel) (by decide +kernel)
theorem slX5_kindsOf : Cond.selects RX5 yX5_kindsOf yX5_kindsOf ∈ zt := zt_of (i := 31) (by decide +kernel) (by decide +kernel)
abbrev cX5_cursor : ByteArray := prog_7_method_41_code
def yX5_cursor : MethodName := ⟨RX5, "cursor", "(III)I"⟩
abbrev wsX5_cursor : List Cond := Cond.code yX5_cursor cX5_cursor 5 (some .int) :: zt
theorem cdX5_cursor : Cond.code yX5_cursor cX5_cursor 5 (some .int) ∈ zt := zt_of (i := 847) (by decide +kernel) (by decide +kernel)
theorem imX5_cursor : Cond.instanceMethod yX5_cursor ∈ zt := zt_of (i := 845) (by decide +kernel) (by decide +kernel)
theorem slX5_cursor : Cond.selects RX5 yX5_cursor yX5_cursor ∈ zt := zt_of (i := 846) (by decide +kernel) (by decide +kernel)
abbrev cX5_placeOf : ByteArray := prog_7_method_40_code
def yX5_placeOf : MethodName := ⟨RX5, "placeOf", "(II)I"⟩
abbrev wsX5_placeOf : List Cond := Cond.code yX5_placeOf cX5_placeOf 6 (some .int) :: zt
theorem cdX5_placeOf : Cond.code yX5_placeOf cX5_placeOf 6 (some .int) ∈ zt := zt_of (i := 851) (by decide +kernel) (by decide +kernel)
theorem imX5_placeOf : Cond.instanceMethod yX5_placeOf ∈ zt := zt_of (i := 850) (by decide +kernel) (by decide +kernel)
theorem slX5_placeOf : Cond.selects RX5 yX5_placeOf yX5_placeOf ∈ zt := zt_of (i := 32) (by decide +kernel) (by decide +kernel)
abbrev cX5_at : ByteArray := prog_7_method_42_code
def yX5_at : MethodName := ⟨RX5, "at", "(II)I"⟩
abbrev wsX5_at : List Cond := Cond.code yX5_at cX5_at 3 (some .int) :: zt
theorem cdX5_at : Cond.code yX5_at cX5_at 3 (some .int) ∈ zt := zt_of (i := 855) (by decide +kernel) (by decide +kernel)
theorem imX5_at : Cond.instanceMethod yX5_at ∈ zt := zt_of (i := 853) (by decide +kernel) (by decide +kernel)
theorem slX5_at : Cond.selects RX5 yX5_at yX5_at ∈ zt := zt_of (i := 854) (by decide +kernel) (by decide +kernel)
abbrev cX5_about : ByteArray := prog_7_method_43_code
def yX5_about : MethodName := ⟨RX5, "about", "(III)I"⟩
abbrev wsX5_about : List Cond := Cond.code yX5_about cX5_about 6 (some .int) :: zt
theorem cdX5_about : Cond.code yX5_about cX5_about 6 (some .int) ∈ zt := zt_of (i := 859) (by decide +kernel) (by decide +kernel)
theorem imX5_about : Cond.instanceMethod yX5_about ∈ zt := zt_of (i := 857) (by decide +kernel) (by decide +kernel)
theorem slX5_about : Cond.selects RX5 yX5_about yX5_about ∈ zt := zt_of (i := 858) (by decide +kernel) (by decide +kernel)
abbrev cX5_same : ByteArray := prog_7_method_44_code
def yX5_same : MethodName := ⟨RX5, "same", "(II)I"⟩
abbrev wsX5_same : List Cond := Cond.code yX5_same cX5_same 5 (some .int) :: zt
theorem cdX5_same : Cond.code yX5_same cX5_same 5 (some .int) ∈ zt := zt_of (i := 863) (by decide +kernel) (by decide +kernel)
theorem imX5_same : Cond.instanceMethod yX5_same ∈ zt := zt_of (i := 861) (by decide +kernel) (by decide +kernel)
theorem slX5_same : Cond.selects RX5 yX5_same yX5_same ∈ zt := zt_of (i := 862) (by decide +kernel) (by decide +kernel)
abbrev cX5_deed : ByteArray := prog_7_method_45_code
def yX5_deed : MethodName := ⟨RX5, "deed", "(II)I"⟩
abbrev wsX5_deed : List Cond := Cond.code yX5_deed cX5_deed 3 (some .int) :: zt
theorem cdX5_deed : Cond.code yX5_deed cX5_deed 3 (some .int) ∈ zt := zt_of (i := 867) (by decide +kernel) (by decide +kernel)
theorem imX5_deed : Cond.instanceMethod yX5_deed ∈ zt := zt_of (i := 865) (by decide +kernel) (by decide +kernel)
theorem slX5_deed : Cond.selects RX5 yX5_deed yX5_deed ∈ zt := zt_of (i := 866) (by decide +kernel) (by decide +kernel)
abbrev cX5_message : ByteArray := prog_7_method_46_code
def yX5_message : MethodName := ⟨RX5, "message", "(II)I"⟩
abbrev wsX5_message : List Cond := Cond.code yX5_message cX5_message 3 (some .int) :: zt
theorem cdX5_message : Cond.code yX5_message cX5_message 3 (some .int) ∈ zt := zt_of (i := 871) (by decide +kernel) (by decide +kernel)
theorem imX5_message : Cond.instanceMethod yX5_message ∈ zt := zt_of (i := 869) (by decide +kernel) (by decide +kernel)
theorem slX5_message : Cond.selects RX5 yX5_message yX5_message ∈ zt := zt_of (i := 870) (by decide +kernel) (by decide +kernel)
abbrev cX5_count : ByteArray := prog_7_method_47_code
def yX5_count : MethodName := ⟨RX5, "count", "(I)I"⟩
abbrev wsX5_count : List Cond := Cond.code yX5_count cX5_count 2 (some .int) :: zt
theorem cdX5_count : Cond.code yX5_count cX5_count 2 (some .int) ∈ zt := zt_of (i := 875) (by decide +kernel) (by decide +kernel)
theorem imX5_count : Cond.instanceMethod yX5_count ∈ zt := zt_of (i := 873) (by decide +kernel) (by decide +kernel)
theorem slX5_count : Cond.selects RX5 yX5_count yX5_count ∈ zt := zt_of (i := 874) (by decide +kernel) (by decide +kernel)
theorem mlL_22 : Cond.methodLink RL 22 yX4_init ∈ zt := zt_of (i := 47) (by decide +kernel) (by decide +kernel)
theorem flX0_9 : Cond.fieldLink RX0 9 RX0 "owner" "[I" ∈ zt := zt_of (i := 59) (by decide +kernel) (by decide +kernel)
theorem flX2_50 : Cond.fieldLink RX2 50 RX0 "owner" "[I" ∈ zt := zt_of (i := 60) (by decide +kernel) (by decide +kernel)
theorem flX4_182 : Cond.fieldLink RX4 182 RX0 "owner" "[I" ∈ zt := zt_of (i := 61) (by decide +kernel) (by decide +kernel)
theorem flX0_15 : Cond.fieldLink RX0 15 RX0 "number" "[I" ∈ zt := zt_of (i := 62) (by decide +kernel) (by decide +kernel)
theorem flX2_45 : Cond.fieldLink RX2 45 RX0 "number" "[I" ∈ zt := zt_of (i := 63) (by decide +kernel) (by decide +kernel)
theorem flX4_185 : Cond.fieldLink RX4 185 RX0 "number" "[I" ∈ zt := zt_of (i := 64) (by decide +kernel) (by decide +kernel)
theorem flX0_18 : Cond.fieldLink RX0 18 RX0 "time" "[I" ∈ zt := zt_of (i := 65) (by decide +kernel) (by decide +kernel)
theorem flX2_89 : Cond.fieldLink RX2 89 RX0 "time" "[I" ∈ zt := zt_of (i := 66) (by decide +kernel) (by decide +kernel)
theorem flX4_188 : Cond.fieldLink RX4 188 RX0 "time" "[I" ∈ zt := zt_of (i := 67) (by decide +kernel) (by decide +kernel)
theorem flX0_21 : Cond.fieldLink RX0 21 RX0 "sort" "[I" ∈ zt := zt_of (i := 68) (by decide +kernel) (by decide +kernel)
theorem flX2_53 : Cond.fieldLink RX2 53 RX0 "sort" "[I" ∈ zt := zt_of (i := 69) (by decide +kernel) (by decide +kernel)
theorem flX4_76 : Cond.fieldLink RX4 76 RX0 "sort" "[I" ∈ zt := zt_of (i := 70) (by decide +kernel) (by decide +kernel)
theorem flX0_24 : Cond.fieldLink RX0 24 RX0 "value" "[I" ∈ zt := zt_of (i := 71) (by decide +kernel) (by decide +kernel)
theorem flX4_118 : Cond.fieldLink RX4 118 RX0 "value" "[I" ∈ zt := zt_of (i := 72) (by decide +kernel) (by decide +kernel)
theorem flX2_132 : Cond.fieldLink RX2 132 RX0 "value" "[I" ∈ zt := zt_of (i := 73) (by decide +kernel) (by decide +kernel)
theorem flX0_27 : Cond.fieldLink RX0 27 RX0 "from" "[I" ∈ zt := zt_of (i := 74) (by decide +kernel) (by decide +kernel)
theorem flX4_72 : Cond.fieldLink RX4 72 RX0 "from" "[I" ∈ zt := zt_of (i := 75) (by decide +kernel) (by decide +kernel)
theorem flX2_56 : Cond.fieldLink RX2 56 RX0 "from" "[I" ∈ zt := zt_of (i := 76) (by decide +kernel) (by decide +kernel)
theorem flX0_30 : Cond.fieldLink RX0 30 RX0 "to" "[I" ∈ zt := zt_of (i := 77) (by decide +kernel) (by decide +kernel)
theorem flX2_63 : Cond.fieldLink RX2 63 RX0 "to" "[I" ∈ zt := zt_of (i := 78) (by decide +kernel) (by decide +kernel)
theorem flX0_33 : Cond.fieldLink RX0 33 RX0 "mayUndo" "[Z" ∈ zt := zt_of (i := 79) (by decide +kernel) (by decide +kernel)
theorem flX4_79 : Cond.fieldLink RX4 79 RX0 "mayUndo" "[Z" ∈ zt := zt_of (i := 80) (by decide +kernel) (by decide +kernel)
theorem flX0_37 : Cond.fieldLink RX0 37 RX0 "marks" "[I" ∈ zt := zt_of (i := 81) (by decide +kernel) (by decide +kernel)
theorem flX2_129 : Cond.fieldLink RX2 129 RX0 "marks" "[I" ∈ zt := zt_of (i := 82) (by decide +kernel) (by decide +kernel)
theorem flX0_44 : Cond.fieldLink RX0 44 RX0 "markTotal" "I" ∈ zt := zt_of (i := 83) (by decide +kernel) (by decide +kernel)
theorem flX2_126 : Cond.fieldLink RX2 126 RX0 "markTotal" "I" ∈ zt := zt_of (i := 84) (by decide +kernel) (by decide +kernel)
theorem flX0_40 : Cond.fieldLink RX0 40 RX0 "total" "I" ∈ zt := zt_of (i := 85) (by decide +kernel) (by decide +kernel)
theorem flX2_83 : Cond.fieldLink RX2 83 RX0 "total" "I" ∈ zt := zt_of (i := 86) (by decide +kernel) (by decide +kernel)
theorem flX4_111 : Cond.fieldLink RX4 111 RX0 "total" "I" ∈ zt := zt_of (i := 87) (by decide +kernel) (by decide +kernel)
theorem flX1_9 : Cond.fieldLink RX1 9 RX1 "levels" "[I" ∈ zt := zt_of (i := 119) (by decide +kernel) (by decide +kernel)
theorem flX1_15 : Cond.fieldLink RX1 15 RX1 "depth" "[I" ∈ zt := zt_of (i := 120) (by decide +kernel) (by decide +kernel)
theorem flX4_125 : Cond.fieldLink RX4 125 RX1 "depth" "[I" ∈ zt := zt_of (i := 121) (by decide +kernel) (by decide +kernel)
theorem flX1_18 : Cond.fieldLink RX1 18 RX1 "order" "[I" ∈ zt := zt_of (i := 122) (by decide +kernel) (by decide +kernel)
theorem flX2_104 : Cond.fieldLink RX2 104 RX1 "order" "[I" ∈ zt := zt_of (i := 123) (by decide +kernel) (by decide +kernel)
theorem flX4_175 : Cond.fieldLink RX4 175 RX1 "order" "[I" ∈ zt := zt_of (i := 124) (by decide +kernel) (by decide +kernel)
theorem flX1_21 : Cond.fieldLink RX1 21 RX1 "rank" "[I" ∈ zt := zt_of (i := 125) (by decide +kernel) (by decide +kernel)
theorem flX2_123 : Cond.fieldLink RX2 123 RX1 "rank" "[I" ∈ zt := zt_of (i := 126) (by decide +kernel) (by decide +kernel)
theorem flX1_65 : Cond.fieldLink RX1 65 RX1 "total" "I" ∈ zt := zt_of (i := 127) (by decide +kernel) (by decide +kernel)
theorem flX2_112 : Cond.fieldLink RX2 112 RX1 "total" "I" ∈ zt := zt_of (i := 128) (by decide +kernel) (by decide +kernel)
theorem flX4_174 : Cond.fieldLink RX4 174 RX1 "total" "I" ∈ zt := zt_of (i := 129) (by decide +kernel) (by decide +kernel)
theorem flX3_9 : Cond.fieldLink RX3 9 RX3 "what" "[I" ∈ zt := zt_of (i := 147) (by decide +kernel) (by decide +kernel)
theorem flX4_86 : Cond.fieldLink RX4 86 RX3 "what" "[I" ∈ zt := zt_of (i := 148) (by decide +kernel) (by decide +kernel)
theorem flX3_15 : Cond.fieldLink RX3 15 RX3 "toWhom" "[I" ∈ zt := zt_of (i := 149) (by decide +kernel) (by decide +kernel)
theorem flX4_89 : Cond.fieldLink RX4 89 RX3 "toWhom" "[I" ∈ zt := zt_of (i := 150) (by decide +kernel) (by decide +kernel)
theorem flX3_18 : Cond.fieldLink RX3 18 RX3 "total" "I" ∈ zt := zt_of (i := 151) (by decide +kernel) (by decide +kernel)
theorem flX4_99 : Cond.fieldLink RX4 99 RX3 "total" "I" ∈ zt := zt_of (i := 152) (by decide +kernel) (by decide +kernel)
theorem flX3_26 : Cond.fieldLink RX3 26 RX3 "lost" "I" ∈ zt := zt_of (i := 153) (by decide +kernel) (by decide +kernel)
theorem flX4_190 : Cond.fieldLink RX4 190 RX3 "lost" "I" ∈ zt := zt_of (i := 154) (by decide +kernel) (by decide +kernel)
theorem mlX4_36 : Cond.methodLink RX4 36 yX2_init ∈ zt := zt_of (i := 167) (by decide +kernel) (by decide +kernel)
theorem flX2_28 : Cond.fieldLink RX2 28 RX2 "site" "I" ∈ zt := zt_of (i := 171) (by decide +kernel) (by decide +kernel)
theorem flX1_50 : Cond.fieldLink RX1 50 RX2 "site" "I" ∈ zt := zt_of (i := 172) (by decide +kernel) (by decide +kernel)
theorem flX4_205 : Cond.fieldLink RX4 205 RX2 "site" "I" ∈ zt := zt_of (i := 173) (by decide +kernel) (by decide +kernel)
theorem flX2_32 : Cond.fieldLink RX2 32 RX2 "deeds" "LSignRow$Deeds;" ∈ zt := zt_of (i := 174) (by decide +kernel) (by decide +kernel)
theorem flX2_36 : Cond.fieldLink RX2 36 RX2 "paths" "LSignRow$Paths;" ∈ zt := zt_of (i := 175) (by decide +kernel) (by decide +kernel)
theorem flX2_40 : Cond.fieldLink RX2 40 RX2 "stream" "I" ∈ zt := zt_of (i := 176) (by decide +kernel) (by decide +kernel)
theorem flX4_43 : Cond.fieldLink RX4 43 RX2 "stream" "I" ∈ zt := zt_of (i := 177) (by decide +kernel) (by decide +kernel)
theorem flX2_86 : Cond.fieldLink RX2 86 RX2 "time" "I" ∈ zt := zt_of (i := 178) (by decide +kernel) (by decide +kernel)
theorem flX4_168 : Cond.fieldLink RX4 168 RX2 "time" "I" ∈ zt := zt_of (i := 179) (by decide +kernel) (by decide +kernel)
theorem flX2_97 : Cond.fieldLink RX2 97 RX2 "signs" "I" ∈ zt := zt_of (i := 180) (by decide +kernel) (by decide +kernel)
theorem flX4_171 : Cond.fieldLink RX4 171 RX2 "signs" "I" ∈ zt := zt_of (i := 181) (by decide +kernel) (by decide +kernel)
theorem flX2_69 : Cond.fieldLink RX2 69 RX2 "waiting" "I" ∈ zt := zt_of (i := 182) (by decide +kernel) (by decide +kernel)
theorem flX4_165 : Cond.fieldLink RX4 165 RX2 "waiting" "I" ∈ zt := zt_of (i := 183) (by decide +kernel) (by decide +kernel)
theorem flX2_9 : Cond.fieldLink RX2 9 RX2 "doneOf" "[I" ∈ zt := zt_of (i := 184) (by decide +kernel) (by decide +kernel)
theorem flX4_162 : Cond.fieldLink RX4 162 RX2 "doneOf" "[I" ∈ zt := zt_of (i := 185) (by decide +kernel) (by decide +kernel)
theorem flX2_15 : Cond.fieldLink RX2 15 RX2 "waits" "[Z" ∈ zt := zt_of (i := 186) (by decide +kernel) (by decide +kernel)
theorem flX2_19 : Cond.fieldLink RX2 19 RX2 "fate" "[I" ∈ zt := zt_of (i := 187) (by decide +kernel) (by decide +kernel)
theorem flX2_22 : Cond.fieldLink RX2 22 RX2 "cursors" "[I" ∈ zt := zt_of (i := 188) (by decide +kernel) (by decide +kernel)
theorem flX4_156 : Cond.fieldLink RX4 156 RX2 "cursors" "[I" ∈ zt := zt_of (i := 189) (by decide +kernel) (by decide +kernel)
theorem flX2_25 : Cond.fieldLink RX2 25 RX2 "latestMark" "[I" ∈ zt := zt_of (i := 190) (by decide +kernel) (by decide +kernel)
theorem flX4_10 : Cond.fieldLink RX4 10 RX4 "deeds" "LSignRow$Deeds;" ∈ zt := zt_of (i := 216) (by decide +kernel) (by decide +kernel)
theorem flX4_19 : Cond.fieldLink RX4 19 RX4 "paths" "LSignRow$Paths;" ∈ zt := zt_of (i := 217) (by decide +kernel) (by decide +kernel)
theorem flX4_26 : Cond.fieldLink RX4 26 RX4 "way" "LSignRow$Way;" ∈ zt := zt_of (i := 218) (by decide +kernel) (by decide +kernel)
theorem flX4_32 : Cond.fieldLink RX4 32 RX4 "replicas" "[LSignRow$Replica;" ∈ zt := zt_of (i := 219) (by decide +kernel) (by decide +kernel)
theorem mlL_26 : Cond.methodLink RL 26 yX4_stream ∈ zt := zt_of (i := 229) (by decide +kernel) (by decide +kernel)
theorem mlX4_39 : Cond.methodLink RX4 39 yX4_isReplica ∈ zt := zt_of (i := 233) (by decide +kernel) (by decide +kernel)
theorem mlL_30 : Cond.methodLink RL 30 yX4_type ∈ zt := zt_of (i := 236) (by decide +kernel) (by decide +kernel)
theorem mlX4_47 : Cond.methodLink RX4 47 yX2_hasGap ∈ zt := zt_of (i := 240) (by decide +kernel) (by decide +kernel)
theorem mlX2_117 : Cond.methodLink RX2 117 yX2_textLength ∈ zt := zt_of (i := 244) (by decide +kernel) (by decide +kernel)
theorem mlX2_113 : Cond.methodLink RX2 113 yX2_aliveAmongFirst ∈ zt := zt_of (i := 248) (by decide +kernel) (by decide +kernel)
theorem mlX2_109 : Cond.methodLink RX2 109 yX2_isAlive ∈ zt := zt_of (i := 252) (by decide +kernel) (by decide +kernel)
theorem mlX2_59 : Cond.methodLink RX2 59 yX2_didDeed ∈ zt := zt_of (i := 256) (by decide +kernel) (by decide +kernel)
theorem mlX4_50 : Cond.methodLink RX4 50 yX4_isByte ∈ zt := zt_of (i := 260) (by decide +kernel) (by decide +kernel)
theorem mlX4_53 : Cond.methodLink RX4 53 yX4_putSign ∈ zt := zt_of (i := 263) (by decide +kernel) (by decide +kernel)
theorem mlX4_61 : Cond.methodLink RX4 61 yX0_isFull ∈ zt := zt_of (i := 267) (by decide +kernel) (by decide +kernel)
theorem mlX4_159 : Cond.methodLink RX4 159 yX2_signBefore ∈ zt := zt_of (i := 271) (by decide +kernel) (by decide +kernel)
theorem mlX2_120 : Cond.methodLink RX2 120 yX2_signAt ∈ zt := zt_of (i := 275) (by decide +kernel) (by decide +kernel)
theorem mlX4_195 : Cond.methodLink RX4 195 yX2_nextBehind ∈ zt := zt_of (i := 279) (by decide +kernel) (by decide +kernel)
theorem mlX4_198 : Cond.methodLink RX4 198 yX1_findNew ∈ zt := zt_of (i := 283) (by decide +kernel) (by decide +kernel)
theorem mlX1_30 : Cond.methodLink RX1 30 yX1_levelOf ∈ zt := zt_of (i := 287) (by decide +kernel) (by decide +kernel)
theorem mlX1_33 : Cond.methodLink RX1 33 yX1_digitOf ∈ zt := zt_of (i := 291) (by decide +kernel) (by decide +kernel)
theorem mlX1_37 : Cond.methodLink RX1 37 yX1_baseOf ∈ zt := zt_of (i := 294) (by decide +kernel) (by decide +kernel)
theorem mlX1_24 : Cond.methodLink RX1 24 Lib.Math.min.name ∈ zt := zt_of (i := 297) (by decide +kernel) (by decide +kernel)
theorem mlX1_40 : Cond.methodLink RX1 40 yX2_throwCoin ∈ zt := zt_of (i := 300) (by decide +kernel) (by decide +kernel)
theorem knX2_43 : Cond.constant RX2 43 1664525 ∈ zt := zt_of (i := 304) (by decide +kernel) (by decide +kernel)
theorem knX2_44 : Cond.constant RX2 44 1013904223 ∈ zt := zt_of (i := 305) (by decide +kernel) (by decide +kernel)
theorem mlX1_46 : Cond.methodLink RX1 46 yX1_lastDigit ∈ zt := zt_of (i := 306) (by decide +kernel) (by decide +kernel)
theorem mlX1_54 : Cond.methodLink RX1 54 yX2_nextNumber ∈ zt := zt_of (i := 309) (by decide +kernel) (by decide +kernel)
theorem mlX1_57 : Cond.methodLink RX1 57 yX1_makeLevel ∈ zt := zt_of (i := 313) (by decide +kernel) (by decide +kernel)
theorem mlX1_61 : Cond.methodLink RX1 61 yX1_innerLevel ∈ zt := zt_of (i := 316) (by decide +kernel) (by decide +kernel)
theorem mlX4_202 : Cond.methodLink RX4 202 yX1_insert ∈ zt := zt_of (i := 319) (by decide +kernel) (by decide +kernel)
theorem mlX1_68 : Cond.methodLink RX1 68 yX1_isBefore ∈ zt := zt_of (i := 323) (by decide +kernel) (by decide +kernel)
theorem mlX4_65 : Cond.methodLink RX4 65 yX4_perform ∈ zt := zt_of (i := 327) (by decide +kernel) (by decide +kernel)
theorem mlX4_208 : Cond.methodLink RX4 208 yX2_nextNumber ∈ zt := zt_of (i := 331) (by decide +kernel) (by decide +kernel)
theorem mlX4_211 : Cond.methodLink RX4 211 yX0_add ∈ zt := zt_of (i := 332) (by decide +kernel) (by decide +kernel)
theorem mlX4_215 : Cond.methodLink RX4 215 yX2_carryOut ∈ zt := zt_of (i := 336) (by decide +kernel) (by decide +kernel)
theorem mlX2_91 : Cond.methodLink RX2 91 Lib.Math.max.name ∈ zt := zt_of (i := 340) (by decide +kernel) (by decide +kernel)
theorem mlX2_100 : Cond.methodLink RX2 100 yX0_isLater ∈ zt := zt_of (i := 343) (by decide +kernel) (by decide +kernel)
theorem mlX4_103 : Cond.methodLink RX4 103 yX3_send ∈ zt := zt_of (i := 347) (by decide +kernel) (by decide +kernel)
theorem mlX3_22 : Cond.methodLink RX3 22 yX3_isFull ∈ zt := zt_of (i := 351) (by decide +kernel) (by decide +kernel)
theorem mlL_35 : Cond.methodLink RL 35 yX4_paste ∈ zt := zt_of (i := 355) (by decide +kernel) (by decide +kernel)
theorem mlL_39 : Cond.methodLink RL 39 yX4_erase ∈ zt := zt_of (i := 359) (by decide +kernel) (by decide +kernel)
theorem mlX4_57 : Cond.methodLink RX4 57 yX2_signAt ∈ zt := zt_of (i := 363) (by decide +kernel) (by decide +kernel)
theorem mlL_43 : Cond.methodLink RL 43 yX4_undo ∈ zt := zt_of (i := 364) (by decide +kernel) (by decide +kernel)
theorem mlX4_69 : Cond.methodLink RX4 69 yX0_lastToUndo ∈ zt := zt_of (i := 368) (by decide +kernel) (by decide +kernel)
theorem mlL_48 : Cond.methodLink RL 48 yX4_mark ∈ zt := zt_of (i := 372) (by decide +kernel) (by decide +kernel)
theorem mlL_53 : Cond.methodLink RL 53 yX4_deliver ∈ zt := zt_of (i := 376) (by decide +kernel) (by decide +kernel)
theorem mlX4_83 : Cond.methodLink RX4 83 yX3_holds ∈ zt := zt_of (i := 380) (by decide +kernel) (by decide +kernel)
theorem mlX4_92 : Cond.methodLink RX4 92 yX3_drop ∈ zt := zt_of (i := 384) (by decide +kernel) (by decide +kernel)
theorem mlX4_96 : Cond.methodLink RX4 96 yX2_receive ∈ zt := zt_of (i := 388) (by decide +kernel) (by decide +kernel)
theorem mlX2_66 : Cond.methodLink RX2 66 yX2_isReady ∈ zt := zt_of (i := 392) (by decide +kernel) (by decide +kernel)
theorem mlX2_72 : Cond.methodLink RX2 72 yX2_carryOut ∈ zt := zt_of (i := 396) (by decide +kernel) (by decide +kernel)
theorem mlX2_76 : Cond.methodLink RX2 76 yX2_doWhatWaited ∈ zt := zt_of (i := 397) (by decide +kernel) (by decide +kernel)
theorem mlX2_79 : Cond.methodLink RX2 79 yX2_firstReady ∈ zt := zt_of (i := 401) (by decide +kernel) (by decide +kernel)
theorem mlL_57 : Cond.methodLink RL 57 yX4_lose ∈ zt := zt_of (i := 405) (by decide +kernel) (by decide +kernel)
theorem mlL_61 : Cond.methodLink RL 61 yX4_repeat ∈ zt := zt_of (i := 409) (by decide +kernel) (by decide +kernel)
theorem mlX4_102 : Cond.methodLink RX4 102 yX3_isFull ∈ zt := zt_of (i := 413) (by decide +kernel) (by decide +kernel)
theorem mlL_65 : Cond.methodLink RL 65 yX4_sync ∈ zt := zt_of (i := 414) (by decide +kernel) (by decide +kernel)
theorem mlX4_107 : Cond.methodLink RX4 107 yX2_doneInAll ∈ zt := zt_of (i := 418) (by decide +kernel) (by decide +kernel)
theorem mlX4_112 : Cond.methodLink RX4 112 yX2_didDeed ∈ zt := zt_of (i := 422) (by decide +kernel) (by decide +kernel)
theorem mlL_69 : Cond.methodLink RL 69 yX4_length ∈ zt := zt_of (i := 423) (by decide +kernel) (by decide +kernel)
theorem mlX4_115 : Cond.methodLink RX4 115 yX2_textLength ∈ zt := zt_of (i := 427) (by decide +kernel) (by decide +kernel)
theorem mlL_90 : Cond.methodLink RL 90 yX4_cursor ∈ zt := zt_of (i := 428) (by decide +kernel) (by decide +kernel)
theorem mlX4_150 : Cond.methodLink RX4 150 yX4_isCursor ∈ zt := zt_of (i := 432) (by decide +kernel) (by decide +kernel)
theorem mlX4_153 : Cond.methodLink RX4 153 yX2_cursorPlace ∈ zt := zt_of (i := 435) (by decide +kernel) (by decide +kernel)
theorem mlL_94 : Cond.methodLink RL 94 yX4_at ∈ zt := zt_of (i := 439) (by decide +kernel) (by decide +kernel)
theorem mlL_98 : Cond.methodLink RL 98 yX4_about ∈ zt := zt_of (i := 443) (by decide +kernel) (by decide +kernel)
theorem mlL_102 : Cond.methodLink RL 102 yX4_same ∈ zt := zt_of (i := 447) (by decide +kernel) (by decide +kernel)
theorem mlX4_178 : Cond.methodLink RX4 178 yX4_isAlike ∈ zt := zt_of (i := 451) (by decide +kernel) (by decide +kernel)
theorem mlX4_218 : Cond.methodLink RX4 218 yX2_isAlive ∈ zt := zt_of (i := 454) (by decide +kernel) (by decide +kernel)
theorem mlX4_147 : Cond.methodLink RX4 147 yX2_kindsOf ∈ zt := zt_of (i := 455) (by decide +kernel) (by decide +kernel)
theorem mlX2_135 : Cond.methodLink RX2 135 yX2_isMarkedBy ∈ zt := zt_of (i := 459) (by decide +kernel) (by decide +kernel)
theorem mlX2_138 : Cond.methodLink RX2 138 yX2_bitsOfLatest ∈ zt := zt_of (i := 463) (by decide +kernel) (by decide +kernel)
theorem mlL_106 : Cond.methodLink RL 106 yX4_deed ∈ zt := zt_of (i := 467) (by decide +kernel) (by decide +kernel)
theorem mlL_110 : Cond.methodLink RL 110 yX4_message ∈ zt := zt_of (i := 471) (by decide +kernel) (by decide +kernel)
theorem mlL_114 : Cond.methodLink RL 114 yX4_count ∈ zt := zt_of (i := 475) (by decide +kernel) (by decide +kernel)
theorem mlL_73 : Cond.methodLink RL 73 yL_sign ∈ zt := zt_of (i := 479) (by decide +kernel) (by decide +kernel)
theorem mlL_7 : Cond.methodLink RL 7 yX4_sign ∈ zt := zt_of (i := 483) (by decide +kernel) (by decide +kernel)
theorem mlX4_121 : Cond.methodLink RX4 121 yX4_livingSign ∈ zt := zt_of (i := 487) (by decide +kernel) (by decide +kernel)
theorem mlL_83 : Cond.methodLink RL 83 yL_path ∈ zt := zt_of (i := 557) (by decide +kernel) (by decide +kernel)
theorem mlL_15 : Cond.methodLink RL 15 yX4_path ∈ zt := zt_of (i := 560) (by decide +kernel) (by decide +kernel)
theorem mlX4_135 : Cond.methodLink RX4 135 yX1_levelOf ∈ zt := zt_of (i := 565) (by decide +kernel) (by decide +kernel)
theorem mlX4_138 : Cond.methodLink RX4 138 yX1_digitOf ∈ zt := zt_of (i := 566) (by decide +kernel) (by decide +kernel)
theorem mlX4_141 : Cond.methodLink RX4 141 yX1_siteOf ∈ zt := zt_of (i := 567) (by decide +kernel) (by decide +kernel)
theorem mlX4_144 : Cond.methodLink RX4 144 yX1_countOf ∈ zt := zt_of (i := 570) (by decide +kernel) (by decide +kernel)
theorem mlL_87 : Cond.methodLink RL 87 yL_kinds ∈ zt := zt_of (i := 573) (by decide +kernel) (by decide +kernel)
theorem mlL_19 : Cond.methodLink RL 19 yX4_kinds ∈ zt := zt_of (i := 576) (by decide +kernel) (by decide +kernel)
theorem mlL_79 : Cond.methodLink RL 79 yX5_thrown ∈ zt := zt_of (i := 580) (by decide +kernel) (by decide +kernel)
theorem mlL_25 : Cond.methodLink RL 25 yX5_init ∈ zt := zt_of (i := 586) (by decide +kernel) (by decide +kernel)
theorem flX5_1 : Cond.fieldLink RX5 1 RX5 "thrown" "I" ∈ zt := zt_of (i := 590) (by decide +kernel) (by decide +kernel)
theorem flX5_135 : Cond.fieldLink RX5 135 RX5 "deeds" "I" ∈ zt := zt_of (i := 591) (by decide +kernel) (by decide +kernel)
theorem flX5_13 : Cond.fieldLink RX5 13 RX5 "whose" "[I" ∈ zt := zt_of (i := 592) (by decide +kernel) (by decide +kernel)
theorem flX5_17 : Cond.fieldLink RX5 17 RX5 "number" "[I" ∈ zt := zt_of (i := 593) (by decide +kernel) (by decide +kernel)
theorem flX5_20 : Cond.fieldLink RX5 20 RX5 "time" "[I" ∈ zt := zt_of (i := 594) (by decide +kernel) (by decide +kernel)
theorem flX5_23 : Cond.fieldLink RX5 23 RX5 "sort" "[I" ∈ zt := zt_of (i := 595) (by decide +kernel) (by decide +kernel)
theorem flX5_26 : Cond.fieldLink RX5 26 RX5 "told" "[I" ∈ zt := zt_of (i := 596) (by decide +kernel) (by decide +kernel)
theorem flX5_29 : Cond.fieldLink RX5 29 RX5 "one" "[I" ∈ zt := zt_of (i := 597) (by decide +kernel) (by decide +kernel)
theorem flX5_32 : Cond.fieldLink RX5 32 RX5 "two" "[I" ∈ zt := zt_of (i := 598) (by decide +kernel) (by decide +kernel)
theorem flX5_35 : Cond.fieldLink RX5 35 RX5 "undone" "[Z" ∈ zt := zt_of (i := 599) (by decide +kernel) (by decide +kernel)
theorem flX5_39 : Cond.fieldLink RX5 39 RX5 "undoes" "[Z" ∈ zt := zt_of (i := 600) (by decide +kernel) (by decide +kernel)
theorem flX5_42 : Cond.fieldLink RX5 42 RX5 "levels" "[I" ∈ zt := zt_of (i := 601) (by decide +kernel) (by decide +kernel)
theorem flX5_45 : Cond.fieldLink RX5 45 RX5 "digits" "[I" ∈ zt := zt_of (i := 602) (by decide +kernel) (by decide +kernel)
theorem flX5_48 : Cond.fieldLink RX5 48 RX5 "sites" "[I" ∈ zt := zt_of (i := 603) (by decide +kernel) (by decide +kernel)
theorem flX5_51 : Cond.fieldLink RX5 51 RX5 "counts" "[I" ∈ zt := zt_of (i := 604) (by decide +kernel) (by decide +kernel)
theorem flX5_110 : Cond.fieldLink RX5 110 RX5 "typed" "I" ∈ zt := zt_of (i := 605) (by decide +kernel) (by decide +kernel)
theorem flX5_54 : Cond.fieldLink RX5 54 RX5 "sorted" "[I" ∈ zt := zt_of (i := 606) (by decide +kernel) (by decide +kernel)
theorem flX5_57 : Cond.fieldLink RX5 57 RX5 "rank" "[I" ∈ zt := zt_of (i := 607) (by decide +kernel) (by decide +kernel)
theorem flX5_60 : Cond.fieldLink RX5 60 RX5 "done" "[Z" ∈ zt := zt_of (i := 608) (by decide +kernel) (by decide +kernel)
theorem flX5_63 : Cond.fieldLink RX5 63 RX5 "waits" "[Z" ∈ zt := zt_of (i := 609) (by decide +kernel) (by decide +kernel)
theorem flX5_66 : Cond.fieldLink RX5 66 RX5 "latest" "[I" ∈ zt := zt_of (i := 610) (by decide +kernel) (by decide +kernel)
theorem flX5_69 : Cond.fieldLink RX5 69 RX5 "doneOf" "[I" ∈ zt := zt_of (i := 611) (by decide +kernel) (by decide +kernel)
theorem flX5_72 : Cond.fieldLink RX5 72 RX5 "greatest" "[I" ∈ zt := zt_of (i := 612) (by decide +kernel) (by decide +kernel)
theorem flX5_75 : Cond.fieldLink RX5 75 RX5 "streams" "[I" ∈ zt := zt_of (i := 613) (by decide +kernel) (by decide +kernel)
theorem flX5_78 : Cond.fieldLink RX5 78 RX5 "cursors" "[I" ∈ zt := zt_of (i := 614) (by decide +kernel) (by decide +kernel)
theorem flX5_145 : Cond.fieldLink RX5 145 RX5 "ways" "I" ∈ zt := zt_of (i := 615) (by decide +kernel) (by decide +kernel)
theorem flX5_81 : Cond.fieldLink RX5 81 RX5 "wayDeed" "[I" ∈ zt := zt_of (i := 616) (by decide +kernel) (by decide +kernel)
theorem flX5_84 : Cond.fieldLink RX5 84 RX5 "wayTo" "[I" ∈ zt := zt_of (i := 617) (by decide +kernel) (by decide +kernel)
theorem flX5_148 : Cond.fieldLink RX5 148 RX5 "gone" "I" ∈ zt := zt_of (i := 618) (by decide +kernel) (by decide +kernel)
theorem flX5_87 : Cond.fieldLink RX5 87 RX5 "digit" "[I" ∈ zt := zt_of (i := 619) (by decide +kernel) (by decide +kernel)
theorem flX5_90 : Cond.fieldLink RX5 90 RX5 "site" "[I" ∈ zt := zt_of (i := 620) (by decide +kernel) (by decide +kernel)
theorem flX5_93 : Cond.fieldLink RX5 93 RX5 "count" "[I" ∈ zt := zt_of (i := 621) (by decide +kernel) (by decide +kernel)
theorem flX5_116 : Cond.fieldLink RX5 116 RX5 "deep" "I" ∈ zt := zt_of (i := 622) (by decide +kernel) (by decide +kernel)
theorem mlL_29 : Cond.methodLink RL 29 yX5_stream ∈ zt := zt_of (i := 690) (by decide +kernel) (by decide +kernel)
theorem mlX5_102 : Cond.methodLink RX5 102 yX5_isReplica ∈ zt := zt_of (i := 694) (by decide +kernel) (by decide +kernel)
theorem klX5_96 : Cond.constantLong RX5 96 5 ∈ zt := zt_of (i := 697) (by decide +kernel) (by decide +kernel)
theorem mlX5_98 : Cond.methodLink RX5 98 yX5_in ∈ zt := zt_of (i := 698) (by decide +kernel) (by decide +kernel)
theorem mlL_34 : Cond.methodLink RL 34 yX5_type ∈ zt := zt_of (i := 701) (by decide +kernel) (by decide +kernel)
theorem mlX5_177 : Cond.methodLink RX5 177 yX5_sizeOf ∈ zt := zt_of (i := 705) (by decide +kernel) (by decide +kernel)
theorem mlX5_113 : Cond.methodLink RX5 113 yX5_lives ∈ zt := zt_of (i := 709) (by decide +kernel) (by decide +kernel)
theorem mlX5_106 : Cond.methodLink RX5 106 yX5_has ∈ zt := zt_of (i := 713) (by decide +kernel) (by decide +kernel)
theorem klX5_180 : Cond.constantLong RX5 180 32 ∈ zt := zt_of (i := 717) (by decide +kernel) (by decide +kernel)
theorem klX5_182 : Cond.constantLong RX5 182 126 ∈ zt := zt_of (i := 718) (by decide +kernel) (by decide +kernel)
theorem mlX5_184 : Cond.methodLink RX5 184 yX5_typeOne ∈ zt := zt_of (i := 719) (by decide +kernel) (by decide +kernel)
theorem mlX5_162 : Cond.methodLink RX5 162 yX5_signAt ∈ zt := zt_of (i := 723) (by decide +kernel) (by decide +kernel)
theorem mlX5_166 : Cond.methodLink RX5 166 yX5_nextOf ∈ zt := zt_of (i := 727) (by decide +kernel) (by decide +kernel)
theorem mlX5_169 : Cond.methodLink RX5 169 yX5_findsPath ∈ zt := zt_of (i := 731) (by decide +kernel) (by decide +kernel)
theorem knX5_119 : Cond.constant RX5 119 1664525 ∈ zt := zt_of (i := 735) (by decide +kernel) (by decide +kernel)
theorem knX5_120 : Cond.constant RX5 120 1013904223 ∈ zt := zt_of (i := 736) (by decide +kernel) (by decide +kernel)
theorem mlX5_121 : Cond.methodLink RX5 121 yX5_level ∈ zt := zt_of (i := 737) (by decide +kernel) (by decide +kernel)
theorem mlX5_125 : Cond.methodLink RX5 125 yX5_isLevel ∈ zt := zt_of (i := 741) (by decide +kernel) (by decide +kernel)
theorem mlX5_173 : Cond.methodLink RX5 173 yX5_made ∈ zt := zt_of (i := 745) (by decide +kernel) (by decide +kernel)
theorem mlX5_151 : Cond.methodLink RX5 151 yX5_sortIn ∈ zt := zt_of (i := 749) (by decide +kernel) (by decide +kernel)
theorem mlX5_129 : Cond.methodLink RX5 129 yX5_isBefore ∈ zt := zt_of (i := 753) (by decide +kernel) (by decide +kernel)
theorem mlX5_141 : Cond.methodLink RX5 141 yX5_isDone ∈ zt := zt_of (i := 757) (by decide +kernel) (by decide +kernel)
theorem mlX5_132 : Cond.methodLink RX5 132 yX5_isLater ∈ zt := zt_of (i := 761) (by decide +kernel) (by decide +kernel)
theorem mlX5_155 : Cond.methodLink RX5 155 yX5_goOn ∈ zt := zt_of (i := 765) (by decide +kernel) (by decide +kernel)
theorem mlX5_138 : Cond.methodLink RX5 138 yX5_can ∈ zt := zt_of (i := 769) (by decide +kernel) (by decide +kernel)
theorem mlX5_159 : Cond.methodLink RX5 159 yX5_send ∈ zt := zt_of (i := 773) (by decide +kernel) (by decide +kernel)
theorem mlL_38 : Cond.methodLink RL 38 yX5_paste ∈ zt := zt_of (i := 777) (by decide +kernel) (by decide +kernel)
theorem klX5_188 : Cond.constantLong RX5 188 20 ∈ zt := zt_of (i := 781) (by decide +kernel) (by decide +kernel)
theorem mlL_42 : Cond.methodLink RL 42 yX5_erase ∈ zt := zt_of (i := 782) (by decide +kernel) (by decide +kernel)
theorem mlL_47 : Cond.methodLink RL 47 yX5_undo ∈ zt := zt_of (i := 786) (by decide +kernel) (by decide +kernel)
theorem mlL_52 : Cond.methodLink RL 52 yX5_mark ∈ zt := zt_of (i := 790) (by decide +kernel) (by decide +kernel)
theorem klX5_190 : Cond.constantLong RX5 190 7 ∈ zt := zt_of (i := 794) (by decide +kernel) (by decide +kernel)
theorem mlL_56 : Cond.methodLink RL 56 yX5_deliver ∈ zt := zt_of (i := 795) (by decide +kernel) (by decide +kernel)
theorem mlX5_192 : Cond.methodLink RX5 192 yX5_drop ∈ zt := zt_of (i := 799) (by decide +kernel) (by decide +kernel)
theorem mlX5_195 : Cond.methodLink RX5 195 yX5_comes ∈ zt := zt_of (i := 803) (by decide +kernel) (by decide +kernel)
theorem mlL_60 : Cond.methodLink RL 60 yX5_lose ∈ zt := zt_of (i := 807) (by decide +kernel) (by decide +kernel)
theorem mlL_64 : Cond.methodLink RL 64 yX5_repeat ∈ zt := zt_of (i := 811) (by decide +kernel) (by decide +kernel)
theorem mlL_68 : Cond.methodLink RL 68 yX5_sync ∈ zt := zt_of (i := 815) (by decide +kernel) (by decide +kernel)
theorem mlL_72 : Cond.methodLink RL 72 yX5_length ∈ zt := zt_of (i := 819) (by decide +kernel) (by decide +kernel)
theorem mlL_78 : Cond.methodLink RL 78 yX5_sign ∈ zt := zt_of (i := 823) (by decide +kernel) (by decide +kernel)
theorem mlX5_198 : Cond.methodLink RX5 198 yX5_signOf ∈ zt := zt_of (i := 827) (by decide +kernel) (by decide +kernel)
theorem mlL_86 : Cond.methodLink RL 86 yX5_path ∈ zt := zt_of (i := 831) (by decide +kernel) (by decide +kernel)
theorem klX5_201 : Cond.constantLong RX5 201 3 ∈ zt := zt_of (i := 835) (by decide +kernel) (by decide +kernel)
theorem mlL_89 : Cond.methodLink RL 89 yX5_kinds ∈ zt := zt_of (i := 836) (by decide +kernel) (by decide +kernel)
theorem mlX5_203 : Cond.methodLink RX5 203 yX5_kindsOf ∈ zt := zt_of (i := 840) (by decide +kernel) (by decide +kernel)
theorem mlL_93 : Cond.methodLink RL 93 yX5_cursor ∈ zt := zt_of (i := 844) (by decide +kernel) (by decide +kernel)
theorem mlX5_206 : Cond.methodLink RX5 206 yX5_placeOf ∈ zt := zt_of (i := 848) (by decide +kernel) (by decide +kernel)
theorem mlL_97 : Cond.methodLink RL 97 yX5_at ∈ zt := zt_of (i := 852) (by decide +kernel) (by decide +kernel)
theorem mlL_101 : Cond.methodLink RL 101 yX5_about ∈ zt := zt_of (i := 856) (by decide +kernel) (by decide +kernel)
theorem mlL_105 : Cond.methodLink RL 105 yX5_same ∈ zt := zt_of (i := 860) (by decide +kernel) (by decide +kernel)
theorem mlL_109 : Cond.methodLink RL 109 yX5_deed ∈ zt := zt_of (i := 864) (by decide +kernel) (by decide +kernel)
theorem mlL_113 : Cond.methodLink RL 113 yX5_message ∈ zt := zt_of (i := 868) (by decide +kernel) (by decide +kernel)
theorem mlL_117 : Cond.methodLink RL 117 yX5_count ∈ zt := zt_of (i := 872) (by decide +kernel) (by decide +kernel)
theorem iniMath : Cond.initialized "java/lang/Math" ∈ zt := zt_of (i := 40) (by decide +kernel) (by decide +kernel)
theorem stMath_max : Cond.static Lib.Math.max.name ∈ zt := zt_of (i := 341) (by decide +kernel) (by decide +kernel)
theorem cdMath_max : Cond.code Lib.Math.max.name Lib.Math.max.code 2 (some .int) ∈ zt := zt_of (i := 342) (by decide +kernel) (by decide +kernel)
theorem stMath_min : Cond.static Lib.Math.min.name ∈ zt := zt_of (i := 298) (by decide +kernel) (by decide +kernel)
theorem cdMath_min : Cond.code Lib.Math.min.name Lib.Math.min.code 2 (some .int) ∈ zt := zt_of (i := 299) (by decide +kernel) (by decide +kernel)
